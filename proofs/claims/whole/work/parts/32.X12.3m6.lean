def M_X12_isLike : xa_M := (yX12_isLike, cX12_isLike, 6, some .boolean)
theorem cb_X12_isLike : xa_CB M_X12_isLike 2 := ⟨gws_at 1823 (by decide +kernel) rfl, gws_at 122 (by decide +kernel) rfl, by decide +kernel, Nat.le_of_ble_eq_true rfl⟩
def f_X12_isLike_b122 (c_X12_isLike : xa_H → Nat → Int32 → Int32 → Option (Int32 × xa_H)) (k12 : xa_H → Nat → Int32 → Int32 → Int32 → Option (Int32 × xa_H)) (h : xa_H) (l0 : Nat) (l1 : Int32) (l2 : Int32) (l3 : Int32) : Option (Int32 × xa_H) :=
  k12 h l0 l1 l2 (l3 + (1 : Int32))
set_option maxRecDepth 20000 in
theorem e_X12_isLike_b122 {G : xa_G} {d d1 : Nat} {c_X12_isLike : xa_H → Nat → Int32 → Int32 → Option (Int32 × xa_H)} (hc_X12_isLike : ∀ {h : xa_H} {a0 : Nat} {a1 : Int32} {a2 : Int32} {r : (Int32 × xa_H)}, c_X12_isLike h a0 a1 a2 = some r → xa_Ev G M_X12_isLike d1 [.ref a0, .int a1, .int a2] h (some (.int r.1)) r.2) (hck_X12_isLike : ∀ {h : xa_H} {a0 : Nat} {a1 : Int32} {a2 : Int32} {r : (Int32 × xa_H)}, c_X12_isLike h a0 a1 a2 = some r → ck [12] h a0 = some ()) (hdx : 1 ≤ d) (hd1 : d1 + 1 ≤ d) {k12 : xa_H → Nat → Int32 → Int32 → Int32 → Option (Int32 × xa_H)} (hk12 : ∀ (h : xa_H) (l0 : Nat) (l1 : Int32) (l2 : Int32) (l3 : Int32) (r : (Int32 × xa_H)), k12 h l0 l1 l2 l3 = some r → xa_V G M_X12_isLike d 12 [some (.ref l0), some (.int l1), some (.int l2), some (.int l3), none, none] [] h (some (.int r.1)) r.2) : ∀ (h : xa_H) (l0 : Nat) (l1 : Int32) (l2 : Int32) (l3 : Int32) (r : (Int32 × xa_H)), f_X12_isLike_b122 c_X12_isLike k12 h l0 l1 l2 l3 = some r → xa_V G M_X12_isLike d 122 [some (.ref l0), some (.int l1), some (.int l2), some (.int l3), none, none] [] h (some (.int r.1)) r.2 := by
  intro h l0 l1 l2 l3 r hf
  unfold f_X12_isLike_b122 at hf
  refine v_iinc dX12_isLike_122 rfl (v := (l3 + (1 : Int32))) rfl (Nat.le_of_ble_eq_true rfl) (loc' := [some (.ref l0), some (.int l1), some (.int l2), some (.int (l3 + (1 : Int32))), none, none]) rfl ?_
  refine v_goto dX12_isLike_125 (tgt := 12) (by decide) ?_
  exact hk12 h l0 l1 l2 (l3 + (1 : Int32)) r hf
def f_X12_isLike_b92 (c_X12_isLike : xa_H → Nat → Int32 → Int32 → Option (Int32 × xa_H)) (k12 : xa_H → Nat → Int32 → Int32 → Int32 → Option (Int32 × xa_H)) (k44 : xa_H → Nat → Int32 → Int32 → Int32 → Int32 → Int32 → Option (Int32 × xa_H)) (h : xa_H) (l0 : Nat) (l1 : Int32) (l2 : Int32) (l3 : Int32) (l5 : Int32) (s0 : Int32) : Option (Int32 × xa_H) :=
  k44 h l0 l1 l2 l3 s0 (l5 + (1 : Int32))
set_option maxRecDepth 20000 in
theorem e_X12_isLike_b92 {G : xa_G} {d d1 : Nat} {c_X12_isLike : xa_H → Nat → Int32 → Int32 → Option (Int32 × xa_H)} (hc_X12_isLike : ∀ {h : xa_H} {a0 : Nat} {a1 : Int32} {a2 : Int32} {r : (Int32 × xa_H)}, c_X12_isLike h a0 a1 a2 = some r → xa_Ev G M_X12_isLike d1 [.ref a0, .int a1, .int a2] h (some (.int r.1)) r.2) (hck_X12_isLike : ∀ {h : xa_H} {a0 : Nat} {a1 : Int32} {a2 : Int32} {r : (Int32 × xa_H)}, c_X12_isLike h a0 a1 a2 = some r → ck [12] h a0 = some ()) (hdx : 1 ≤ d) (hd1 : d1 + 1 ≤ d) {k12 : xa_H → Nat → Int32 → Int32 → Int32 → Option (Int32 × xa_H)} (hk12 : ∀ (h : xa_H) (l0 : Nat) (l1 : Int32) (l2 : Int32) (l3 : Int32) (r : (Int32 × xa_H)), k12 h l0 l1 l2 l3 = some r → xa_V G M_X12_isLike d 12 [some (.ref l0), some (.int l1), some (.int l2), some (.int l3), none, none] [] h (some (.int r.1)) r.2) {k44 : xa_H → Nat → Int32 → Int32 → Int32 → Int32 → Int32 → Option (Int32 × xa_H)} (hk44 : ∀ (h : xa_H) (l0 : Nat) (l1 : Int32) (l2 : Int32) (l3 : Int32) (l4 : Int32) (l5 : Int32) (r : (Int32 × xa_H)), k44 h l0 l1 l2 l3 l4 l5 = some r → xa_V G M_X12_isLike d 44 [some (.ref l0), some (.int l1), some (.int l2), some (.int l3), some (.int l4), some (.int l5)] [] h (some (.int r.1)) r.2) : ∀ (h : xa_H) (l0 : Nat) (l1 : Int32) (l2 : Int32) (l3 : Int32) (l5 : Int32) (s0 : Int32) (r : (Int32 × xa_H)), f_X12_isLike_b92 c_X12_isLike k12 k44 h l0 l1 l2 l3 l5 s0 = some r → xa_V G M_X12_isLike d 92 [some (.ref l0), some (.int l1), some (.int l2), some (.int l3), none, some (.int l5)] [.int s0] h (some (.int r.1)) r.2 := by
  intro h l0 l1 l2 l3 l5 s0 r hf
  unfold f_X12_isLike_b92 at hf
  refine v_istore dX12_isLike_92 (Nat.le_of_ble_eq_true rfl) (loc' := [some (.ref l0), some (.int l1), some (.int l2), some (.int l3), some (.int s0), some (.int l5)]) rfl ?_
  refine v_iinc dX12_isLike_94 rfl (v := (l5 + (1 : Int32))) rfl (Nat.le_of_ble_eq_true rfl) (loc' := [some (.ref l0), some (.int l1), some (.int l2), some (.int l3), some (.int s0), some (.int (l5 + (1 : Int32)))]) rfl ?_
  refine v_goto dX12_isLike_97 (tgt := 44) (by decide) ?_
  exact hk44 h l0 l1 l2 l3 s0 (l5 + (1 : Int32)) r hf
def f_X12_isLike_b91 (c_X12_isLike : xa_H → Nat → Int32 → Int32 → Option (Int32 × xa_H)) (k12 : xa_H → Nat → Int32 → Int32 → Int32 → Option (Int32 × xa_H)) (k44 : xa_H → Nat → Int32 → Int32 → Int32 → Int32 → Int32 → Option (Int32 × xa_H)) (h : xa_H) (l0 : Nat) (l1 : Int32) (l2 : Int32) (l3 : Int32) (l5 : Int32) : Option (Int32 × xa_H) :=
  f_X12_isLike_b92 c_X12_isLike k12 k44 h l0 l1 l2 l3 l5 (0 : Int32)
set_option maxRecDepth 20000 in
theorem e_X12_isLike_b91 {G : xa_G} {d d1 : Nat} {c_X12_isLike : xa_H → Nat → Int32 → Int32 → Option (Int32 × xa_H)} (hc_X12_isLike : ∀ {h : xa_H} {a0 : Nat} {a1 : Int32} {a2 : Int32} {r : (Int32 × xa_H)}, c_X12_isLike h a0 a1 a2 = some r → xa_Ev G M_X12_isLike d1 [.ref a0, .int a1, .int a2] h (some (.int r.1)) r.2) (hck_X12_isLike : ∀ {h : xa_H} {a0 : Nat} {a1 : Int32} {a2 : Int32} {r : (Int32 × xa_H)}, c_X12_isLike h a0 a1 a2 = some r → ck [12] h a0 = some ()) (hdx : 1 ≤ d) (hd1 : d1 + 1 ≤ d) {k12 : xa_H → Nat → Int32 → Int32 → Int32 → Option (Int32 × xa_H)} (hk12 : ∀ (h : xa_H) (l0 : Nat) (l1 : Int32) (l2 : Int32) (l3 : Int32) (r : (Int32 × xa_H)), k12 h l0 l1 l2 l3 = some r → xa_V G M_X12_isLike d 12 [some (.ref l0), some (.int l1), some (.int l2), some (.int l3), none, none] [] h (some (.int r.1)) r.2) {k44 : xa_H → Nat → Int32 → Int32 → Int32 → Int32 → Int32 → Option (Int32 × xa_H)} (hk44 : ∀ (h : xa_H) (l0 : Nat) (l1 : Int32) (l2 : Int32) (l3 : Int32) (l4 : Int32) (l5 : Int32) (r : (Int32 × xa_H)), k44 h l0 l1 l2 l3 l4 l5 = some r → xa_V G M_X12_isLike d 44 [some (.ref l0), some (.int l1), some (.int l2), some (.int l3), some (.int l4), some (.int l5)] [] h (some (.int r.1)) r.2) : ∀ (h : xa_H) (l0 : Nat) (l1 : Int32) (l2 : Int32) (l3 : Int32) (l5 : Int32) (r : (Int32 × xa_H)), f_X12_isLike_b91 c_X12_isLike k12 k44 h l0 l1 l2 l3 l5 = some r → xa_V G M_X12_isLike d 91 [some (.ref l0), some (.int l1), some (.int l2), some (.int l3), none, some (.int l5)] [] h (some (.int r.1)) r.2 := by
  intro h l0 l1 l2 l3 l5 r hf
  unfold f_X12_isLike_b91 at hf
  refine v_iconst dX12_isLike_91 (by decide) (v := 0) ?_
  exact e_X12_isLike_b92 hc_X12_isLike hck_X12_isLike hdx hd1 hk12 hk44 h l0 l1 l2 l3 l5 (0 : Int32) r hf
def f_X12_isLike_b44 (c_X12_isLike : xa_H → Nat → Int32 → Int32 → Option (Int32 × xa_H)) (k12 : xa_H → Nat → Int32 → Int32 → Int32 → Option (Int32 × xa_H)) : Nat → xa_H → Nat → Int32 → Int32 → Int32 → Int32 → Int32 → Option (Int32 × xa_H)
  | 0, _, _, _, _, _, _, _ => none
  | n + 1, h, l0, l1, l2, l3, l4, l5 =>
    if l1 ≤ l5 then
      if l4 = 0 then
        f_X12_isLike_b122 c_X12_isLike k12 h l0 l1 l2 l3
      else
        (c_X12_isLike h l0 (l1 + (1 : Int32)) (l2 ||| (shl (1 : Int32) l3))).bind fun q3 =>
        if q3.1 = 0 then
          f_X12_isLike_b122 c_X12_isLike k12 q3.2 l0 l1 l2 l3
        else
          some ((1 : Int32), q3.2)
    else
      if l4 = 0 then
        f_X12_isLike_b91 c_X12_isLike k12 (fun h l0 l1 l2 l3 l4 l5 => f_X12_isLike_b44 c_X12_isLike k12 n h l0 l1 l2 l3 l4 l5) h l0 l1 l2 l3 l5
      else
        (gR [12] 33 h l0).bind fun x6 =>
        (gR [12] 42 h l0).bind fun x7 =>
        (aI h x7 l5).bind fun x8 =>
        (aI h x6 (((6 : Int32) * l3) + x8)).bind fun x9 =>
        (gR [12] 32 h l0).bind fun x10 =>
        (aI h x10 (((6 : Int32) * l1) + l5)).bind fun x11 =>
        if x9 = x11 then
          f_X12_isLike_b92 c_X12_isLike k12 (fun h l0 l1 l2 l3 l4 l5 => f_X12_isLike_b44 c_X12_isLike k12 n h l0 l1 l2 l3 l4 l5) h l0 l1 l2 l3 l5 (1 : Int32)
        else
          f_X12_isLike_b91 c_X12_isLike k12 (fun h l0 l1 l2 l3 l4 l5 => f_X12_isLike_b44 c_X12_isLike k12 n h l0 l1 l2 l3 l4 l5) h l0 l1 l2 l3 l5
set_option maxRecDepth 20000 in
theorem e_X12_isLike_b44 {G : xa_G} {d d1 : Nat} {c_X12_isLike : xa_H → Nat → Int32 → Int32 → Option (Int32 × xa_H)} (hc_X12_isLike : ∀ {h : xa_H} {a0 : Nat} {a1 : Int32} {a2 : Int32} {r : (Int32 × xa_H)}, c_X12_isLike h a0 a1 a2 = some r → xa_Ev G M_X12_isLike d1 [.ref a0, .int a1, .int a2] h (some (.int r.1)) r.2) (hck_X12_isLike : ∀ {h : xa_H} {a0 : Nat} {a1 : Int32} {a2 : Int32} {r : (Int32 × xa_H)}, c_X12_isLike h a0 a1 a2 = some r → ck [12] h a0 = some ()) (hdx : 1 ≤ d) (hd1 : d1 + 1 ≤ d) {k12 : xa_H → Nat → Int32 → Int32 → Int32 → Option (Int32 × xa_H)} (hk12 : ∀ (h : xa_H) (l0 : Nat) (l1 : Int32) (l2 : Int32) (l3 : Int32) (r : (Int32 × xa_H)), k12 h l0 l1 l2 l3 = some r → xa_V G M_X12_isLike d 12 [some (.ref l0), some (.int l1), some (.int l2), some (.int l3), none, none] [] h (some (.int r.1)) r.2) : ∀ (n : Nat) (h : xa_H) (l0 : Nat) (l1 : Int32) (l2 : Int32) (l3 : Int32) (l4 : Int32) (l5 : Int32) (r : (Int32 × xa_H)), f_X12_isLike_b44 c_X12_isLike k12 n h l0 l1 l2 l3 l4 l5 = some r → xa_V G M_X12_isLike d 44 [some (.ref l0), some (.int l1), some (.int l2), some (.int l3), some (.int l4), some (.int l5)] [] h (some (.int r.1)) r.2 := by
  intro n
  induction n with
  | zero =>
    intro h l0 l1 l2 l3 l4 l5 r hf
    cases (show (none : Option (Int32 × xa_H)) = some r from hf)
  | succ n ih =>
    intro h l0 l1 l2 l3 l4 l5 r hf
    rw [f_X12_isLike_b44] at hf
    refine v_iload dX12_isLike_44 rfl ?_
    refine v_iload_n dX12_isLike_46 rfl ?_
    refine v_icmp_ge dX12_isLike_47 (tgt := 100) (by decide) (fun c1 => ?_) (fun c1 => ?_)
    · replace hf := (if_pos c1).symm.trans hf
      refine v_iload dX12_isLike_100 rfl ?_
      refine v_if_eq dX12_isLike_102 (tgt := 122) (by decide) (fun c2 => ?_) (fun c2 => ?_)
      · replace hf := (if_pos c2).symm.trans hf
        exact xa_weak (loc := [some (.ref l0), some (.int l1), some (.int l2), some (.int l3), none, none]) ⟨rfl, ⟨rfl, ⟨rfl, ⟨rfl, trivial⟩⟩⟩⟩ (e_X12_isLike_b122 hc_X12_isLike hck_X12_isLike hdx hd1 hk12 h l0 l1 l2 l3 r hf)
      · replace hf := (if_neg c2).symm.trans hf
        refine v_aload_n dX12_isLike_105 rfl ?_
        refine v_iload_n dX12_isLike_106 rfl ?_
        refine v_iconst dX12_isLike_107 (by decide) (v := 1) ?_
        refine v_iadd dX12_isLike_108 ?_
        refine v_iload_n dX12_isLike_109 rfl ?_
        refine v_iconst dX12_isLike_110 (by decide) (v := 1) ?_
        refine v_iload_n dX12_isLike_111 rfl ?_
        refine w_ishl dX12_isLike_112 ?_
        refine v_ior dX12_isLike_113 ?_
        obtain ⟨q3, eq3, hf⟩ := ob hf
        refine v_callV dX12_isLike_114 ⟨cb_X12_isLike, ml_12_444, im_X12_isLike⟩ se_12_X12_isLike (hck_X12_isLike eq3) (hc_X12_isLike eq3) hd1 (As := [.int (l1 + (1 : Int32)), .int (l2 ||| (shl (1 : Int32) l3))]) rfl (st := []) rfl (Nat.le_of_ble_eq_true rfl) rfl ?_
        refine v_if_eq dX12_isLike_117 (tgt := 122) (by decide) (fun c4 => ?_) (fun c4 => ?_)
        · replace hf := (if_pos c4).symm.trans hf
          exact xa_weak (loc := [some (.ref l0), some (.int l1), some (.int l2), some (.int l3), none, none]) ⟨rfl, ⟨rfl, ⟨rfl, ⟨rfl, trivial⟩⟩⟩⟩ (e_X12_isLike_b122 hc_X12_isLike hck_X12_isLike hdx hd1 hk12 q3.2 l0 l1 l2 l3 r hf)
        · replace hf := (if_neg c4).symm.trans hf
          refine v_iconst dX12_isLike_120 (by decide) (v := 1) ?_
          replace hf := Option.some.inj hf
          subst hf
          exact v_zret dX12_isLike_121 rfl (by decide)
    · replace hf := (if_neg c1).symm.trans hf
      refine v_iload dX12_isLike_50 rfl ?_
      refine v_if_eq dX12_isLike_52 (tgt := 91) (by decide) (fun c5 => ?_) (fun c5 => ?_)
      · replace hf := (if_pos c5).symm.trans hf
        exact xa_weak (loc := [some (.ref l0), some (.int l1), some (.int l2), some (.int l3), none, some (.int l5)]) ⟨rfl, ⟨rfl, ⟨rfl, ⟨rfl, ⟨rfl, trivial⟩⟩⟩⟩⟩ (e_X12_isLike_b91 hc_X12_isLike hck_X12_isLike hdx hd1 hk12 ih h l0 l1 l2 l3 l5 r hf)
      · replace hf := (if_neg c5).symm.trans hf
        refine v_aload_n dX12_isLike_55 rfl ?_
        obtain ⟨x6, ex6, hf⟩ := ob hf
        refine v_getR dX12_isLike_56 fl_12_64 ex6 ?_
        refine v_bipush dX12_isLike_59 (by decide) (v := 6) ?_
        refine v_iload_n dX12_isLike_61 rfl ?_
        refine v_imul dX12_isLike_62 ?_
        refine v_aload_n dX12_isLike_63 rfl ?_
        obtain ⟨x7, ex7, hf⟩ := ob hf
        refine v_getR dX12_isLike_64 fl_12_86 ex7 ?_
        refine v_iload dX12_isLike_67 rfl ?_
        obtain ⟨x8, ex8, hf⟩ := ob hf
        refine v_ialoadI dX12_isLike_69 ex8 ?_
        refine v_iadd dX12_isLike_70 ?_
        obtain ⟨x9, ex9, hf⟩ := ob hf
        refine v_ialoadI dX12_isLike_71 ex9 ?_
        refine v_aload_n dX12_isLike_72 rfl ?_
        obtain ⟨x10, ex10, hf⟩ := ob hf
        refine v_getR dX12_isLike_73 fl_12_61 ex10 ?_
        refine v_bipush dX12_isLike_76 (by decide) (v := 6) ?_
        refine v_iload_n dX12_isLike_78 rfl ?_
        refine v_imul dX12_isLike_79 ?_
        refine v_iload dX12_isLike_80 rfl ?_
        refine v_iadd dX12_isLike_82 ?_
        obtain ⟨x11, ex11, hf⟩ := ob hf
        refine v_ialoadI dX12_isLike_83 ex11 ?_
        refine v_icmp_ne dX12_isLike_84 (tgt := 91) (by decide) (fun c12 => ?_) (fun c12 => ?_)
        · replace hf := (if_neg c12).symm.trans hf
          exact xa_weak (loc := [some (.ref l0), some (.int l1), some (.int l2), some (.int l3), none, some (.int l5)]) ⟨rfl, ⟨rfl, ⟨rfl, ⟨rfl, ⟨rfl, trivial⟩⟩⟩⟩⟩ (e_X12_isLike_b91 hc_X12_isLike hck_X12_isLike hdx hd1 hk12 ih h l0 l1 l2 l3 l5 r hf)
        · replace hf := (if_pos c12).symm.trans hf
          refine v_iconst dX12_isLike_87 (by decide) (v := 1) ?_
          refine v_goto dX12_isLike_88 (tgt := 92) (by decide) ?_
          exact xa_weak (loc := [some (.ref l0), some (.int l1), some (.int l2), some (.int l3), none, some (.int l5)]) ⟨rfl, ⟨rfl, ⟨rfl, ⟨rfl, ⟨rfl, trivial⟩⟩⟩⟩⟩ (e_X12_isLike_b92 hc_X12_isLike hck_X12_isLike hdx hd1 hk12 ih h l0 l1 l2 l3 l5 (1 : Int32) r hf)
def f_X12_isLike_b12 (c_X12_isLike : xa_H → Nat → Int32 → Int32 → Option (Int32 × xa_H)) : Nat → xa_H → Nat → Int32 → Int32 → Int32 → Option (Int32 × xa_H)
  | 0, _, _, _, _, _ => none
  | n + 1, h, l0, l1, l2, l3 =>
    (gI [12] 26 h l0).bind fun x1 =>
    if x1 ≤ l3 then
      some ((0 : Int32), h)
    else
      (f_X12_has h l2 l3).bind fun q3 =>
      if q3 = 0 then
        (gR [12] 42 h l0).bind fun x5 =>
        (pI h x5 l1 l3).bind fun h6 =>
        f_X12_isLike_b44 c_X12_isLike (fun h l0 l1 l2 l3 => f_X12_isLike_b12 c_X12_isLike n h l0 l1 l2 l3) 1048576 h6 l0 l1 l2 l3 (1 : Int32) (0 : Int32)
      else
        f_X12_isLike_b122 c_X12_isLike (fun h l0 l1 l2 l3 => f_X12_isLike_b12 c_X12_isLike n h l0 l1 l2 l3) h l0 l1 l2 l3
set_option maxRecDepth 20000 in
theorem e_X12_isLike_b12 {G : xa_G} {d d1 : Nat} {c_X12_isLike : xa_H → Nat → Int32 → Int32 → Option (Int32 × xa_H)} (hc_X12_isLike : ∀ {h : xa_H} {a0 : Nat} {a1 : Int32} {a2 : Int32} {r : (Int32 × xa_H)}, c_X12_isLike h a0 a1 a2 = some r → xa_Ev G M_X12_isLike d1 [.ref a0, .int a1, .int a2] h (some (.int r.1)) r.2) (hck_X12_isLike : ∀ {h : xa_H} {a0 : Nat} {a1 : Int32} {a2 : Int32} {r : (Int32 × xa_H)}, c_X12_isLike h a0 a1 a2 = some r → ck [12] h a0 = some ()) (hdx : 1 ≤ d) (hd1 : d1 + 1 ≤ d) : ∀ (n : Nat) (h : xa_H) (l0 : Nat) (l1 : Int32) (l2 : Int32) (l3 : Int32) (r : (Int32 × xa_H)), f_X12_isLike_b12 c_X12_isLike n h l0 l1 l2 l3 = some r → xa_V G M_X12_isLike d 12 [some (.ref l0), some (.int l1), some (.int l2), some (.int l3), none, none] [] h (some (.int r.1)) r.2 := by
  intro n
  induction n with
  | zero =>
    intro h l0 l1 l2 l3 r hf
    cases (show (none : Option (Int32 × xa_H)) = some r from hf)
  | succ n ih =>
    intro h l0 l1 l2 l3 r hf
    rw [f_X12_isLike_b12] at hf
    refine v_iload_n dX12_isLike_12 rfl ?_
    refine v_aload_n dX12_isLike_13 rfl ?_
    obtain ⟨x1, ex1, hf⟩ := ob hf
    refine v_getI dX12_isLike_14 fl_12_307 ex1 ?_
    refine v_icmp_ge dX12_isLike_17 (tgt := 128) (by decide) (fun c2 => ?_) (fun c2 => ?_)
    · replace hf := (if_pos c2).symm.trans hf
      refine v_iconst dX12_isLike_128 (by decide) (v := 0) ?_
      replace hf := Option.some.inj hf
      subst hf
      exact v_zret dX12_isLike_129 rfl (by decide)
    · replace hf := (if_neg c2).symm.trans hf
      refine v_iload_n dX12_isLike_20 rfl ?_
      refine v_iload_n dX12_isLike_21 rfl ?_
      obtain ⟨q3, eq3, hf⟩ := ob hf
      refine v_callS dX12_isLike_22 ⟨cb_X12_has, ml_12_244, sm_X12_has⟩ (ev_X12_has eq3) (Nat.le_trans (by decide) hdx) (As := [.int l2, .int l3]) rfl (st := []) rfl (Nat.le_of_ble_eq_true rfl) rfl ?_
      refine v_if_eq dX12_isLike_25 (tgt := 31) (by decide) (fun c4 => ?_) (fun c4 => ?_)
      · replace hf := (if_pos c4).symm.trans hf
        refine v_aload_n dX12_isLike_31 rfl ?_
        obtain ⟨x5, ex5, hf⟩ := ob hf
        refine v_getR dX12_isLike_32 fl_12_86 ex5 ?_
        refine v_iload_n dX12_isLike_35 rfl ?_
        refine v_iload_n dX12_isLike_36 rfl ?_
        obtain ⟨h6, eh6, hf⟩ := ob hf
        refine v_iastoreI dX12_isLike_37 eh6 ?_
        refine v_iconst dX12_isLike_38 (by decide) (v := 1) ?_
        refine v_istore dX12_isLike_39 (Nat.le_of_ble_eq_true rfl) (loc' := [some (.ref l0), some (.int l1), some (.int l2), some (.int l3), some (.int (1 : Int32)), none]) rfl ?_
        refine v_iconst dX12_isLike_41 (by decide) (v := 0) ?_
        refine v_istore dX12_isLike_42 (Nat.le_of_ble_eq_true rfl) (loc' := [some (.ref l0), some (.int l1), some (.int l2), some (.int l3), some (.int (1 : Int32)), some (.int (0 : Int32))]) rfl ?_
        exact e_X12_isLike_b44 hc_X12_isLike hck_X12_isLike hdx hd1 ih 1048576 h6 l0 l1 l2 l3 (1 : Int32) (0 : Int32) r hf
      · replace hf := (if_neg c4).symm.trans hf
        refine v_goto dX12_isLike_28 (tgt := 122) (by decide) ?_
        exact e_X12_isLike_b122 hc_X12_isLike hck_X12_isLike hdx hd1 ih h l0 l1 l2 l3 r hf
def g_X12_isLike (c_X12_isLike : xa_H → Nat → Int32 → Int32 → Option (Int32 × xa_H)) (h : xa_H) (l0 : Nat) (l1 : Int32) (l2 : Int32) : Option (Int32 × xa_H) :=
  (ck [12] h l0).bind fun _ =>
  (gI [12] 26 h l0).bind fun x1 =>
  if l1 = x1 then
    some ((1 : Int32), h)
  else
    f_X12_isLike_b12 c_X12_isLike 1048576 h l0 l1 l2 (0 : Int32)
set_option maxRecDepth 20000 in
theorem eg_X12_isLike {G : xa_G} {d d1 : Nat} {c_X12_isLike : xa_H → Nat → Int32 → Int32 → Option (Int32 × xa_H)} (hc_X12_isLike : ∀ {h : xa_H} {a0 : Nat} {a1 : Int32} {a2 : Int32} {r : (Int32 × xa_H)}, c_X12_isLike h a0 a1 a2 = some r → xa_Ev G M_X12_isLike d1 [.ref a0, .int a1, .int a2] h (some (.int r.1)) r.2) (hck_X12_isLike : ∀ {h : xa_H} {a0 : Nat} {a1 : Int32} {a2 : Int32} {r : (Int32 × xa_H)}, c_X12_isLike h a0 a1 a2 = some r → ck [12] h a0 = some ()) (hdx : 1 ≤ d) (hd1 : d1 + 1 ≤ d) {h : xa_H} {l0 : Nat} {l1 : Int32} {l2 : Int32} {r : (Int32 × xa_H)} (hf : g_X12_isLike c_X12_isLike h l0 l1 l2 = some r) : xa_Ev G M_X12_isLike d [.ref l0, .int l1, .int l2] h (some (.int r.1)) r.2 := by
  refine xa_entry (by decide +kernel) (loc := [some (.ref l0), some (.int l1), some (.int l2), none, none, none]) rfl (Nat.le_of_ble_eq_true rfl) ?_
  unfold g_X12_isLike at hf
  obtain ⟨u0, eu0, hf⟩ := ob hf
  refine v_iload_n dX12_isLike_0 rfl ?_
  refine v_aload_n dX12_isLike_1 rfl ?_
  obtain ⟨x1, ex1, hf⟩ := ob hf
  refine v_getI dX12_isLike_2 fl_12_307 ex1 ?_
  refine v_icmp_ne dX12_isLike_5 (tgt := 10) (by decide) (fun c2 => ?_) (fun c2 => ?_)
  · replace hf := (if_neg c2).symm.trans hf
    refine v_iconst dX12_isLike_10 (by decide) (v := 0) ?_
    refine v_istore_n (i := 3) rfl dX12_isLike_11 (Nat.le_of_ble_eq_true rfl) (loc' := [some (.ref l0), some (.int l1), some (.int l2), some (.int (0 : Int32)), none, none]) rfl ?_
    exact e_X12_isLike_b12 hc_X12_isLike hck_X12_isLike hdx hd1 1048576 h l0 l1 l2 (0 : Int32) r hf
  · replace hf := (if_pos c2).symm.trans hf
    refine v_iconst dX12_isLike_8 (by decide) (v := 1) ?_
    replace hf := Option.some.inj hf
    subst hf
    exact v_zret dX12_isLike_9 rfl (by decide)
theorem cg_X12_isLike {c_X12_isLike : xa_H → Nat → Int32 → Int32 → Option (Int32 × xa_H)} {h : xa_H} {l0 : Nat} {l1 : Int32} {l2 : Int32} {r : (Int32 × xa_H)} (hf : g_X12_isLike c_X12_isLike h l0 l1 l2 = some r) : ck [12] h l0 = some () := by
  obtain ⟨u, e, -⟩ := ob hf
  exact e
def f_X12_isLike : Nat → xa_H → Nat → Int32 → Int32 → Option (Int32 × xa_H)
  | 0, _, _, _, _ => none
  | n + 1, h, a0, a1, a2 => g_X12_isLike (f_X12_isLike n) h a0 a1 a2
theorem ckf_X12_isLike {n : Nat} {h : xa_H} {a0 : Nat} {a1 : Int32} {a2 : Int32} {r : (Int32 × xa_H)} (hf : f_X12_isLike n h a0 a1 a2 = some r) : ck [12] h a0 = some () := by
  cases n with
  | zero => cases (show (none : Option (Int32 × xa_H)) = some r from hf)
  | succ n => exact cg_X12_isLike (c_X12_isLike := (f_X12_isLike n)) hf
theorem evg_X12_isLike {G : xa_G} : ∀ n : Nat, (∀ {h : xa_H} {a0 : Nat} {a1 : Int32} {a2 : Int32} {r : (Int32 × xa_H)}, f_X12_isLike n h a0 a1 a2 = some r → xa_Ev G M_X12_isLike (1 + n) [.ref a0, .int a1, .int a2] h (some (.int r.1)) r.2) := by
  intro n
  induction n with
  | zero => exact (fun hf => by cases (show (none : Option (Int32 × xa_H)) = some _ from hf))
  | succ n ih => exact (fun hf => eg_X12_isLike ih ckf_X12_isLike (by omega) (by omega) hf)
theorem ev_X12_isLike {G : xa_G} {n : Nat} {h : xa_H} {a0 : Nat} {a1 : Int32} {a2 : Int32} {r : (Int32 × xa_H)} (hf : f_X12_isLike n h a0 a1 a2 = some r) : xa_Ev G M_X12_isLike (1 + n) [.ref a0, .int a1, .int a2] h (some (.int r.1)) r.2 := (evg_X12_isLike n) hf
def M_X12_keep : xa_M := (yX12_keep, cX12_keep, 2, some .int)
theorem cb_X12_keep : xa_CB M_X12_keep 1 := ⟨gws_at 1759 (by decide +kernel) rfl, gws_at 122 (by decide +kernel) rfl, by decide +kernel, Nat.le_of_ble_eq_true rfl⟩
def f_X12_keep (h : xa_H) (l0 : Nat) (l1 : Int32) : Option (Int32 × xa_H) :=
  (ck [12] h l0).bind fun _ =>
  (xp [12] 0 h l0 (.int (0 : Int32))).bind fun h1 =>
  (f_X12_isHouse h1 l0 l1).bind fun q2 =>
  if q2 = 0 then
    (f_X12_refused h1 l0 (0 : Int32) (-1 : Int32)).bind fun q10 =>
    some (q10.1, q10.2)
  else
    (f_X12_remember h1 l0).bind fun q4 =>
    (gR [12] 32 q4 l0).bind fun x5 =>
    (aI q4 x5 (48 : Int32)).bind fun x6 =>
    (pI q4 x5 (48 : Int32) (x6 ^^^ (shl (1 : Int32) l1))).bind fun h7 =>
    (gR [12] 32 h7 l0).bind fun x8 =>
    (aI h7 x8 (48 : Int32)).bind fun x9 =>
    some (((shr x9 l1) &&& (1 : Int32)), h7)
set_option maxRecDepth 20000 in
theorem ev_X12_keep {G : xa_G} {h : xa_H} {l0 : Nat} {l1 : Int32} {r : (Int32 × xa_H)} (hf : f_X12_keep h l0 l1 = some r) : xa_Ev G M_X12_keep 1 [.ref l0, .int l1] h (some (.int r.1)) r.2 := by
  refine xa_entry (by decide +kernel) (loc := [some (.ref l0), some (.int l1)]) rfl (Nat.le_of_ble_eq_true rfl) ?_
  unfold f_X12_keep at hf
  obtain ⟨u0, eu0, hf⟩ := ob hf
  refine v_aload_n dX12_keep_0 rfl ?_
  refine v_iconst dX12_keep_1 (by decide) (v := 0) ?_
  obtain ⟨h1, eh1, hf⟩ := ob hf
  refine v_put dX12_keep_2 fp_12_111 (fun z => by cases z) (fun _ => rfl) (fun _ => rfl) eh1 ?_
  refine v_aload_n dX12_keep_5 rfl ?_
  refine v_iload_n dX12_keep_6 rfl ?_
  obtain ⟨q2, eq2, hf⟩ := ob hf
  refine v_callV dX12_keep_7 ⟨cb_X12_isHouse, ml_12_335, im_X12_isHouse⟩ se_12_X12_isHouse (ckf_X12_isHouse eq2) (ev_X12_isHouse eq2) (by decide) (As := [.int l1]) rfl (st := []) rfl (Nat.le_of_ble_eq_true rfl) rfl ?_
  refine v_if_ne dX12_keep_10 (tgt := 20) (by decide) (fun c3 => ?_) (fun c3 => ?_)
  · replace hf := (if_neg c3).symm.trans hf
    refine v_aload_n dX12_keep_20 rfl ?_
    obtain ⟨q4, eq4, hf⟩ := ob hf
    refine v_callV dX12_keep_21 ⟨cb_X12_remember, ml_12_388, im_X12_remember⟩ se_12_X12_remember (ckf_X12_remember eq4) (ev_X12_remember eq4) (by decide) (As := []) rfl (st := []) rfl (Nat.le_of_ble_eq_true rfl) rfl ?_
    refine v_aload_n dX12_keep_24 rfl ?_
    obtain ⟨x5, ex5, hf⟩ := ob hf
    refine v_getR dX12_keep_25 fl_12_61 ex5 ?_
    refine v_bipush dX12_keep_28 (by decide) (v := 48) ?_
    refine v_dup2 dX12_keep_30 rfl rfl ?_
    obtain ⟨x6, ex6, hf⟩ := ob hf
    refine v_ialoadI dX12_keep_31 ex6 ?_
    refine v_iconst dX12_keep_32 (by decide) (v := 1) ?_
    refine v_iload_n dX12_keep_33 rfl ?_
    refine w_ishl dX12_keep_34 ?_
    refine v_ixor dX12_keep_35 ?_
    obtain ⟨h7, eh7, hf⟩ := ob hf
    refine v_iastoreI dX12_keep_36 eh7 ?_
    refine v_aload_n dX12_keep_37 rfl ?_
    obtain ⟨x8, ex8, hf⟩ := ob hf
    refine v_getR dX12_keep_38 fl_12_61 ex8 ?_
    refine v_bipush dX12_keep_41 (by decide) (v := 48) ?_
    obtain ⟨x9, ex9, hf⟩ := ob hf
    refine v_ialoadI dX12_keep_43 ex9 ?_
    refine v_iload_n dX12_keep_44 rfl ?_
    refine w_ishr dX12_keep_45 ?_
    refine v_iconst dX12_keep_46 (by decide) (v := 1) ?_
    refine v_iand dX12_keep_47 ?_
    replace hf := Option.some.inj hf
    subst hf
    exact v_iret dX12_keep_48 rfl
  · replace hf := (if_pos c3).symm.trans hf
    refine v_aload_n dX12_keep_13 rfl ?_
    refine v_iconst dX12_keep_14 (by decide) (v := 0) ?_
    refine v_iconst dX12_keep_15 (by decide) (v := -1) ?_
    obtain ⟨q10, eq10, hf⟩ := ob hf
    refine v_callV dX12_keep_16 ⟨cb_X12_refused, ml_12_397, im_X12_refused⟩ se_12_X12_refused (ckf_X12_refused eq10) (ev_X12_refused eq10) (by decide) (As := [.int (0 : Int32), .int (-1 : Int32)]) rfl (st := []) rfl (Nat.le_of_ble_eq_true rfl) rfl ?_
    replace hf := Option.some.inj hf
    subst hf
    exact v_iret dX12_keep_19 rfl
theorem ckf_X12_keep {h : xa_H} {l0 : Nat} {l1 : Int32} {r : (Int32 × xa_H)} (hf : f_X12_keep h l0 l1 = some r) : ck [12] h l0 = some () := by
  obtain ⟨u, e, -⟩ := ob hf
  exact e
def M_X12_law : xa_M := (yX12_law, cX12_law, 2, some .boolean)
theorem cb_X12_law : xa_CB M_X12_law 1 := ⟨gws_at 1662 (by decide +kernel) rfl, gws_at 122 (by decide +kernel) rfl, by decide +kernel, Nat.le_of_ble_eq_true rfl⟩
def f_X12_law_b28 (h : xa_H) (l0 : Nat) (l1 : Int32) : Option (Int32 × xa_H) :=
  (xp [12] 35 h l0 (.int l1)).bind fun h1 =>
  some ((1 : Int32), h1)
set_option maxRecDepth 20000 in
theorem e_X12_law_b28 {G : xa_G} : ∀ (h : xa_H) (l0 : Nat) (l1 : Int32) (r : (Int32 × xa_H)), f_X12_law_b28 h l0 l1 = some r → xa_V G M_X12_law 1 28 [some (.ref l0), some (.int l1)] [] h (some (.int r.1)) r.2 := by
  intro h l0 l1 r hf
  unfold f_X12_law_b28 at hf
  refine v_aload_n dX12_law_28 rfl ?_
  refine v_iload_n dX12_law_29 rfl ?_
  obtain ⟨h1, eh1, hf⟩ := ob hf
  refine v_put dX12_law_30 fp_12_70 (fun z => by cases z) (fun _ => rfl) (fun _ => rfl) eh1 ?_
  refine v_iconst dX12_law_33 (by decide) (v := 1) ?_
  replace hf := Option.some.inj hf
  subst hf
  exact v_zret dX12_law_34 rfl (by decide)
def f_X12_law (h : xa_H) (l0 : Nat) (l1 : Int32) : Option (Int32 × xa_H) :=
  (ck [12] h l0).bind fun _ =>
  (xp [12] 0 h l0 (.int (0 : Int32))).bind fun h1 =>
  if l1 = (-1 : Int32) then
    f_X12_law_b28 h1 l0 l1
  else
    (gI [12] 7 h1 l0).bind fun x3 =>
    (f_X12_isIn h1 l1.toInt64 (0 : Int64) ((x3 - (1 : Int32))).toInt64).bind fun q4 =>
    if q4 = 0 then
      some ((0 : Int32), h1)
    else
      f_X12_law_b28 h1 l0 l1
set_option maxRecDepth 20000 in
theorem ev_X12_law {G : xa_G} {h : xa_H} {l0 : Nat} {l1 : Int32} {r : (Int32 × xa_H)} (hf : f_X12_law h l0 l1 = some r) : xa_Ev G M_X12_law 1 [.ref l0, .int l1] h (some (.int r.1)) r.2 := by
  refine xa_entry (by decide +kernel) (loc := [some (.ref l0), some (.int l1)]) rfl (Nat.le_of_ble_eq_true rfl) ?_
  unfold f_X12_law at hf
  obtain ⟨u0, eu0, hf⟩ := ob hf
  refine v_aload_n dX12_law_0 rfl ?_
  refine v_iconst dX12_law_1 (by decide) (v := 0) ?_
  obtain ⟨h1, eh1, hf⟩ := ob hf
  refine v_put dX12_law_2 fp_12_111 (fun z => by cases z) (fun _ => rfl) (fun _ => rfl) eh1 ?_
  refine v_iload_n dX12_law_5 rfl ?_
  refine v_iconst dX12_law_6 (by decide) (v := -1) ?_
  refine v_icmp_eq dX12_law_7 (tgt := 28) (by decide) (fun c2 => ?_) (fun c2 => ?_)
  · replace hf := (if_pos c2).symm.trans hf
    exact e_X12_law_b28 h1 l0 l1 r hf
  · replace hf := (if_neg c2).symm.trans hf
    refine v_iload_n dX12_law_10 rfl ?_
    refine v_i2l dX12_law_11 ?_
    refine v_lconst dX12_law_12 (by decide) (v := 0) ?_
    refine v_aload_n dX12_law_13 rfl ?_
    obtain ⟨x3, ex3, hf⟩ := ob hf
    refine v_getI dX12_law_14 fl_12_299 ex3 ?_
    refine v_iconst dX12_law_17 (by decide) (v := 1) ?_
    refine v_isub dX12_law_18 ?_
    refine v_i2l dX12_law_19 ?_
    obtain ⟨q4, eq4, hf⟩ := ob hf
    refine v_callS dX12_law_20 ⟨cb_X12_isIn, ml_12_232, sm_X12_isIn⟩ (ev_X12_isIn eq4) (by decide) (As := [.long l1.toInt64, .long (0 : Int64), .long ((x3 - (1 : Int32))).toInt64]) rfl (st := []) rfl (Nat.le_of_ble_eq_true rfl) rfl ?_
    refine v_if_ne dX12_law_23 (tgt := 28) (by decide) (fun c5 => ?_) (fun c5 => ?_)
    · replace hf := (if_neg c5).symm.trans hf
      exact e_X12_law_b28 h1 l0 l1 r hf
    · replace hf := (if_pos c5).symm.trans hf
      refine v_iconst dX12_law_26 (by decide) (v := 0) ?_
      replace hf := Option.some.inj hf
      subst hf
      exact v_zret dX12_law_27 rfl (by decide)
theorem ckf_X12_law {h : xa_H} {l0 : Nat} {l1 : Int32} {r : (Int32 × xa_H)} (hf : f_X12_law h l0 l1 = some r) : ck [12] h l0 = some () := by
  obtain ⟨u, e, -⟩ := ob hf
  exact e
def M_X12_like : xa_M := (yX12_like, cX12_like, 2, some .int)
theorem cb_X12_like : xa_CB M_X12_like 1 := ⟨gws_at 1819 (by decide +kernel) rfl, gws_at 122 (by decide +kernel) rfl, by decide +kernel, Nat.le_of_ble_eq_true rfl⟩
def f_X12_like (h : xa_H) (l0 : Nat) (l1 : Int32) : Option (Int32 × xa_H) :=
  (ck [12] h l0).bind fun _ =>
  (xp [12] 0 h l0 (.int (0 : Int32))).bind fun h1 =>
  (f_X12_isSong h1 l0 l1).bind fun q2 =>
  if q2 = 0 then
    some ((-1 : Int32), h1)
  else
    (gI [12] 26 h1 l0).bind fun x4 =>
    if x4 = 0 then
      some ((-1 : Int32), h1)
    else
      (f_X12_singsOften h1 l0 l1 (1 : Int32)).bind fun q6 =>
      if q6.1 = 0 then
        some ((-1 : Int32), q6.2)
      else
        (f_X12_isLike 10 q6.2 l0 (0 : Int32) (0 : Int32)).bind fun q8 =>
        if q8.1 = 0 then
          some ((0 : Int32), q8.2)
        else
          some ((1 : Int32), q8.2)
set_option maxRecDepth 20000 in
theorem ev_X12_like {G : xa_G} {h : xa_H} {l0 : Nat} {l1 : Int32} {r : (Int32 × xa_H)} (hf : f_X12_like h l0 l1 = some r) : xa_Ev G M_X12_like 12 [.ref l0, .int l1] h (some (.int r.1)) r.2 := by
  refine xa_entry (by decide +kernel) (loc := [some (.ref l0), some (.int l1)]) rfl (Nat.le_of_ble_eq_true rfl) ?_
  unfold f_X12_like at hf
  obtain ⟨u0, eu0, hf⟩ := ob hf
  refine v_aload_n dX12_like_0 rfl ?_
  refine v_iconst dX12_like_1 (by decide) (v := 0) ?_
  obtain ⟨h1, eh1, hf⟩ := ob hf
  refine v_put dX12_like_2 fp_12_111 (fun z => by cases z) (fun _ => rfl) (fun _ => rfl) eh1 ?_
  refine v_aload_n dX12_like_5 rfl ?_
  refine v_iload_n dX12_like_6 rfl ?_
  obtain ⟨q2, eq2, hf⟩ := ob hf
  refine v_callV dX12_like_7 ⟨cb_X12_isSong, ml_12_381, im_X12_isSong⟩ se_12_X12_isSong (ckf_X12_isSong eq2) (ev_X12_isSong eq2) (by decide) (As := [.int l1]) rfl (st := []) rfl (Nat.le_of_ble_eq_true rfl) rfl ?_
  refine v_if_eq dX12_like_10 (tgt := 29) (by decide) (fun c3 => ?_) (fun c3 => ?_)
  · replace hf := (if_pos c3).symm.trans hf
    refine v_iconst dX12_like_29 (by decide) (v := -1) ?_
    replace hf := Option.some.inj hf
    subst hf
    exact v_iret dX12_like_30 rfl
  · replace hf := (if_neg c3).symm.trans hf
    refine v_aload_n dX12_like_13 rfl ?_
    obtain ⟨x4, ex4, hf⟩ := ob hf
    refine v_getI dX12_like_14 fl_12_307 ex4 ?_
    refine v_if_eq dX12_like_17 (tgt := 29) (by decide) (fun c5 => ?_) (fun c5 => ?_)
    · replace hf := (if_pos c5).symm.trans hf
      refine v_iconst dX12_like_29 (by decide) (v := -1) ?_
      replace hf := Option.some.inj hf
      subst hf
      exact v_iret dX12_like_30 rfl
    · replace hf := (if_neg c5).symm.trans hf
      refine v_aload_n dX12_like_20 rfl ?_
      refine v_iload_n dX12_like_21 rfl ?_
      refine v_iconst dX12_like_22 (by decide) (v := 1) ?_
      obtain ⟨q6, eq6, hf⟩ := ob hf
      refine v_callV dX12_like_23 ⟨cb_X12_singsOften, ml_12_437, im_X12_singsOften⟩ se_12_X12_singsOften (ckf_X12_singsOften eq6) (ev_X12_singsOften eq6) (by decide) (As := [.int l1, .int (1 : Int32)]) rfl (st := []) rfl (Nat.le_of_ble_eq_true rfl) rfl ?_
      refine v_if_ne dX12_like_26 (tgt := 31) (by decide) (fun c7 => ?_) (fun c7 => ?_)
      · replace hf := (if_neg c7).symm.trans hf
        refine v_aload_n dX12_like_31 rfl ?_
        refine v_iconst dX12_like_32 (by decide) (v := 0) ?_
        refine v_iconst dX12_like_33 (by decide) (v := 0) ?_
        obtain ⟨q8, eq8, hf⟩ := ob hf
        refine v_callV dX12_like_34 ⟨cb_X12_isLike, ml_12_444, im_X12_isLike⟩ se_12_X12_isLike (ckf_X12_isLike eq8) (ev_X12_isLike eq8) (by decide) (As := [.int (0 : Int32), .int (0 : Int32)]) rfl (st := []) rfl (Nat.le_of_ble_eq_true rfl) rfl ?_
        refine v_if_eq dX12_like_37 (tgt := 44) (by decide) (fun c9 => ?_) (fun c9 => ?_)
        · replace hf := (if_pos c9).symm.trans hf
          refine v_iconst dX12_like_44 (by decide) (v := 0) ?_
          replace hf := Option.some.inj hf
          subst hf
          exact v_iret dX12_like_45 rfl
        · replace hf := (if_neg c9).symm.trans hf
          refine v_iconst dX12_like_40 (by decide) (v := 1) ?_
          refine v_goto dX12_like_41 (tgt := 45) (by decide) ?_
          replace hf := Option.some.inj hf
          subst hf
          exact v_iret dX12_like_45 rfl
      · replace hf := (if_pos c7).symm.trans hf
        refine v_iconst dX12_like_29 (by decide) (v := -1) ?_
        replace hf := Option.some.inj hf
        subst hf
        exact v_iret dX12_like_30 rfl
theorem ckf_X12_like {h : xa_H} {l0 : Nat} {l1 : Int32} {r : (Int32 × xa_H)} (hf : f_X12_like h l0 l1 = some r) : ck [12] h l0 = some () := by
  obtain ⟨u, e, -⟩ := ob hf
  exact e
def M_X12_log : xa_M := (yX12_log, cX12_log, 3, some .int)
theorem cb_X12_log : xa_CB M_X12_log 2 := ⟨gws_at 1788 (by decide +kernel) rfl, gws_at 122 (by decide +kernel) rfl, by decide +kernel, Nat.le_of_ble_eq_true rfl⟩
def f_X12_log (h : xa_H) (l0 : Nat) (l1 : Int32) (l2 : Int32) : Option (Int32 × xa_H) :=
  (ck [12] h l0).bind fun _ =>
  (xp [12] 0 h l0 (.int (0 : Int32))).bind fun h1 =>
  (gR [12] 32 h1 l0).bind fun x2 =>
  (aI h1 x2 (51 : Int32)).bind fun x3 =>
  (f_X12_isIn h1 l1.toInt64 (0 : Int64) ((x3 - (1 : Int32))).toInt64).bind fun q4 =>
  if q4 = 0 then
    some ((-1 : Int32), h1)
  else
    (f_X12_isIn h1 l2.toInt64 (0 : Int64) (2 : Int64)).bind fun q6 =>
    if q6 = 0 then
      some ((-1 : Int32), h1)
    else
      (gR [12] 32 h1 l0).bind fun x8 =>
      (gR [12] 32 h1 l0).bind fun x9 =>
      (aI h1 x9 (51 : Int32)).bind fun x10 =>
      (aI h1 x8 (((52 : Int32) + ((3 : Int32) * ((x10 - (1 : Int32)) - l1))) + l2)).bind fun x11 =>
      some (x11, h1)
set_option maxRecDepth 20000 in
theorem ev_X12_log {G : xa_G} {h : xa_H} {l0 : Nat} {l1 : Int32} {l2 : Int32} {r : (Int32 × xa_H)} (hf : f_X12_log h l0 l1 l2 = some r) : xa_Ev G M_X12_log 1 [.ref l0, .int l1, .int l2] h (some (.int r.1)) r.2 := by
  refine xa_entry (by decide +kernel) (loc := [some (.ref l0), some (.int l1), some (.int l2)]) rfl (Nat.le_of_ble_eq_true rfl) ?_
  unfold f_X12_log at hf
  obtain ⟨u0, eu0, hf⟩ := ob hf
  refine v_aload_n dX12_log_0 rfl ?_
  refine v_iconst dX12_log_1 (by decide) (v := 0) ?_
  obtain ⟨h1, eh1, hf⟩ := ob hf
  refine v_put dX12_log_2 fp_12_111 (fun z => by cases z) (fun _ => rfl) (fun _ => rfl) eh1 ?_
  refine v_iload_n dX12_log_5 rfl ?_
  refine v_i2l dX12_log_6 ?_
  refine v_lconst dX12_log_7 (by decide) (v := 0) ?_
  refine v_aload_n dX12_log_8 rfl ?_
  obtain ⟨x2, ex2, hf⟩ := ob hf
  refine v_getR dX12_log_9 fl_12_61 ex2 ?_
  refine v_bipush dX12_log_12 (by decide) (v := 51) ?_
  obtain ⟨x3, ex3, hf⟩ := ob hf
  refine v_ialoadI dX12_log_14 ex3 ?_
  refine v_iconst dX12_log_15 (by decide) (v := 1) ?_
  refine v_isub dX12_log_16 ?_
  refine v_i2l dX12_log_17 ?_
  obtain ⟨q4, eq4, hf⟩ := ob hf
  refine v_callS dX12_log_18 ⟨cb_X12_isIn, ml_12_232, sm_X12_isIn⟩ (ev_X12_isIn eq4) (by decide) (As := [.long l1.toInt64, .long (0 : Int64), .long ((x3 - (1 : Int32))).toInt64]) rfl (st := []) rfl (Nat.le_of_ble_eq_true rfl) rfl ?_
  refine v_if_eq dX12_log_21 (tgt := 62) (by decide) (fun c5 => ?_) (fun c5 => ?_)
  · replace hf := (if_pos c5).symm.trans hf
    refine v_iconst dX12_log_62 (by decide) (v := -1) ?_
    replace hf := Option.some.inj hf
    subst hf
    exact v_iret dX12_log_63 rfl
  · replace hf := (if_neg c5).symm.trans hf
    refine v_iload_n dX12_log_24 rfl ?_
    refine v_i2l dX12_log_25 ?_
    refine v_lconst dX12_log_26 (by decide) (v := 0) ?_
    refine v_ldc2 dX12_log_27 rfl col_12_288 ?_
    obtain ⟨q6, eq6, hf⟩ := ob hf
    refine v_callS dX12_log_30 ⟨cb_X12_isIn, ml_12_232, sm_X12_isIn⟩ (ev_X12_isIn eq6) (by decide) (As := [.long l2.toInt64, .long (0 : Int64), .long (2 : Int64)]) rfl (st := []) rfl (Nat.le_of_ble_eq_true rfl) rfl ?_
    refine v_if_eq dX12_log_33 (tgt := 62) (by decide) (fun c7 => ?_) (fun c7 => ?_)
    · replace hf := (if_pos c7).symm.trans hf
      refine v_iconst dX12_log_62 (by decide) (v := -1) ?_
      replace hf := Option.some.inj hf
      subst hf
      exact v_iret dX12_log_63 rfl
    · replace hf := (if_neg c7).symm.trans hf
      refine v_aload_n dX12_log_36 rfl ?_
      obtain ⟨x8, ex8, hf⟩ := ob hf
      refine v_getR dX12_log_37 fl_12_61 ex8 ?_
      refine v_bipush dX12_log_40 (by decide) (v := 52) ?_
      refine v_iconst dX12_log_42 (by decide) (v := 3) ?_
      refine v_aload_n dX12_log_43 rfl ?_
      obtain ⟨x9, ex9, hf⟩ := ob hf
      refine v_getR dX12_log_44 fl_12_61 ex9 ?_
      refine v_bipush dX12_log_47 (by decide) (v := 51) ?_
      obtain ⟨x10, ex10, hf⟩ := ob hf
      refine v_ialoadI dX12_log_49 ex10 ?_
      refine v_iconst dX12_log_50 (by decide) (v := 1) ?_
      refine v_isub dX12_log_51 ?_
      refine v_iload_n dX12_log_52 rfl ?_
      refine v_isub dX12_log_53 ?_
      refine v_imul dX12_log_54 ?_
      refine v_iadd dX12_log_55 ?_
      refine v_iload_n dX12_log_56 rfl ?_
      refine v_iadd dX12_log_57 ?_
      obtain ⟨x11, ex11, hf⟩ := ob hf
      refine v_ialoadI dX12_log_58 ex11 ?_
      refine v_goto dX12_log_59 (tgt := 63) (by decide) ?_
      replace hf := Option.some.inj hf
      subst hf
      exact v_iret dX12_log_63 rfl
theorem ckf_X12_log {h : xa_H} {l0 : Nat} {l1 : Int32} {l2 : Int32} {r : (Int32 × xa_H)} (hf : f_X12_log h l0 l1 l2 = some r) : ck [12] h l0 = some () := by
  obtain ⟨u, e, -⟩ := ob hf
  exact e
def M_X12_oddsFrom : xa_M := (yX12_oddsFrom, cX12_oddsFrom, 10, some .int)
theorem cb_X12_oddsFrom : xa_CB M_X12_oddsFrom 4 := ⟨gws_at 1913 (by decide +kernel) rfl, gws_at 122 (by decide +kernel) rfl, by decide +kernel, Nat.le_of_ble_eq_true rfl⟩
def f_X12_oddsFrom_b197 (c_X12_oddsFrom : xa_H → Nat → Int32 → Int32 → Int32 → Int32 → Option (Int32 × xa_H)) (k95 : xa_H → Nat → Int32 → Int32 → Int32 → Int32 → Int32 → Int32 → Int32 → Int32 → Option (Int32 × xa_H)) (h : xa_H) (l0 : Nat) (l1 : Int32) (l2 : Int32) (l3 : Int32) (l4 : Int32) (l5 : Int32) (l6 : Int32) (l8 : Int32) (s0 : Int32) (s1 : Int32) (s2 : Int32) (s3 : Int32) (s4 : Nat) (s5 : Int32) : Option (Int32 × xa_H) :=
  (c_X12_oddsFrom h s4 s3 s2 s1 s0).bind fun q1 =>
  k95 q1.2 l0 l1 l2 l3 l4 l5 l6 (s5 + q1.1) (l8 + (1 : Int32))
set_option maxRecDepth 20000 in
theorem e_X12_oddsFrom_b197 {G : xa_G} {d d1 : Nat} {c_X12_oddsFrom : xa_H → Nat → Int32 → Int32 → Int32 → Int32 → Option (Int32 × xa_H)} (hc_X12_oddsFrom : ∀ {h : xa_H} {a0 : Nat} {a1 : Int32} {a2 : Int32} {a3 : Int32} {a4 : Int32} {r : (Int32 × xa_H)}, c_X12_oddsFrom h a0 a1 a2 a3 a4 = some r → xa_Ev G M_X12_oddsFrom d1 [.ref a0, .int a1, .int a2, .int a3, .int a4] h (some (.int r.1)) r.2) (hck_X12_oddsFrom : ∀ {h : xa_H} {a0 : Nat} {a1 : Int32} {a2 : Int32} {a3 : Int32} {a4 : Int32} {r : (Int32 × xa_H)}, c_X12_oddsFrom h a0 a1 a2 a3 a4 = some r → ck [12] h a0 = some ()) (hdx : 4 ≤ d) (hd1 : d1 + 1 ≤ d) {k95 : xa_H → Nat → Int32 → Int32 → Int32 → Int32 → Int32 → Int32 → Int32 → Int32 → Option (Int32 × xa_H)} (hk95 : ∀ (h : xa_H) (l0 : Nat) (l1 : Int32) (l2 : Int32) (l3 : Int32) (l4 : Int32) (l5 : Int32) (l6 : Int32) (l7 : Int32) (l8 : Int32) (r : (Int32 × xa_H)), k95 h l0 l1 l2 l3 l4 l5 l6 l7 l8 = some r → xa_V G M_X12_oddsFrom d 95 [some (.ref l0), some (.int l1), some (.int l2), some (.int l3), some (.int l4), some (.int l5), some (.int l6), some (.int l7), some (.int l8), none] [] h (some (.int r.1)) r.2) : ∀ (h : xa_H) (l0 : Nat) (l1 : Int32) (l2 : Int32) (l3 : Int32) (l4 : Int32) (l5 : Int32) (l6 : Int32) (l8 : Int32) (s0 : Int32) (s1 : Int32) (s2 : Int32) (s3 : Int32) (s4 : Nat) (s5 : Int32) (r : (Int32 × xa_H)), f_X12_oddsFrom_b197 c_X12_oddsFrom k95 h l0 l1 l2 l3 l4 l5 l6 l8 s0 s1 s2 s3 s4 s5 = some r → xa_V G M_X12_oddsFrom d 197 [some (.ref l0), some (.int l1), some (.int l2), some (.int l3), some (.int l4), some (.int l5), some (.int l6), none, some (.int l8), none] [.int s0, .int s1, .int s2, .int s3, .ref s4, .int s5] h (some (.int r.1)) r.2 := by
  intro h l0 l1 l2 l3 l4 l5 l6 l8 s0 s1 s2 s3 s4 s5 r hf
  unfold f_X12_oddsFrom_b197 at hf
  obtain ⟨q1, eq1, hf⟩ := ob hf
  refine v_callV dX12_oddsFrom_197 ⟨cb_X12_oddsFrom, ml_12_504, im_X12_oddsFrom⟩ se_12_X12_oddsFrom (hck_X12_oddsFrom eq1) (hc_X12_oddsFrom eq1) hd1 (As := [.int s3, .int s2, .int s1, .int s0]) rfl (st := [.int s5]) rfl (Nat.le_of_ble_eq_true rfl) rfl ?_
  refine v_iadd dX12_oddsFrom_200 ?_
  refine v_istore dX12_oddsFrom_201 (Nat.le_of_ble_eq_true rfl) (loc' := [some (.ref l0), some (.int l1), some (.int l2), some (.int l3), some (.int l4), some (.int l5), some (.int l6), some (.int (s5 + q1.1)), some (.int l8), none]) rfl ?_
  refine v_iinc dX12_oddsFrom_203 rfl (v := (l8 + (1 : Int32))) rfl (Nat.le_of_ble_eq_true rfl) (loc' := [some (.ref l0), some (.int l1), some (.int l2), some (.int l3), some (.int l4), some (.int l5), some (.int l6), some (.int (s5 + q1.1)), some (.int (l8 + (1 : Int32))), none]) rfl ?_
  refine v_goto dX12_oddsFrom_206 (tgt := 95) (by decide) ?_
  exact hk95 q1.2 l0 l1 l2 l3 l4 l5 l6 (s5 + q1.1) (l8 + (1 : Int32)) r hf
def f_X12_oddsFrom_b173 (c_X12_oddsFrom : xa_H → Nat → Int32 → Int32 → Int32 → Int32 → Option (Int32 × xa_H)) (k95 : xa_H → Nat → Int32 → Int32 → Int32 → Int32 → Int32 → Int32 → Int32 → Int32 → Option (Int32 × xa_H)) (h : xa_H) (l0 : Nat) (l1 : Int32) (l2 : Int32) (l3 : Int32) (l4 : Int32) (l5 : Int32) (l6 : Int32) (l7 : Int32) (l8 : Int32) : Option (Int32 × xa_H) :=
  if l8 = (1 : Int32) then
    f_X12_oddsFrom_b197 c_X12_oddsFrom k95 h l0 l1 l2 l3 l4 l5 l6 l8 l6 l3 (l2 + (1 : Int32)) l1 l0 l7
  else
    f_X12_oddsFrom_b197 c_X12_oddsFrom k95 h l0 l1 l2 l3 l4 l5 l6 l8 (l4 - l6) l3 (l2 + (1 : Int32)) l1 l0 l7
set_option maxRecDepth 20000 in
theorem e_X12_oddsFrom_b173 {G : xa_G} {d d1 : Nat} {c_X12_oddsFrom : xa_H → Nat → Int32 → Int32 → Int32 → Int32 → Option (Int32 × xa_H)} (hc_X12_oddsFrom : ∀ {h : xa_H} {a0 : Nat} {a1 : Int32} {a2 : Int32} {a3 : Int32} {a4 : Int32} {r : (Int32 × xa_H)}, c_X12_oddsFrom h a0 a1 a2 a3 a4 = some r → xa_Ev G M_X12_oddsFrom d1 [.ref a0, .int a1, .int a2, .int a3, .int a4] h (some (.int r.1)) r.2) (hck_X12_oddsFrom : ∀ {h : xa_H} {a0 : Nat} {a1 : Int32} {a2 : Int32} {a3 : Int32} {a4 : Int32} {r : (Int32 × xa_H)}, c_X12_oddsFrom h a0 a1 a2 a3 a4 = some r → ck [12] h a0 = some ()) (hdx : 4 ≤ d) (hd1 : d1 + 1 ≤ d) {k95 : xa_H → Nat → Int32 → Int32 → Int32 → Int32 → Int32 → Int32 → Int32 → Int32 → Option (Int32 × xa_H)} (hk95 : ∀ (h : xa_H) (l0 : Nat) (l1 : Int32) (l2 : Int32) (l3 : Int32) (l4 : Int32) (l5 : Int32) (l6 : Int32) (l7 : Int32) (l8 : Int32) (r : (Int32 × xa_H)), k95 h l0 l1 l2 l3 l4 l5 l6 l7 l8 = some r → xa_V G M_X12_oddsFrom d 95 [some (.ref l0), some (.int l1), some (.int l2), some (.int l3), some (.int l4), some (.int l5), some (.int l6), some (.int l7), some (.int l8), none] [] h (some (.int r.1)) r.2) : ∀ (h : xa_H) (l0 : Nat) (l1 : Int32) (l2 : Int32) (l3 : Int32) (l4 : Int32) (l5 : Int32) (l6 : Int32) (l7 : Int32) (l8 : Int32) (r : (Int32 × xa_H)), f_X12_oddsFrom_b173 c_X12_oddsFrom k95 h l0 l1 l2 l3 l4 l5 l6 l7 l8 = some r → xa_V G M_X12_oddsFrom d 173 [some (.ref l0), some (.int l1), some (.int l2), some (.int l3), some (.int l4), some (.int l5), some (.int l6), some (.int l7), some (.int l8), none] [] h (some (.int r.1)) r.2 := by
  intro h l0 l1 l2 l3 l4 l5 l6 l7 l8 r hf
  unfold f_X12_oddsFrom_b173 at hf
  refine v_iload dX12_oddsFrom_173 rfl ?_
  refine v_aload_n dX12_oddsFrom_175 rfl ?_
  refine v_iload_n dX12_oddsFrom_176 rfl ?_
  refine v_iload_n dX12_oddsFrom_177 rfl ?_
  refine v_iconst dX12_oddsFrom_178 (by decide) (v := 1) ?_
  refine v_iadd dX12_oddsFrom_179 ?_
  refine v_iload_n dX12_oddsFrom_180 rfl ?_
  refine v_iload dX12_oddsFrom_181 rfl ?_
  refine v_iconst dX12_oddsFrom_183 (by decide) (v := 1) ?_
  refine v_icmp_ne dX12_oddsFrom_184 (tgt := 192) (by decide) (fun c1 => ?_) (fun c1 => ?_)
  · replace hf := (if_neg c1).symm.trans hf
    refine v_iload dX12_oddsFrom_192 rfl ?_
    refine v_iload dX12_oddsFrom_194 rfl ?_
    refine v_isub dX12_oddsFrom_196 ?_
    exact xa_weak (loc := [some (.ref l0), some (.int l1), some (.int l2), some (.int l3), some (.int l4), some (.int l5), some (.int l6), none, some (.int l8), none]) ⟨rfl, ⟨rfl, ⟨rfl, ⟨rfl, ⟨rfl, ⟨rfl, ⟨rfl, ⟨rfl, trivial⟩⟩⟩⟩⟩⟩⟩⟩ (e_X12_oddsFrom_b197 hc_X12_oddsFrom hck_X12_oddsFrom hdx hd1 hk95 h l0 l1 l2 l3 l4 l5 l6 l8 (l4 - l6) l3 (l2 + (1 : Int32)) l1 l0 l7 r hf)
  · replace hf := (if_pos c1).symm.trans hf
    refine v_iload dX12_oddsFrom_187 rfl ?_
    refine v_goto dX12_oddsFrom_189 (tgt := 197) (by decide) ?_
    exact xa_weak (loc := [some (.ref l0), some (.int l1), some (.int l2), some (.int l3), some (.int l4), some (.int l5), some (.int l6), none, some (.int l8), none]) ⟨rfl, ⟨rfl, ⟨rfl, ⟨rfl, ⟨rfl, ⟨rfl, ⟨rfl, ⟨rfl, trivial⟩⟩⟩⟩⟩⟩⟩⟩ (e_X12_oddsFrom_b197 hc_X12_oddsFrom hck_X12_oddsFrom hdx hd1 hk95 h l0 l1 l2 l3 l4 l5 l6 l8 l6 l3 (l2 + (1 : Int32)) l1 l0 l7 r hf)
def f_X12_oddsFrom_b170 (c_X12_oddsFrom : xa_H → Nat → Int32 → Int32 → Int32 → Int32 → Option (Int32 × xa_H)) (k95 : xa_H → Nat → Int32 → Int32 → Int32 → Int32 → Int32 → Int32 → Int32 → Int32 → Option (Int32 × xa_H)) (h : xa_H) (l0 : Nat) (l1 : Int32) (l2 : Int32) (l3 : Int32) (l4 : Int32) (l5 : Int32) (l6 : Int32) (l7 : Int32) (l8 : Int32) (s0 : Int32) (s1 : Nat) (s2 : Nat) : Option (Int32 × xa_H) :=
  (f_X12_perhaps h s2 s1 s0).bind fun q1 =>
  f_X12_oddsFrom_b173 c_X12_oddsFrom k95 q1 l0 l1 l2 l3 l4 l5 l6 l7 l8
set_option maxRecDepth 20000 in
theorem e_X12_oddsFrom_b170 {G : xa_G} {d d1 : Nat} {c_X12_oddsFrom : xa_H → Nat → Int32 → Int32 → Int32 → Int32 → Option (Int32 × xa_H)} (hc_X12_oddsFrom : ∀ {h : xa_H} {a0 : Nat} {a1 : Int32} {a2 : Int32} {a3 : Int32} {a4 : Int32} {r : (Int32 × xa_H)}, c_X12_oddsFrom h a0 a1 a2 a3 a4 = some r → xa_Ev G M_X12_oddsFrom d1 [.ref a0, .int a1, .int a2, .int a3, .int a4] h (some (.int r.1)) r.2) (hck_X12_oddsFrom : ∀ {h : xa_H} {a0 : Nat} {a1 : Int32} {a2 : Int32} {a3 : Int32} {a4 : Int32} {r : (Int32 × xa_H)}, c_X12_oddsFrom h a0 a1 a2 a3 a4 = some r → ck [12] h a0 = some ()) (hdx : 4 ≤ d) (hd1 : d1 + 1 ≤ d) {k95 : xa_H → Nat → Int32 → Int32 → Int32 → Int32 → Int32 → Int32 → Int32 → Int32 → Option (Int32 × xa_H)} (hk95 : ∀ (h : xa_H) (l0 : Nat) (l1 : Int32) (l2 : Int32) (l3 : Int32) (l4 : Int32) (l5 : Int32) (l6 : Int32) (l7 : Int32) (l8 : Int32) (r : (Int32 × xa_H)), k95 h l0 l1 l2 l3 l4 l5 l6 l7 l8 = some r → xa_V G M_X12_oddsFrom d 95 [some (.ref l0), some (.int l1), some (.int l2), some (.int l3), some (.int l4), some (.int l5), some (.int l6), some (.int l7), some (.int l8), none] [] h (some (.int r.1)) r.2) : ∀ (h : xa_H) (l0 : Nat) (l1 : Int32) (l2 : Int32) (l3 : Int32) (l4 : Int32) (l5 : Int32) (l6 : Int32) (l7 : Int32) (l8 : Int32) (s0 : Int32) (s1 : Nat) (s2 : Nat) (r : (Int32 × xa_H)), f_X12_oddsFrom_b170 c_X12_oddsFrom k95 h l0 l1 l2 l3 l4 l5 l6 l7 l8 s0 s1 s2 = some r → xa_V G M_X12_oddsFrom d 170 [some (.ref l0), some (.int l1), some (.int l2), some (.int l3), some (.int l4), some (.int l5), some (.int l6), some (.int l7), some (.int l8), none] [.int s0, .ref s1, .ref s2] h (some (.int r.1)) r.2 := by
  intro h l0 l1 l2 l3 l4 l5 l6 l7 l8 s0 s1 s2 r hf
  unfold f_X12_oddsFrom_b170 at hf
  obtain ⟨q1, eq1, hf⟩ := ob hf
  refine v_callV dX12_oddsFrom_170 ⟨cb_X12_perhaps, ml_12_492, im_X12_perhaps⟩ se_12_X12_perhaps (ckf_X12_perhaps eq1) (ev_X12_perhaps eq1) (Nat.le_trans (by decide) hdx) (As := [.ref s1, .int s0]) rfl (st := []) rfl (Nat.le_of_ble_eq_true rfl) rfl ?_
  exact e_X12_oddsFrom_b173 hc_X12_oddsFrom hck_X12_oddsFrom hdx hd1 hk95 q1 l0 l1 l2 l3 l4 l5 l6 l7 l8 r hf
def f_X12_oddsFrom_b104 (c_X12_oddsFrom : xa_H → Nat → Int32 → Int32 → Int32 → Int32 → Option (Int32 × xa_H)) (k95 : xa_H → Nat → Int32 → Int32 → Int32 → Int32 → Int32 → Int32 → Int32 → Int32 → Option (Int32 × xa_H)) : Nat → xa_H → Nat → Int32 → Int32 → Int32 → Int32 → Int32 → Int32 → Int32 → Int32 → Int32 → Option (Int32 × xa_H)
  | 0, _, _, _, _, _, _, _, _, _, _, _ => none
  | n + 1, h, l0, l1, l2, l3, l4, l5, l6, l7, l8, l9 =>
    if (51 : Int32) ≤ l9 then
      (f_X12_isHouse h l0 l5).bind fun q2 =>
      if q2 = 0 then
        f_X12_oddsFrom_b173 c_X12_oddsFrom k95 h l0 l1 l2 l3 l4 l5 l6 l7 l8
      else
        (gR [12] 33 h l0).bind fun x4 =>
        if l8 = (1 : Int32) then
          (gI [12] 26 h l0).bind fun x6 =>
          if x6 = 0 then none else
          f_X12_oddsFrom_b170 c_X12_oddsFrom k95 h l0 l1 l2 l3 l4 l5 l6 l7 l8 (irem (l5 + (1 : Int32)) x6) x4 l0
        else
          f_X12_oddsFrom_b170 c_X12_oddsFrom k95 h l0 l1 l2 l3 l4 l5 l6 l7 l8 l5 x4 l0
    else
      (gR [12] 33 h l0).bind fun x8 =>
      (gR [12] 53 h l0).bind fun x9 =>
      (aI h x9 (((51 : Int32) * l2) + l9)).bind fun x10 =>
      (pI h x8 l9 x10).bind fun h11 =>
      f_X12_oddsFrom_b104 c_X12_oddsFrom k95 n h11 l0 l1 l2 l3 l4 l5 l6 l7 l8 (l9 + (1 : Int32))
set_option maxRecDepth 20000 in
theorem e_X12_oddsFrom_b104 {G : xa_G} {d d1 : Nat} {c_X12_oddsFrom : xa_H → Nat → Int32 → Int32 → Int32 → Int32 → Option (Int32 × xa_H)} (hc_X12_oddsFrom : ∀ {h : xa_H} {a0 : Nat} {a1 : Int32} {a2 : Int32} {a3 : Int32} {a4 : Int32} {r : (Int32 × xa_H)}, c_X12_oddsFrom h a0 a1 a2 a3 a4 = some r → xa_Ev G M_X12_oddsFrom d1 [.ref a0, .int a1, .int a2, .int a3, .int a4] h (some (.int r.1)) r.2) (hck_X12_oddsFrom : ∀ {h : xa_H} {a0 : Nat} {a1 : Int32} {a2 : Int32} {a3 : Int32} {a4 : Int32} {r : (Int32 × xa_H)}, c_X12_oddsFrom h a0 a1 a2 a3 a4 = some r → ck [12] h a0 = some ()) (hdx : 4 ≤ d) (hd1 : d1 + 1 ≤ d) {k95 : xa_H → Nat → Int32 → Int32 → Int32 → Int32 → Int32 → Int32 → Int32 → Int32 → Option (Int32 × xa_H)} (hk95 : ∀ (h : xa_H) (l0 : Nat) (l1 : Int32) (l2 : Int32) (l3 : Int32) (l4 : Int32) (l5 : Int32) (l6 : Int32) (l7 : Int32) (l8 : Int32) (r : (Int32 × xa_H)), k95 h l0 l1 l2 l3 l4 l5 l6 l7 l8 = some r → xa_V G M_X12_oddsFrom d 95 [some (.ref l0), some (.int l1), some (.int l2), some (.int l3), some (.int l4), some (.int l5), some (.int l6), some (.int l7), some (.int l8), none] [] h (some (.int r.1)) r.2) : ∀ (n : Nat) (h : xa_H) (l0 : Nat) (l1 : Int32) (l2 : Int32) (l3 : Int32) (l4 : Int32) (l5 : Int32) (l6 : Int32) (l7 : Int32) (l8 : Int32) (l9 : Int32) (r : (Int32 × xa_H)), f_X12_oddsFrom_b104 c_X12_oddsFrom k95 n h l0 l1 l2 l3 l4 l5 l6 l7 l8 l9 = some r → xa_V G M_X12_oddsFrom d 104 [some (.ref l0), some (.int l1), some (.int l2), some (.int l3), some (.int l4), some (.int l5), some (.int l6), some (.int l7), some (.int l8), some (.int l9)] [] h (some (.int r.1)) r.2 := by
  intro n
  induction n with
  | zero =>
    intro h l0 l1 l2 l3 l4 l5 l6 l7 l8 l9 r hf
    cases (show (none : Option (Int32 × xa_H)) = some r from hf)
  | succ n ih =>
    intro h l0 l1 l2 l3 l4 l5 l6 l7 l8 l9 r hf
    rw [f_X12_oddsFrom_b104] at hf
    refine v_iload dX12_oddsFrom_104 rfl ?_
    refine v_bipush dX12_oddsFrom_106 (by decide) (v := 51) ?_
    refine v_icmp_ge dX12_oddsFrom_108 (tgt := 136) (by decide) (fun c1 => ?_) (fun c1 => ?_)
    · replace hf := (if_pos c1).symm.trans hf
      refine v_aload_n dX12_oddsFrom_136 rfl ?_
      refine v_iload dX12_oddsFrom_137 rfl ?_
      obtain ⟨q2, eq2, hf⟩ := ob hf
      refine v_callV dX12_oddsFrom_139 ⟨cb_X12_isHouse, ml_12_335, im_X12_isHouse⟩ se_12_X12_isHouse (ckf_X12_isHouse eq2) (ev_X12_isHouse eq2) (Nat.le_trans (by decide) hdx) (As := [.int l5]) rfl (st := []) rfl (Nat.le_of_ble_eq_true rfl) rfl ?_
      refine v_if_eq dX12_oddsFrom_142 (tgt := 173) (by decide) (fun c3 => ?_) (fun c3 => ?_)
      · replace hf := (if_pos c3).symm.trans hf
        exact xa_weak (loc := [some (.ref l0), some (.int l1), some (.int l2), some (.int l3), some (.int l4), some (.int l5), some (.int l6), some (.int l7), some (.int l8), none]) ⟨rfl, ⟨rfl, ⟨rfl, ⟨rfl, ⟨rfl, ⟨rfl, ⟨rfl, ⟨rfl, ⟨rfl, trivial⟩⟩⟩⟩⟩⟩⟩⟩⟩ (e_X12_oddsFrom_b173 hc_X12_oddsFrom hck_X12_oddsFrom hdx hd1 hk95 h l0 l1 l2 l3 l4 l5 l6 l7 l8 r hf)
      · replace hf := (if_neg c3).symm.trans hf
        refine v_aload_n dX12_oddsFrom_145 rfl ?_
        refine v_aload_n dX12_oddsFrom_146 rfl ?_
        obtain ⟨x4, ex4, hf⟩ := ob hf
        refine v_getR dX12_oddsFrom_147 fl_12_64 ex4 ?_
        refine v_iload dX12_oddsFrom_150 rfl ?_
        refine v_iconst dX12_oddsFrom_152 (by decide) (v := 1) ?_
        refine v_icmp_ne dX12_oddsFrom_153 (tgt := 168) (by decide) (fun c5 => ?_) (fun c5 => ?_)
        · replace hf := (if_neg c5).symm.trans hf
          refine v_iload dX12_oddsFrom_168 rfl ?_
          exact xa_weak (loc := [some (.ref l0), some (.int l1), some (.int l2), some (.int l3), some (.int l4), some (.int l5), some (.int l6), some (.int l7), some (.int l8), none]) ⟨rfl, ⟨rfl, ⟨rfl, ⟨rfl, ⟨rfl, ⟨rfl, ⟨rfl, ⟨rfl, ⟨rfl, trivial⟩⟩⟩⟩⟩⟩⟩⟩⟩ (e_X12_oddsFrom_b170 hc_X12_oddsFrom hck_X12_oddsFrom hdx hd1 hk95 h l0 l1 l2 l3 l4 l5 l6 l7 l8 l5 x4 l0 r hf)
        · replace hf := (if_pos c5).symm.trans hf
          refine v_iload dX12_oddsFrom_156 rfl ?_
          refine v_iconst dX12_oddsFrom_158 (by decide) (v := 1) ?_
          refine v_iadd dX12_oddsFrom_159 ?_
          refine v_aload_n dX12_oddsFrom_160 rfl ?_
          obtain ⟨x6, ex6, hf⟩ := ob hf
          refine v_getI dX12_oddsFrom_161 fl_12_307 ex6 ?_
          by_cases z7 : x6 = 0
          · replace hf := (if_pos z7).symm.trans hf
            cases hf
          replace hf := (if_neg z7).symm.trans hf
          refine w_irem dX12_oddsFrom_164 z7 ?_
          refine v_goto dX12_oddsFrom_165 (tgt := 170) (by decide) ?_
          exact xa_weak (loc := [some (.ref l0), some (.int l1), some (.int l2), some (.int l3), some (.int l4), some (.int l5), some (.int l6), some (.int l7), some (.int l8), none]) ⟨rfl, ⟨rfl, ⟨rfl, ⟨rfl, ⟨rfl, ⟨rfl, ⟨rfl, ⟨rfl, ⟨rfl, trivial⟩⟩⟩⟩⟩⟩⟩⟩⟩ (e_X12_oddsFrom_b170 hc_X12_oddsFrom hck_X12_oddsFrom hdx hd1 hk95 h l0 l1 l2 l3 l4 l5 l6 l7 l8 (irem (l5 + (1 : Int32)) x6) x4 l0 r hf)
    · replace hf := (if_neg c1).symm.trans hf
      refine v_aload_n dX12_oddsFrom_111 rfl ?_
      obtain ⟨x8, ex8, hf⟩ := ob hf
      refine v_getR dX12_oddsFrom_112 fl_12_64 ex8 ?_
      refine v_iload dX12_oddsFrom_115 rfl ?_
      refine v_aload_n dX12_oddsFrom_117 rfl ?_
      obtain ⟨x9, ex9, hf⟩ := ob hf
      refine v_getR dX12_oddsFrom_118 fl_12_102 ex9 ?_
      refine v_bipush dX12_oddsFrom_121 (by decide) (v := 51) ?_
      refine v_iload_n dX12_oddsFrom_123 rfl ?_
      refine v_imul dX12_oddsFrom_124 ?_
      refine v_iload dX12_oddsFrom_125 rfl ?_
      refine v_iadd dX12_oddsFrom_127 ?_
      obtain ⟨x10, ex10, hf⟩ := ob hf
      refine v_ialoadI dX12_oddsFrom_128 ex10 ?_
      obtain ⟨h11, eh11, hf⟩ := ob hf
      refine v_iastoreI dX12_oddsFrom_129 eh11 ?_
      refine v_iinc dX12_oddsFrom_130 rfl (v := (l9 + (1 : Int32))) rfl (Nat.le_of_ble_eq_true rfl) (loc' := [some (.ref l0), some (.int l1), some (.int l2), some (.int l3), some (.int l4), some (.int l5), some (.int l6), some (.int l7), some (.int l8), some (.int (l9 + (1 : Int32)))]) rfl ?_
      refine v_goto dX12_oddsFrom_133 (tgt := 104) (by decide) ?_
      exact ih h11 l0 l1 l2 l3 l4 l5 l6 l7 l8 (l9 + (1 : Int32)) r hf
def f_X12_oddsFrom_b95 (c_X12_oddsFrom : xa_H → Nat → Int32 → Int32 → Int32 → Int32 → Option (Int32 × xa_H)) : Nat → xa_H → Nat → Int32 → Int32 → Int32 → Int32 → Int32 → Int32 → Int32 → Int32 → Option (Int32 × xa_H)
  | 0, _, _, _, _, _, _, _, _, _, _ => none
  | n + 1, h, l0, l1, l2, l3, l4, l5, l6, l7, l8 =>
    if (2 : Int32) ≤ l8 then
      some (l7, h)
    else
      f_X12_oddsFrom_b104 c_X12_oddsFrom (fun h l0 l1 l2 l3 l4 l5 l6 l7 l8 => f_X12_oddsFrom_b95 c_X12_oddsFrom n h l0 l1 l2 l3 l4 l5 l6 l7 l8) 1048576 h l0 l1 l2 l3 l4 l5 l6 l7 l8 (0 : Int32)
set_option maxRecDepth 20000 in
theorem e_X12_oddsFrom_b95 {G : xa_G} {d d1 : Nat} {c_X12_oddsFrom : xa_H → Nat → Int32 → Int32 → Int32 → Int32 → Option (Int32 × xa_H)} (hc_X12_oddsFrom : ∀ {h : xa_H} {a0 : Nat} {a1 : Int32} {a2 : Int32} {a3 : Int32} {a4 : Int32} {r : (Int32 × xa_H)}, c_X12_oddsFrom h a0 a1 a2 a3 a4 = some r → xa_Ev G M_X12_oddsFrom d1 [.ref a0, .int a1, .int a2, .int a3, .int a4] h (some (.int r.1)) r.2) (hck_X12_oddsFrom : ∀ {h : xa_H} {a0 : Nat} {a1 : Int32} {a2 : Int32} {a3 : Int32} {a4 : Int32} {r : (Int32 × xa_H)}, c_X12_oddsFrom h a0 a1 a2 a3 a4 = some r → ck [12] h a0 = some ()) (hdx : 4 ≤ d) (hd1 : d1 + 1 ≤ d) : ∀ (n : Nat) (h : xa_H) (l0 : Nat) (l1 : Int32) (l2 : Int32) (l3 : Int32) (l4 : Int32) (l5 : Int32) (l6 : Int32) (l7 : Int32) (l8 : Int32) (r : (Int32 × xa_H)), f_X12_oddsFrom_b95 c_X12_oddsFrom n h l0 l1 l2 l3 l4 l5 l6 l7 l8 = some r → xa_V G M_X12_oddsFrom d 95 [some (.ref l0), some (.int l1), some (.int l2), some (.int l3), some (.int l4), some (.int l5), some (.int l6), some (.int l7), some (.int l8), none] [] h (some (.int r.1)) r.2 := by
  intro n
  induction n with
  | zero =>
    intro h l0 l1 l2 l3 l4 l5 l6 l7 l8 r hf
    cases (show (none : Option (Int32 × xa_H)) = some r from hf)
  | succ n ih =>
    intro h l0 l1 l2 l3 l4 l5 l6 l7 l8 r hf
    rw [f_X12_oddsFrom_b95] at hf
    refine v_iload dX12_oddsFrom_95 rfl ?_
    refine v_iconst dX12_oddsFrom_97 (by decide) (v := 2) ?_
    refine v_icmp_ge dX12_oddsFrom_98 (tgt := 209) (by decide) (fun c1 => ?_) (fun c1 => ?_)
    · replace hf := (if_pos c1).symm.trans hf
      refine v_iload dX12_oddsFrom_209 rfl ?_
      replace hf := Option.some.inj hf
      subst hf
      exact v_iret dX12_oddsFrom_211 rfl
    · replace hf := (if_neg c1).symm.trans hf
      refine v_iconst dX12_oddsFrom_101 (by decide) (v := 0) ?_
      refine v_istore dX12_oddsFrom_102 (Nat.le_of_ble_eq_true rfl) (loc' := [some (.ref l0), some (.int l1), some (.int l2), some (.int l3), some (.int l4), some (.int l5), some (.int l6), some (.int l7), some (.int l8), some (.int (0 : Int32))]) rfl ?_
      exact e_X12_oddsFrom_b104 hc_X12_oddsFrom hck_X12_oddsFrom hdx hd1 ih 1048576 h l0 l1 l2 l3 l4 l5 l6 l7 l8 (0 : Int32) r hf
def f_X12_oddsFrom_b44 (c_X12_oddsFrom : xa_H → Nat → Int32 → Int32 → Int32 → Int32 → Option (Int32 × xa_H)) : Nat → xa_H → Nat → Int32 → Int32 → Int32 → Int32 → Int32 → Int32 → Option (Int32 × xa_H)
  | 0, _, _, _, _, _, _, _, _ => none
  | n + 1, h, l0, l1, l2, l3, l4, l5, l6 =>
    if (51 : Int32) ≤ l6 then
      f_X12_oddsFrom_b95 c_X12_oddsFrom 1048576 h l0 l1 l2 l3 l4 l5 (((l4.toInt64 * l3.toInt64) / (100 : Int64))).toInt32 (0 : Int32) (0 : Int32)
    else
      (gR [12] 53 h l0).bind fun x2 =>
      (gR [12] 33 h l0).bind fun x3 =>
      (aI h x3 l6).bind fun x4 =>
      (pI h x2 (((51 : Int32) * l2) + l6) x4).bind fun h5 =>
      f_X12_oddsFrom_b44 c_X12_oddsFrom n h5 l0 l1 l2 l3 l4 l5 (l6 + (1 : Int32))
set_option maxRecDepth 20000 in
theorem e_X12_oddsFrom_b44 {G : xa_G} {d d1 : Nat} {c_X12_oddsFrom : xa_H → Nat → Int32 → Int32 → Int32 → Int32 → Option (Int32 × xa_H)} (hc_X12_oddsFrom : ∀ {h : xa_H} {a0 : Nat} {a1 : Int32} {a2 : Int32} {a3 : Int32} {a4 : Int32} {r : (Int32 × xa_H)}, c_X12_oddsFrom h a0 a1 a2 a3 a4 = some r → xa_Ev G M_X12_oddsFrom d1 [.ref a0, .int a1, .int a2, .int a3, .int a4] h (some (.int r.1)) r.2) (hck_X12_oddsFrom : ∀ {h : xa_H} {a0 : Nat} {a1 : Int32} {a2 : Int32} {a3 : Int32} {a4 : Int32} {r : (Int32 × xa_H)}, c_X12_oddsFrom h a0 a1 a2 a3 a4 = some r → ck [12] h a0 = some ()) (hdx : 4 ≤ d) (hd1 : d1 + 1 ≤ d) : ∀ (n : Nat) (h : xa_H) (l0 : Nat) (l1 : Int32) (l2 : Int32) (l3 : Int32) (l4 : Int32) (l5 : Int32) (l6 : Int32) (r : (Int32 × xa_H)), f_X12_oddsFrom_b44 c_X12_oddsFrom n h l0 l1 l2 l3 l4 l5 l6 = some r → xa_V G M_X12_oddsFrom d 44 [some (.ref l0), some (.int l1), some (.int l2), some (.int l3), some (.int l4), some (.int l5), some (.int l6), none, none, none] [] h (some (.int r.1)) r.2 := by
  intro n
  induction n with
  | zero =>
    intro h l0 l1 l2 l3 l4 l5 l6 r hf
    cases (show (none : Option (Int32 × xa_H)) = some r from hf)
  | succ n ih =>
    intro h l0 l1 l2 l3 l4 l5 l6 r hf
    rw [f_X12_oddsFrom_b44] at hf
    refine v_iload dX12_oddsFrom_44 rfl ?_
    refine v_bipush dX12_oddsFrom_46 (by decide) (v := 51) ?_
    refine v_icmp_ge dX12_oddsFrom_48 (tgt := 76) (by decide) (fun c1 => ?_) (fun c1 => ?_)
    · replace hf := (if_pos c1).symm.trans hf
      refine v_iload dX12_oddsFrom_76 rfl ?_
      refine v_i2l dX12_oddsFrom_78 ?_
      refine v_iload_n dX12_oddsFrom_79 rfl ?_
      refine v_i2l dX12_oddsFrom_80 ?_
      refine v_lmul dX12_oddsFrom_81 ?_
      refine v_ldc2 dX12_oddsFrom_82 rfl col_12_502 ?_
      refine v_ldiv dX12_oddsFrom_85 (by decide) ?_
      refine v_l2i dX12_oddsFrom_86 ?_
      refine v_istore dX12_oddsFrom_87 (Nat.le_of_ble_eq_true rfl) (loc' := [some (.ref l0), some (.int l1), some (.int l2), some (.int l3), some (.int l4), some (.int l5), some (.int (((l4.toInt64 * l3.toInt64) / (100 : Int64))).toInt32), none, none, none]) rfl ?_
      refine v_iconst dX12_oddsFrom_89 (by decide) (v := 0) ?_
      refine v_istore dX12_oddsFrom_90 (Nat.le_of_ble_eq_true rfl) (loc' := [some (.ref l0), some (.int l1), some (.int l2), some (.int l3), some (.int l4), some (.int l5), some (.int (((l4.toInt64 * l3.toInt64) / (100 : Int64))).toInt32), some (.int (0 : Int32)), none, none]) rfl ?_
      refine v_iconst dX12_oddsFrom_92 (by decide) (v := 0) ?_
      refine v_istore dX12_oddsFrom_93 (Nat.le_of_ble_eq_true rfl) (loc' := [some (.ref l0), some (.int l1), some (.int l2), some (.int l3), some (.int l4), some (.int l5), some (.int (((l4.toInt64 * l3.toInt64) / (100 : Int64))).toInt32), some (.int (0 : Int32)), some (.int (0 : Int32)), none]) rfl ?_
      exact e_X12_oddsFrom_b95 hc_X12_oddsFrom hck_X12_oddsFrom hdx hd1 1048576 h l0 l1 l2 l3 l4 l5 (((l4.toInt64 * l3.toInt64) / (100 : Int64))).toInt32 (0 : Int32) (0 : Int32) r hf
    · replace hf := (if_neg c1).symm.trans hf
      refine v_aload_n dX12_oddsFrom_51 rfl ?_
      obtain ⟨x2, ex2, hf⟩ := ob hf
      refine v_getR dX12_oddsFrom_52 fl_12_102 ex2 ?_
      refine v_bipush dX12_oddsFrom_55 (by decide) (v := 51) ?_
      refine v_iload_n dX12_oddsFrom_57 rfl ?_
      refine v_imul dX12_oddsFrom_58 ?_
      refine v_iload dX12_oddsFrom_59 rfl ?_
      refine v_iadd dX12_oddsFrom_61 ?_
      refine v_aload_n dX12_oddsFrom_62 rfl ?_
      obtain ⟨x3, ex3, hf⟩ := ob hf
      refine v_getR dX12_oddsFrom_63 fl_12_64 ex3 ?_
      refine v_iload dX12_oddsFrom_66 rfl ?_
      obtain ⟨x4, ex4, hf⟩ := ob hf
      refine v_ialoadI dX12_oddsFrom_68 ex4 ?_
      obtain ⟨h5, eh5, hf⟩ := ob hf
      refine v_iastoreI dX12_oddsFrom_69 eh5 ?_
      refine v_iinc dX12_oddsFrom_70 rfl (v := (l6 + (1 : Int32))) rfl (Nat.le_of_ble_eq_true rfl) (loc' := [some (.ref l0), some (.int l1), some (.int l2), some (.int l3), some (.int l4), some (.int l5), some (.int (l6 + (1 : Int32))), none, none, none]) rfl ?_
      refine v_goto dX12_oddsFrom_73 (tgt := 44) (by decide) ?_
      exact ih h5 l0 l1 l2 l3 l4 l5 (l6 + (1 : Int32)) r hf
def g_X12_oddsFrom (c_X12_oddsFrom : xa_H → Nat → Int32 → Int32 → Int32 → Int32 → Option (Int32 × xa_H)) (h : xa_H) (l0 : Nat) (l1 : Int32) (l2 : Int32) (l3 : Int32) (l4 : Int32) : Option (Int32 × xa_H) :=
  (ck [12] h l0).bind fun _ =>
  (gR [12] 25 h l0).bind fun x1 =>
  (aI h x1 l1).bind fun x2 =>
  if l2 = x2 then
    (gR [12] 33 h l0).bind fun x6 =>
    (f_X12_hasRing h l0 x6).bind fun q7 =>
    if q7.1 = 0 then
      some (l4, q7.2)
    else
      some ((0 : Int32), q7.2)
  else
    (gR [12] 24 h l0).bind fun x4 =>
    (aI h x4 (((16 : Int32) * l1) + l2)).bind fun x5 =>
    f_X12_oddsFrom_b44 c_X12_oddsFrom 1048576 h l0 l1 l2 l3 l4 x5 (0 : Int32)
set_option maxRecDepth 20000 in
theorem eg_X12_oddsFrom {G : xa_G} {d d1 : Nat} {c_X12_oddsFrom : xa_H → Nat → Int32 → Int32 → Int32 → Int32 → Option (Int32 × xa_H)} (hc_X12_oddsFrom : ∀ {h : xa_H} {a0 : Nat} {a1 : Int32} {a2 : Int32} {a3 : Int32} {a4 : Int32} {r : (Int32 × xa_H)}, c_X12_oddsFrom h a0 a1 a2 a3 a4 = some r → xa_Ev G M_X12_oddsFrom d1 [.ref a0, .int a1, .int a2, .int a3, .int a4] h (some (.int r.1)) r.2) (hck_X12_oddsFrom : ∀ {h : xa_H} {a0 : Nat} {a1 : Int32} {a2 : Int32} {a3 : Int32} {a4 : Int32} {r : (Int32 × xa_H)}, c_X12_oddsFrom h a0 a1 a2 a3 a4 = some r → ck [12] h a0 = some ()) (hdx : 4 ≤ d) (hd1 : d1 + 1 ≤ d) {h : xa_H} {l0 : Nat} {l1 : Int32} {l2 : Int32} {l3 : Int32} {l4 : Int32} {r : (Int32 × xa_H)} (hf : g_X12_oddsFrom c_X12_oddsFrom h l0 l1 l2 l3 l4 = some r) : xa_Ev G M_X12_oddsFrom d [.ref l0, .int l1, .int l2, .int l3, .int l4] h (some (.int r.1)) r.2 := by
  refine xa_entry (by decide +kernel) (loc := [some (.ref l0), some (.int l1), some (.int l2), some (.int l3), some (.int l4), none, none, none, none, none]) rfl (Nat.le_of_ble_eq_true rfl) ?_
  unfold g_X12_oddsFrom at hf
  obtain ⟨u0, eu0, hf⟩ := ob hf
  refine v_iload_n dX12_oddsFrom_0 rfl ?_
  refine v_aload_n dX12_oddsFrom_1 rfl ?_
  obtain ⟨x1, ex1, hf⟩ := ob hf
  refine v_getR dX12_oddsFrom_2 fl_12_58 ex1 ?_
  refine v_iload_n dX12_oddsFrom_5 rfl ?_
  obtain ⟨x2, ex2, hf⟩ := ob hf
  refine v_ialoadI dX12_oddsFrom_6 ex2 ?_
  refine v_icmp_ne dX12_oddsFrom_7 (tgt := 28) (by decide) (fun c3 => ?_) (fun c3 => ?_)
  · replace hf := (if_neg c3).symm.trans hf
    refine v_aload_n dX12_oddsFrom_28 rfl ?_
    obtain ⟨x4, ex4, hf⟩ := ob hf
    refine v_getR dX12_oddsFrom_29 fl_12_55 ex4 ?_
    refine v_bipush dX12_oddsFrom_32 (by decide) (v := 16) ?_
    refine v_iload_n dX12_oddsFrom_34 rfl ?_
    refine v_imul dX12_oddsFrom_35 ?_
    refine v_iload_n dX12_oddsFrom_36 rfl ?_
    refine v_iadd dX12_oddsFrom_37 ?_
    obtain ⟨x5, ex5, hf⟩ := ob hf
    refine v_ialoadI dX12_oddsFrom_38 ex5 ?_
    refine v_istore dX12_oddsFrom_39 (Nat.le_of_ble_eq_true rfl) (loc' := [some (.ref l0), some (.int l1), some (.int l2), some (.int l3), some (.int l4), some (.int x5), none, none, none, none]) rfl ?_
    refine v_iconst dX12_oddsFrom_41 (by decide) (v := 0) ?_
    refine v_istore dX12_oddsFrom_42 (Nat.le_of_ble_eq_true rfl) (loc' := [some (.ref l0), some (.int l1), some (.int l2), some (.int l3), some (.int l4), some (.int x5), some (.int (0 : Int32)), none, none, none]) rfl ?_
    exact e_X12_oddsFrom_b44 hc_X12_oddsFrom hck_X12_oddsFrom hdx hd1 1048576 h l0 l1 l2 l3 l4 x5 (0 : Int32) r hf
  · replace hf := (if_pos c3).symm.trans hf
    refine v_aload_n dX12_oddsFrom_10 rfl ?_
    refine v_aload_n dX12_oddsFrom_11 rfl ?_
    obtain ⟨x6, ex6, hf⟩ := ob hf
    refine v_getR dX12_oddsFrom_12 fl_12_64 ex6 ?_
    obtain ⟨q7, eq7, hf⟩ := ob hf
    refine v_callV dX12_oddsFrom_15 ⟨cb_X12_hasRing, ml_12_366, im_X12_hasRing⟩ se_12_X12_hasRing (ckf_X12_hasRing eq7) (ev_X12_hasRing eq7) (Nat.le_trans (by decide) hdx) (As := [.ref x6]) rfl (st := []) rfl (Nat.le_of_ble_eq_true rfl) rfl ?_
    refine v_if_eq dX12_oddsFrom_18 (tgt := 25) (by decide) (fun c8 => ?_) (fun c8 => ?_)
    · replace hf := (if_pos c8).symm.trans hf
      refine v_iload dX12_oddsFrom_25 rfl ?_
      replace hf := Option.some.inj hf
      subst hf
      exact v_iret dX12_oddsFrom_27 rfl
    · replace hf := (if_neg c8).symm.trans hf
      refine v_iconst dX12_oddsFrom_21 (by decide) (v := 0) ?_
      refine v_goto dX12_oddsFrom_22 (tgt := 27) (by decide) ?_
      replace hf := Option.some.inj hf
      subst hf
      exact v_iret dX12_oddsFrom_27 rfl
theorem cg_X12_oddsFrom {c_X12_oddsFrom : xa_H → Nat → Int32 → Int32 → Int32 → Int32 → Option (Int32 × xa_H)} {h : xa_H} {l0 : Nat} {l1 : Int32} {l2 : Int32} {l3 : Int32} {l4 : Int32} {r : (Int32 × xa_H)} (hf : g_X12_oddsFrom c_X12_oddsFrom h l0 l1 l2 l3 l4 = some r) : ck [12] h l0 = some () := by
  obtain ⟨u, e, -⟩ := ob hf
  exact e
def f_X12_oddsFrom : Nat → xa_H → Nat → Int32 → Int32 → Int32 → Int32 → Option (Int32 × xa_H)
  | 0, _, _, _, _, _, _ => none
  | n + 1, h, a0, a1, a2, a3, a4 => g_X12_oddsFrom (f_X12_oddsFrom n) h a0 a1 a2 a3 a4
theorem ckf_X12_oddsFrom {n : Nat} {h : xa_H} {a0 : Nat} {a1 : Int32} {a2 : Int32} {a3 : Int32} {a4 : Int32} {r : (Int32 × xa_H)} (hf : f_X12_oddsFrom n h a0 a1 a2 a3 a4 = some r) : ck [12] h a0 = some () := by
  cases n with
  | zero => cases (show (none : Option (Int32 × xa_H)) = some r from hf)
  | succ n => exact cg_X12_oddsFrom (c_X12_oddsFrom := (f_X12_oddsFrom n)) hf
theorem evg_X12_oddsFrom {G : xa_G} : ∀ n : Nat, (∀ {h : xa_H} {a0 : Nat} {a1 : Int32} {a2 : Int32} {a3 : Int32} {a4 : Int32} {r : (Int32 × xa_H)}, f_X12_oddsFrom n h a0 a1 a2 a3 a4 = some r → xa_Ev G M_X12_oddsFrom (4 + n) [.ref a0, .int a1, .int a2, .int a3, .int a4] h (some (.int r.1)) r.2) := by
  intro n
  induction n with
  | zero => exact (fun hf => by cases (show (none : Option (Int32 × xa_H)) = some _ from hf))
  | succ n ih => exact (fun hf => eg_X12_oddsFrom ih ckf_X12_oddsFrom (by omega) (by omega) hf)
theorem ev_X12_oddsFrom {G : xa_G} {n : Nat} {h : xa_H} {a0 : Nat} {a1 : Int32} {a2 : Int32} {a3 : Int32} {a4 : Int32} {r : (Int32 × xa_H)} (hf : f_X12_oddsFrom n h a0 a1 a2 a3 a4 = some r) : xa_Ev G M_X12_oddsFrom (4 + n) [.ref a0, .int a1, .int a2, .int a3, .int a4] h (some (.int r.1)) r.2 := (evg_X12_oddsFrom n) hf
def M_X12_odds : xa_M := (yX12_odds, cX12_odds, 3, some .int)
theorem cb_X12_odds : xa_CB M_X12_odds 2 := ⟨gws_at 1907 (by decide +kernel) rfl, gws_at 122 (by decide +kernel) rfl, by decide +kernel, Nat.le_of_ble_eq_true rfl⟩
def f_X12_odds (h : xa_H) (l0 : Nat) (l1 : Int32) (l2 : Int32) : Option (Int32 × xa_H) :=
  (ck [12] h l0).bind fun _ =>
  (xp [12] 0 h l0 (.int (0 : Int32))).bind fun h1 =>
  (f_X12_isSong h1 l0 l1).bind fun q2 =>
  if q2 = 0 then
    some ((-1 : Int32), h1)
  else
    (gI [12] 26 h1 l0).bind fun x4 =>
    if x4 = 0 then
      some ((-1 : Int32), h1)
    else
      (gR [12] 25 h1 l0).bind fun x6 =>
      (aI h1 x6 l1).bind fun x7 =>
      if (8 : Int32) < x7 then
        some ((-1 : Int32), h1)
      else
        (f_X12_isIn h1 l2.toInt64 (0 : Int64) (100 : Int64)).bind fun q9 =>
        if q9 = 0 then
          some ((-1 : Int32), h1)
        else
          (gR [12] 32 h1 l0).bind fun x11 =>
          (gR [12] 33 h1 l0).bind fun x12 =>
          (f_X12_copy h1 x11 x12).bind fun q13 =>
          (f_X12_oddsFrom 12 q13 l0 l1 (0 : Int32) l2 (1000000000 : Int32)).bind fun q14 =>
          some (q14.1, q14.2)
set_option maxRecDepth 20000 in
theorem ev_X12_odds {G : xa_G} {h : xa_H} {l0 : Nat} {l1 : Int32} {l2 : Int32} {r : (Int32 × xa_H)} (hf : f_X12_odds h l0 l1 l2 = some r) : xa_Ev G M_X12_odds 17 [.ref l0, .int l1, .int l2] h (some (.int r.1)) r.2 := by
  refine xa_entry (by decide +kernel) (loc := [some (.ref l0), some (.int l1), some (.int l2)]) rfl (Nat.le_of_ble_eq_true rfl) ?_
  unfold f_X12_odds at hf
  obtain ⟨u0, eu0, hf⟩ := ob hf
  refine v_aload_n dX12_odds_0 rfl ?_
  refine v_iconst dX12_odds_1 (by decide) (v := 0) ?_
  obtain ⟨h1, eh1, hf⟩ := ob hf
  refine v_put dX12_odds_2 fp_12_111 (fun z => by cases z) (fun _ => rfl) (fun _ => rfl) eh1 ?_
  refine v_aload_n dX12_odds_5 rfl ?_
  refine v_iload_n dX12_odds_6 rfl ?_
  obtain ⟨q2, eq2, hf⟩ := ob hf
  refine v_callV dX12_odds_7 ⟨cb_X12_isSong, ml_12_381, im_X12_isSong⟩ se_12_X12_isSong (ckf_X12_isSong eq2) (ev_X12_isSong eq2) (by decide) (As := [.int l1]) rfl (st := []) rfl (Nat.le_of_ble_eq_true rfl) rfl ?_
  refine v_if_eq dX12_odds_10 (tgt := 43) (by decide) (fun c3 => ?_) (fun c3 => ?_)
  · replace hf := (if_pos c3).symm.trans hf
    refine v_iconst dX12_odds_43 (by decide) (v := -1) ?_
    replace hf := Option.some.inj hf
    subst hf
    exact v_iret dX12_odds_44 rfl
  · replace hf := (if_neg c3).symm.trans hf
    refine v_aload_n dX12_odds_13 rfl ?_
    obtain ⟨x4, ex4, hf⟩ := ob hf
    refine v_getI dX12_odds_14 fl_12_307 ex4 ?_
    refine v_if_eq dX12_odds_17 (tgt := 43) (by decide) (fun c5 => ?_) (fun c5 => ?_)
    · replace hf := (if_pos c5).symm.trans hf
      refine v_iconst dX12_odds_43 (by decide) (v := -1) ?_
      replace hf := Option.some.inj hf
      subst hf
      exact v_iret dX12_odds_44 rfl
    · replace hf := (if_neg c5).symm.trans hf
      refine v_aload_n dX12_odds_20 rfl ?_
      obtain ⟨x6, ex6, hf⟩ := ob hf
      refine v_getR dX12_odds_21 fl_12_58 ex6 ?_
      refine v_iload_n dX12_odds_24 rfl ?_
      obtain ⟨x7, ex7, hf⟩ := ob hf
      refine v_ialoadI dX12_odds_25 ex7 ?_
      refine v_bipush dX12_odds_26 (by decide) (v := 8) ?_
      refine v_icmp_gt dX12_odds_28 (tgt := 43) (by decide) (fun c8 => ?_) (fun c8 => ?_)
      · replace hf := (if_pos c8).symm.trans hf
        refine v_iconst dX12_odds_43 (by decide) (v := -1) ?_
        replace hf := Option.some.inj hf
        subst hf
        exact v_iret dX12_odds_44 rfl
      · replace hf := (if_neg c8).symm.trans hf
        refine v_iload_n dX12_odds_31 rfl ?_
        refine v_i2l dX12_odds_32 ?_
        refine v_lconst dX12_odds_33 (by decide) (v := 0) ?_
        refine v_ldc2 dX12_odds_34 rfl col_12_502 ?_
        obtain ⟨q9, eq9, hf⟩ := ob hf
        refine v_callS dX12_odds_37 ⟨cb_X12_isIn, ml_12_232, sm_X12_isIn⟩ (ev_X12_isIn eq9) (by decide) (As := [.long l2.toInt64, .long (0 : Int64), .long (100 : Int64)]) rfl (st := []) rfl (Nat.le_of_ble_eq_true rfl) rfl ?_
        refine v_if_ne dX12_odds_40 (tgt := 45) (by decide) (fun c10 => ?_) (fun c10 => ?_)
        · replace hf := (if_neg c10).symm.trans hf
          refine v_aload_n dX12_odds_45 rfl ?_
          obtain ⟨x11, ex11, hf⟩ := ob hf
          refine v_getR dX12_odds_46 fl_12_61 ex11 ?_
          refine v_aload_n dX12_odds_49 rfl ?_
          obtain ⟨x12, ex12, hf⟩ := ob hf
          refine v_getR dX12_odds_50 fl_12_64 ex12 ?_
          obtain ⟨q13, eq13, hf⟩ := ob hf
          refine v_callS dX12_odds_53 ⟨cb_X12_copy, ml_12_428, sm_X12_copy⟩ (ev_X12_copy eq13) (by decide) (As := [.ref x11, .ref x12]) rfl (st := []) rfl (Nat.le_of_ble_eq_true rfl) rfl ?_
          refine v_aload_n dX12_odds_56 rfl ?_
          refine v_iload_n dX12_odds_57 rfl ?_
          refine v_iconst dX12_odds_58 (by decide) (v := 0) ?_
          refine v_iload_n dX12_odds_59 rfl ?_
          refine v_ldcw dX12_odds_60 rfl co_12_507 ?_
          obtain ⟨q14, eq14, hf⟩ := ob hf
          refine v_callV dX12_odds_63 ⟨cb_X12_oddsFrom, ml_12_504, im_X12_oddsFrom⟩ se_12_X12_oddsFrom (ckf_X12_oddsFrom eq14) (ev_X12_oddsFrom eq14) (by decide) (As := [.int l1, .int (0 : Int32), .int l2, .int (1000000000 : Int32)]) rfl (st := []) rfl (Nat.le_of_ble_eq_true rfl) rfl ?_
          replace hf := Option.some.inj hf
          subst hf
          exact v_iret dX12_odds_66 rfl
        · replace hf := (if_pos c10).symm.trans hf
          refine v_iconst dX12_odds_43 (by decide) (v := -1) ?_
          replace hf := Option.some.inj hf
          subst hf
          exact v_iret dX12_odds_44 rfl
theorem ckf_X12_odds {h : xa_H} {l0 : Nat} {l1 : Int32} {l2 : Int32} {r : (Int32 × xa_H)} (hf : f_X12_odds h l0 l1 l2 = some r) : ck [12] h l0 = some () := by
  obtain ⟨u, e, -⟩ := ob hf
  exact e
def M_X12_owes : xa_M := (yX12_owes, cX12_owes, 3, some .int)
theorem cb_X12_owes : xa_CB M_X12_owes 2 := ⟨gws_at 1657 (by decide +kernel) rfl, gws_at 122 (by decide +kernel) rfl, by decide +kernel, Nat.le_of_ble_eq_true rfl⟩
def f_X12_owes (h : xa_H) (l0 : Nat) (l1 : Int32) (l2 : Int32) : Option (Int32 × xa_H) :=
  (ck [12] h l0).bind fun _ =>
  (xp [12] 0 h l0 (.int (0 : Int32))).bind fun h1 =>
  (f_X12_isHouse h1 l0 l1).bind fun q2 =>
  if q2 = 0 then
    some ((-1000000 : Int32), h1)
  else
    (f_X12_isHouse h1 l0 l2).bind fun q4 =>
    if q4 = 0 then
      some ((-1000000 : Int32), h1)
    else
      (gR [12] 32 h1 l0).bind fun x6 =>
      (aI h1 x6 (((6 : Int32) * l1) + l2)).bind fun x7 =>
      some (x7, h1)
set_option maxRecDepth 20000 in
theorem ev_X12_owes {G : xa_G} {h : xa_H} {l0 : Nat} {l1 : Int32} {l2 : Int32} {r : (Int32 × xa_H)} (hf : f_X12_owes h l0 l1 l2 = some r) : xa_Ev G M_X12_owes 1 [.ref l0, .int l1, .int l2] h (some (.int r.1)) r.2 := by
  refine xa_entry (by decide +kernel) (loc := [some (.ref l0), some (.int l1), some (.int l2)]) rfl (Nat.le_of_ble_eq_true rfl) ?_
  unfold f_X12_owes at hf
  obtain ⟨u0, eu0, hf⟩ := ob hf
  refine v_aload_n dX12_owes_0 rfl ?_
  refine v_iconst dX12_owes_1 (by decide) (v := 0) ?_
  obtain ⟨h1, eh1, hf⟩ := ob hf
  refine v_put dX12_owes_2 fp_12_111 (fun z => by cases z) (fun _ => rfl) (fun _ => rfl) eh1 ?_
  refine v_aload_n dX12_owes_5 rfl ?_
  refine v_iload_n dX12_owes_6 rfl ?_
  obtain ⟨q2, eq2, hf⟩ := ob hf
  refine v_callV dX12_owes_7 ⟨cb_X12_isHouse, ml_12_335, im_X12_isHouse⟩ se_12_X12_isHouse (ckf_X12_isHouse eq2) (ev_X12_isHouse eq2) (by decide) (As := [.int l1]) rfl (st := []) rfl (Nat.le_of_ble_eq_true rfl) rfl ?_
  refine v_if_eq dX12_owes_10 (tgt := 35) (by decide) (fun c3 => ?_) (fun c3 => ?_)
  · replace hf := (if_pos c3).symm.trans hf
    refine v_ldcw dX12_owes_35 rfl co_12_380 ?_
    replace hf := Option.some.inj hf
    subst hf
    exact v_iret dX12_owes_38 rfl
  · replace hf := (if_neg c3).symm.trans hf
    refine v_aload_n dX12_owes_13 rfl ?_
    refine v_iload_n dX12_owes_14 rfl ?_
    obtain ⟨q4, eq4, hf⟩ := ob hf
    refine v_callV dX12_owes_15 ⟨cb_X12_isHouse, ml_12_335, im_X12_isHouse⟩ se_12_X12_isHouse (ckf_X12_isHouse eq4) (ev_X12_isHouse eq4) (by decide) (As := [.int l2]) rfl (st := []) rfl (Nat.le_of_ble_eq_true rfl) rfl ?_
    refine v_if_eq dX12_owes_18 (tgt := 35) (by decide) (fun c5 => ?_) (fun c5 => ?_)
    · replace hf := (if_pos c5).symm.trans hf
      refine v_ldcw dX12_owes_35 rfl co_12_380 ?_
      replace hf := Option.some.inj hf
      subst hf
      exact v_iret dX12_owes_38 rfl
    · replace hf := (if_neg c5).symm.trans hf
      refine v_aload_n dX12_owes_21 rfl ?_
      obtain ⟨x6, ex6, hf⟩ := ob hf
      refine v_getR dX12_owes_22 fl_12_61 ex6 ?_
      refine v_bipush dX12_owes_25 (by decide) (v := 6) ?_
      refine v_iload_n dX12_owes_27 rfl ?_
      refine v_imul dX12_owes_28 ?_
      refine v_iload_n dX12_owes_29 rfl ?_
      refine v_iadd dX12_owes_30 ?_
      obtain ⟨x7, ex7, hf⟩ := ob hf
      refine v_ialoadI dX12_owes_31 ex7 ?_
      refine v_goto dX12_owes_32 (tgt := 38) (by decide) ?_
      replace hf := Option.some.inj hf
      subst hf
      exact v_iret dX12_owes_38 rfl
theorem ckf_X12_owes {h : xa_H} {l0 : Nat} {l1 : Int32} {l2 : Int32} {r : (Int32 × xa_H)} (hf : f_X12_owes h l0 l1 l2 = some r) : ck [12] h l0 = some () := by
  obtain ⟨u, e, -⟩ := ob hf
  exact e
def M_X12_reach : xa_M := (yX12_reach, cX12_reach, 2, some .int)
theorem cb_X12_reach : xa_CB M_X12_reach 1 := ⟨gws_at 1827 (by decide +kernel) rfl, gws_at 122 (by decide +kernel) rfl, by decide +kernel, Nat.le_of_ble_eq_true rfl⟩
def f_X12_reach (h : xa_H) (l0 : Nat) (l1 : Int32) : Option (Int32 × xa_H) :=
  (ck [12] h l0).bind fun _ =>
  (xp [12] 0 h l0 (.int (0 : Int32))).bind fun h1 =>
  (gI [12] 26 h1 l0).bind fun x2 =>
  if x2 = 0 then
    some ((-1 : Int32), h1)
  else
    (f_X12_isIn h1 l1.toInt64 (0 : Int64) (4 : Int64)).bind fun q4 =>
    if q4 = 0 then
      some ((-1 : Int32), h1)
    else
      (f_X12_seeks h1 l0 (0 : Int32) l1).bind fun q6 =>
      (gI [12] 45 q6 l0).bind fun x7 =>
      some (x7, q6)
set_option maxRecDepth 20000 in
theorem ev_X12_reach {G : xa_G} {h : xa_H} {l0 : Nat} {l1 : Int32} {r : (Int32 × xa_H)} (hf : f_X12_reach h l0 l1 = some r) : xa_Ev G M_X12_reach 15 [.ref l0, .int l1] h (some (.int r.1)) r.2 := by
  refine xa_entry (by decide +kernel) (loc := [some (.ref l0), some (.int l1)]) rfl (Nat.le_of_ble_eq_true rfl) ?_
  unfold f_X12_reach at hf
  obtain ⟨u0, eu0, hf⟩ := ob hf
  refine v_aload_n dX12_reach_0 rfl ?_
  refine v_iconst dX12_reach_1 (by decide) (v := 0) ?_
  obtain ⟨h1, eh1, hf⟩ := ob hf
  refine v_put dX12_reach_2 fp_12_111 (fun z => by cases z) (fun _ => rfl) (fun _ => rfl) eh1 ?_
  refine v_aload_n dX12_reach_5 rfl ?_
  obtain ⟨x2, ex2, hf⟩ := ob hf
  refine v_getI dX12_reach_6 fl_12_307 ex2 ?_
  refine v_if_eq dX12_reach_9 (tgt := 24) (by decide) (fun c3 => ?_) (fun c3 => ?_)
  · replace hf := (if_pos c3).symm.trans hf
    refine v_iconst dX12_reach_24 (by decide) (v := -1) ?_
    replace hf := Option.some.inj hf
    subst hf
    exact v_iret dX12_reach_25 rfl
  · replace hf := (if_neg c3).symm.trans hf
    refine v_iload_n dX12_reach_12 rfl ?_
    refine v_i2l dX12_reach_13 ?_
    refine v_lconst dX12_reach_14 (by decide) (v := 0) ?_
    refine v_ldc2 dX12_reach_15 rfl col_12_473 ?_
    obtain ⟨q4, eq4, hf⟩ := ob hf
    refine v_callS dX12_reach_18 ⟨cb_X12_isIn, ml_12_232, sm_X12_isIn⟩ (ev_X12_isIn eq4) (by decide) (As := [.long l1.toInt64, .long (0 : Int64), .long (4 : Int64)]) rfl (st := []) rfl (Nat.le_of_ble_eq_true rfl) rfl ?_
    refine v_if_ne dX12_reach_21 (tgt := 26) (by decide) (fun c5 => ?_) (fun c5 => ?_)
    · replace hf := (if_neg c5).symm.trans hf
      refine v_aload_n dX12_reach_26 rfl ?_
      refine v_iconst dX12_reach_27 (by decide) (v := 0) ?_
      refine v_iload_n dX12_reach_28 rfl ?_
      obtain ⟨q6, eq6, hf⟩ := ob hf
      refine v_callV dX12_reach_29 ⟨cb_X12_seeks, ml_12_475, im_X12_seeks⟩ se_12_X12_seeks (ckf_X12_seeks eq6) (ev_X12_seeks eq6) (by decide) (As := [.int (0 : Int32), .int l1]) rfl (st := []) rfl (Nat.le_of_ble_eq_true rfl) rfl ?_
      refine v_aload_n dX12_reach_32 rfl ?_
      obtain ⟨x7, ex7, hf⟩ := ob hf
      refine v_getI dX12_reach_33 fl_12_447 ex7 ?_
      replace hf := Option.some.inj hf
      subst hf
      exact v_iret dX12_reach_36 rfl
    · replace hf := (if_pos c5).symm.trans hf
      refine v_iconst dX12_reach_24 (by decide) (v := -1) ?_
      replace hf := Option.some.inj hf
      subst hf
      exact v_iret dX12_reach_25 rfl
theorem ckf_X12_reach {h : xa_H} {l0 : Nat} {l1 : Int32} {r : (Int32 × xa_H)} (hf : f_X12_reach h l0 l1 = some r) : ck [12] h l0 = some () := by
  obtain ⟨u, e, -⟩ := ob hf
  exact e
def M_X12_rests : xa_M := (yX12_rests, cX12_rests, 7, some .int)
theorem cb_X12_rests : xa_CB M_X12_rests 3 := ⟨gws_at 1903 (by decide +kernel) rfl, gws_at 122 (by decide +kernel) rfl, by decide +kernel, Nat.le_of_ble_eq_true rfl⟩
def f_X12_rests_b117 (k27 : xa_H → Nat → Int32 → Int32 → Int32 → Int32 → Int32 → Option (Int32 × xa_H)) (k36 : xa_H → Nat → Int32 → Int32 → Int32 → Int32 → Int32 → Int32 → Option (Int32 × xa_H)) (h : xa_H) (l0 : Nat) (l1 : Int32) (l2 : Int32) (l3 : Int32) (l4 : Int32) (l5 : Int32) (l6 : Int32) : Option (Int32 × xa_H) :=
  k36 h l0 l1 l2 l3 l4 l5 (l6 + (1 : Int32))
set_option maxRecDepth 20000 in
theorem e_X12_rests_b117 {G : xa_G} {k27 : xa_H → Nat → Int32 → Int32 → Int32 → Int32 → Int32 → Option (Int32 × xa_H)} (hk27 : ∀ (h : xa_H) (l0 : Nat) (l1 : Int32) (l2 : Int32) (l3 : Int32) (l4 : Int32) (l5 : Int32) (r : (Int32 × xa_H)), k27 h l0 l1 l2 l3 l4 l5 = some r → xa_V G M_X12_rests 5 27 [some (.ref l0), some (.int l1), some (.int l2), some (.int l3), some (.int l4), some (.int l5), none] [] h (some (.int r.1)) r.2) {k36 : xa_H → Nat → Int32 → Int32 → Int32 → Int32 → Int32 → Int32 → Option (Int32 × xa_H)} (hk36 : ∀ (h : xa_H) (l0 : Nat) (l1 : Int32) (l2 : Int32) (l3 : Int32) (l4 : Int32) (l5 : Int32) (l6 : Int32) (r : (Int32 × xa_H)), k36 h l0 l1 l2 l3 l4 l5 l6 = some r → xa_V G M_X12_rests 5 36 [some (.ref l0), some (.int l1), some (.int l2), some (.int l3), some (.int l4), some (.int l5), some (.int l6)] [] h (some (.int r.1)) r.2) : ∀ (h : xa_H) (l0 : Nat) (l1 : Int32) (l2 : Int32) (l3 : Int32) (l4 : Int32) (l5 : Int32) (l6 : Int32) (r : (Int32 × xa_H)), f_X12_rests_b117 k27 k36 h l0 l1 l2 l3 l4 l5 l6 = some r → xa_V G M_X12_rests 5 117 [some (.ref l0), some (.int l1), some (.int l2), some (.int l3), some (.int l4), some (.int l5), some (.int l6)] [] h (some (.int r.1)) r.2 := by
  intro h l0 l1 l2 l3 l4 l5 l6 r hf
  unfold f_X12_rests_b117 at hf
  refine v_iinc dX12_rests_117 rfl (v := (l6 + (1 : Int32))) rfl (Nat.le_of_ble_eq_true rfl) (loc' := [some (.ref l0), some (.int l1), some (.int l2), some (.int l3), some (.int l4), some (.int l5), some (.int (l6 + (1 : Int32)))]) rfl ?_
  refine v_goto dX12_rests_120 (tgt := 36) (by decide) ?_
  exact hk36 h l0 l1 l2 l3 l4 l5 (l6 + (1 : Int32)) r hf
def f_X12_rests_b36 (k27 : xa_H → Nat → Int32 → Int32 → Int32 → Int32 → Int32 → Option (Int32 × xa_H)) : Nat → xa_H → Nat → Int32 → Int32 → Int32 → Int32 → Int32 → Int32 → Option (Int32 × xa_H)
  | 0, _, _, _, _, _, _, _, _ => none
  | n + 1, h, l0, l1, l2, l3, l4, l5, l6 =>
    if (2 : Int32) ≤ l6 then
      k27 h l0 l1 l2 l3 l4 (l5 + (1 : Int32))
    else
      (f_X12_gameOf h l0 l1 l2 ((1 : Int32) - l5) l6 (0 : Int32)).bind fun q2 =>
      (f_X12_gameOf q2.2 l0 l1 l2 l5 l6 (0 : Int32)).bind fun q3 =>
      if q3.1 < q2.1 then
        f_X12_rests_b117 k27 (fun h l0 l1 l2 l3 l4 l5 l6 => f_X12_rests_b36 k27 n h l0 l1 l2 l3 l4 l5 l6) q3.2 l0 l1 l2 l3 l4 l5 l6
      else
        (f_X12_gameOf q3.2 l0 l1 l2 l5 ((1 : Int32) - l6) (1 : Int32)).bind fun q5 =>
        (f_X12_gameOf q5.2 l0 l1 l2 l5 l6 (1 : Int32)).bind fun q6 =>
        if q5.1 ≤ q6.1 then
          if l4 = l3 then
            some ((((10 : Int32) * l5) + l6), q6.2)
          else
            f_X12_rests_b117 k27 (fun h l0 l1 l2 l3 l4 l5 l6 => f_X12_rests_b36 k27 n h l0 l1 l2 l3 l4 l5 l6) q6.2 l0 l1 l2 l3 (l4 + (1 : Int32)) l5 l6
        else
          f_X12_rests_b117 k27 (fun h l0 l1 l2 l3 l4 l5 l6 => f_X12_rests_b36 k27 n h l0 l1 l2 l3 l4 l5 l6) q6.2 l0 l1 l2 l3 l4 l5 l6
set_option maxRecDepth 20000 in
theorem e_X12_rests_b36 {G : xa_G} {k27 : xa_H → Nat → Int32 → Int32 → Int32 → Int32 → Int32 → Option (Int32 × xa_H)} (hk27 : ∀ (h : xa_H) (l0 : Nat) (l1 : Int32) (l2 : Int32) (l3 : Int32) (l4 : Int32) (l5 : Int32) (r : (Int32 × xa_H)), k27 h l0 l1 l2 l3 l4 l5 = some r → xa_V G M_X12_rests 5 27 [some (.ref l0), some (.int l1), some (.int l2), some (.int l3), some (.int l4), some (.int l5), none] [] h (some (.int r.1)) r.2) : ∀ (n : Nat) (h : xa_H) (l0 : Nat) (l1 : Int32) (l2 : Int32) (l3 : Int32) (l4 : Int32) (l5 : Int32) (l6 : Int32) (r : (Int32 × xa_H)), f_X12_rests_b36 k27 n h l0 l1 l2 l3 l4 l5 l6 = some r → xa_V G M_X12_rests 5 36 [some (.ref l0), some (.int l1), some (.int l2), some (.int l3), some (.int l4), some (.int l5), some (.int l6)] [] h (some (.int r.1)) r.2 := by
  intro n
  induction n with
  | zero =>
    intro h l0 l1 l2 l3 l4 l5 l6 r hf
    cases (show (none : Option (Int32 × xa_H)) = some r from hf)
  | succ n ih =>
    intro h l0 l1 l2 l3 l4 l5 l6 r hf
    rw [f_X12_rests_b36] at hf
    refine v_iload dX12_rests_36 rfl ?_
    refine v_iconst dX12_rests_38 (by decide) (v := 2) ?_
    refine v_icmp_ge dX12_rests_39 (tgt := 123) (by decide) (fun c1 => ?_) (fun c1 => ?_)
    · replace hf := (if_pos c1).symm.trans hf
      refine v_iinc dX12_rests_123 rfl (v := (l5 + (1 : Int32))) rfl (Nat.le_of_ble_eq_true rfl) (loc' := [some (.ref l0), some (.int l1), some (.int l2), some (.int l3), some (.int l4), some (.int (l5 + (1 : Int32))), some (.int l6)]) rfl ?_
      refine v_goto dX12_rests_126 (tgt := 27) (by decide) ?_
      exact xa_weak (loc := [some (.ref l0), some (.int l1), some (.int l2), some (.int l3), some (.int l4), some (.int (l5 + (1 : Int32))), none]) ⟨rfl, ⟨rfl, ⟨rfl, ⟨rfl, ⟨rfl, ⟨rfl, trivial⟩⟩⟩⟩⟩⟩ (hk27 h l0 l1 l2 l3 l4 (l5 + (1 : Int32)) r hf)
    · replace hf := (if_neg c1).symm.trans hf
      refine v_aload_n dX12_rests_42 rfl ?_
      refine v_iload_n dX12_rests_43 rfl ?_
      refine v_iload_n dX12_rests_44 rfl ?_
      refine v_iconst dX12_rests_45 (by decide) (v := 1) ?_
      refine v_iload dX12_rests_46 rfl ?_
      refine v_isub dX12_rests_48 ?_
      refine v_iload dX12_rests_49 rfl ?_
      refine v_iconst dX12_rests_51 (by decide) (v := 0) ?_
      obtain ⟨q2, eq2, hf⟩ := ob hf
      refine v_callV dX12_rests_52 ⟨cb_X12_gameOf, ml_12_498, im_X12_gameOf⟩ se_12_X12_gameOf (ckf_X12_gameOf eq2) (ev_X12_gameOf eq2) (by decide) (As := [.int l1, .int l2, .int ((1 : Int32) - l5), .int l6, .int (0 : Int32)]) rfl (st := []) rfl (Nat.le_of_ble_eq_true rfl) rfl ?_
      refine v_aload_n dX12_rests_55 rfl ?_
      refine v_iload_n dX12_rests_56 rfl ?_
      refine v_iload_n dX12_rests_57 rfl ?_
      refine v_iload dX12_rests_58 rfl ?_
      refine v_iload dX12_rests_60 rfl ?_
      refine v_iconst dX12_rests_62 (by decide) (v := 0) ?_
      obtain ⟨q3, eq3, hf⟩ := ob hf
      refine v_callV dX12_rests_63 ⟨cb_X12_gameOf, ml_12_498, im_X12_gameOf⟩ se_12_X12_gameOf (ckf_X12_gameOf eq3) (ev_X12_gameOf eq3) (by decide) (As := [.int l1, .int l2, .int l5, .int l6, .int (0 : Int32)]) rfl (st := [.int q2.1]) rfl (Nat.le_of_ble_eq_true rfl) rfl ?_
      refine v_icmp_gt dX12_rests_66 (tgt := 117) (by decide) (fun c4 => ?_) (fun c4 => ?_)
      · replace hf := (if_pos c4).symm.trans hf
        exact e_X12_rests_b117 hk27 ih q3.2 l0 l1 l2 l3 l4 l5 l6 r hf
      · replace hf := (if_neg c4).symm.trans hf
        refine v_aload_n dX12_rests_69 rfl ?_
        refine v_iload_n dX12_rests_70 rfl ?_
        refine v_iload_n dX12_rests_71 rfl ?_
        refine v_iload dX12_rests_72 rfl ?_
        refine v_iconst dX12_rests_74 (by decide) (v := 1) ?_
        refine v_iload dX12_rests_75 rfl ?_
        refine v_isub dX12_rests_77 ?_
        refine v_iconst dX12_rests_78 (by decide) (v := 1) ?_
        obtain ⟨q5, eq5, hf⟩ := ob hf
        refine v_callV dX12_rests_79 ⟨cb_X12_gameOf, ml_12_498, im_X12_gameOf⟩ se_12_X12_gameOf (ckf_X12_gameOf eq5) (ev_X12_gameOf eq5) (by decide) (As := [.int l1, .int l2, .int l5, .int ((1 : Int32) - l6), .int (1 : Int32)]) rfl (st := []) rfl (Nat.le_of_ble_eq_true rfl) rfl ?_
        refine v_aload_n dX12_rests_82 rfl ?_
        refine v_iload_n dX12_rests_83 rfl ?_
        refine v_iload_n dX12_rests_84 rfl ?_
        refine v_iload dX12_rests_85 rfl ?_
        refine v_iload dX12_rests_87 rfl ?_
        refine v_iconst dX12_rests_89 (by decide) (v := 1) ?_
        obtain ⟨q6, eq6, hf⟩ := ob hf
        refine v_callV dX12_rests_90 ⟨cb_X12_gameOf, ml_12_498, im_X12_gameOf⟩ se_12_X12_gameOf (ckf_X12_gameOf eq6) (ev_X12_gameOf eq6) (by decide) (As := [.int l1, .int l2, .int l5, .int l6, .int (1 : Int32)]) rfl (st := [.int q5.1]) rfl (Nat.le_of_ble_eq_true rfl) rfl ?_
        refine v_icmp_le dX12_rests_93 (tgt := 99) (by decide) (fun c7 => ?_) (fun c7 => ?_)
        · replace hf := (if_pos c7).symm.trans hf
          refine v_iload dX12_rests_99 rfl ?_
          refine v_iload_n dX12_rests_101 rfl ?_
          refine v_icmp_ne dX12_rests_102 (tgt := 114) (by decide) (fun c8 => ?_) (fun c8 => ?_)
          · replace hf := (if_neg c8).symm.trans hf
            refine v_iinc dX12_rests_114 rfl (v := (l4 + (1 : Int32))) rfl (Nat.le_of_ble_eq_true rfl) (loc' := [some (.ref l0), some (.int l1), some (.int l2), some (.int l3), some (.int (l4 + (1 : Int32))), some (.int l5), some (.int l6)]) rfl ?_
            exact e_X12_rests_b117 hk27 ih q6.2 l0 l1 l2 l3 (l4 + (1 : Int32)) l5 l6 r hf
          · replace hf := (if_pos c8).symm.trans hf
            refine v_bipush dX12_rests_105 (by decide) (v := 10) ?_
            refine v_iload dX12_rests_107 rfl ?_
            refine v_imul dX12_rests_109 ?_
            refine v_iload dX12_rests_110 rfl ?_
            refine v_iadd dX12_rests_112 ?_
            replace hf := Option.some.inj hf
            subst hf
            exact v_iret dX12_rests_113 rfl
        · replace hf := (if_neg c7).symm.trans hf
          refine v_goto dX12_rests_96 (tgt := 117) (by decide) ?_
          exact e_X12_rests_b117 hk27 ih q6.2 l0 l1 l2 l3 l4 l5 l6 r hf
def f_X12_rests_b27 : Nat → xa_H → Nat → Int32 → Int32 → Int32 → Int32 → Int32 → Option (Int32 × xa_H)
  | 0, _, _, _, _, _, _, _ => none
  | n + 1, h, l0, l1, l2, l3, l4, l5 =>
    if (2 : Int32) ≤ l5 then
      if l3 = (-1 : Int32) then
        some (l4, h)
      else
        some ((-1 : Int32), h)
    else
      f_X12_rests_b36 (fun h l0 l1 l2 l3 l4 l5 => f_X12_rests_b27 n h l0 l1 l2 l3 l4 l5) 1048576 h l0 l1 l2 l3 l4 l5 (0 : Int32)
set_option maxRecDepth 20000 in
theorem e_X12_rests_b27 {G : xa_G} : ∀ (n : Nat) (h : xa_H) (l0 : Nat) (l1 : Int32) (l2 : Int32) (l3 : Int32) (l4 : Int32) (l5 : Int32) (r : (Int32 × xa_H)), f_X12_rests_b27 n h l0 l1 l2 l3 l4 l5 = some r → xa_V G M_X12_rests 5 27 [some (.ref l0), some (.int l1), some (.int l2), some (.int l3), some (.int l4), some (.int l5), none] [] h (some (.int r.1)) r.2 := by
  intro n
  induction n with
  | zero =>
    intro h l0 l1 l2 l3 l4 l5 r hf
    cases (show (none : Option (Int32 × xa_H)) = some r from hf)
  | succ n ih =>
    intro h l0 l1 l2 l3 l4 l5 r hf
    rw [f_X12_rests_b27] at hf
    refine v_iload dX12_rests_27 rfl ?_
    refine v_iconst dX12_rests_29 (by decide) (v := 2) ?_
    refine v_icmp_ge dX12_rests_30 (tgt := 129) (by decide) (fun c1 => ?_) (fun c1 => ?_)
    · replace hf := (if_pos c1).symm.trans hf
      refine v_iload_n dX12_rests_129 rfl ?_
      refine v_iconst dX12_rests_130 (by decide) (v := -1) ?_
      refine v_icmp_ne dX12_rests_131 (tgt := 139) (by decide) (fun c2 => ?_) (fun c2 => ?_)
      · replace hf := (if_neg c2).symm.trans hf
        refine v_iconst dX12_rests_139 (by decide) (v := -1) ?_
        replace hf := Option.some.inj hf
        subst hf
        exact v_iret dX12_rests_140 rfl
      · replace hf := (if_pos c2).symm.trans hf
        refine v_iload dX12_rests_134 rfl ?_
        refine v_goto dX12_rests_136 (tgt := 140) (by decide) ?_
        replace hf := Option.some.inj hf
        subst hf
        exact v_iret dX12_rests_140 rfl
    · replace hf := (if_neg c1).symm.trans hf
      refine v_iconst dX12_rests_33 (by decide) (v := 0) ?_
      refine v_istore dX12_rests_34 (Nat.le_of_ble_eq_true rfl) (loc' := [some (.ref l0), some (.int l1), some (.int l2), some (.int l3), some (.int l4), some (.int l5), some (.int (0 : Int32))]) rfl ?_
      exact e_X12_rests_b36 ih 1048576 h l0 l1 l2 l3 l4 l5 (0 : Int32) r hf
def f_X12_rests (h : xa_H) (l0 : Nat) (l1 : Int32) (l2 : Int32) (l3 : Int32) : Option (Int32 × xa_H) :=
  (ck [12] h l0).bind fun _ =>
  (xp [12] 0 h l0 (.int (0 : Int32))).bind fun h1 =>
  (f_X12_canPlay h1 l0 l1 l2).bind fun q2 =>
  if q2 = 0 then
    some ((-1 : Int32), h1)
  else
    if (-1 : Int32) ≤ l3 then
      f_X12_rests_b27 1048576 h1 l0 l1 l2 l3 (0 : Int32) (0 : Int32)
    else
      some ((-1 : Int32), h1)
set_option maxRecDepth 20000 in
theorem ev_X12_rests {G : xa_G} {h : xa_H} {l0 : Nat} {l1 : Int32} {l2 : Int32} {l3 : Int32} {r : (Int32 × xa_H)} (hf : f_X12_rests h l0 l1 l2 l3 = some r) : xa_Ev G M_X12_rests 5 [.ref l0, .int l1, .int l2, .int l3] h (some (.int r.1)) r.2 := by
  refine xa_entry (by decide +kernel) (loc := [some (.ref l0), some (.int l1), some (.int l2), some (.int l3), none, none, none]) rfl (Nat.le_of_ble_eq_true rfl) ?_
  unfold f_X12_rests at hf
  obtain ⟨u0, eu0, hf⟩ := ob hf
  refine v_aload_n dX12_rests_0 rfl ?_
  refine v_iconst dX12_rests_1 (by decide) (v := 0) ?_
  obtain ⟨h1, eh1, hf⟩ := ob hf
  refine v_put dX12_rests_2 fp_12_111 (fun z => by cases z) (fun _ => rfl) (fun _ => rfl) eh1 ?_
  refine v_aload_n dX12_rests_5 rfl ?_
  refine v_iload_n dX12_rests_6 rfl ?_
  refine v_iload_n dX12_rests_7 rfl ?_
  obtain ⟨q2, eq2, hf⟩ := ob hf
  refine v_callV dX12_rests_8 ⟨cb_X12_canPlay, ml_12_495, im_X12_canPlay⟩ se_12_X12_canPlay (ckf_X12_canPlay eq2) (ev_X12_canPlay eq2) (by decide) (As := [.int l1, .int l2]) rfl (st := []) rfl (Nat.le_of_ble_eq_true rfl) rfl ?_
  refine v_if_eq dX12_rests_11 (tgt := 19) (by decide) (fun c3 => ?_) (fun c3 => ?_)
  · replace hf := (if_pos c3).symm.trans hf
    refine v_iconst dX12_rests_19 (by decide) (v := -1) ?_
    replace hf := Option.some.inj hf
    subst hf
    exact v_iret dX12_rests_20 rfl
  · replace hf := (if_neg c3).symm.trans hf
    refine v_iload_n dX12_rests_14 rfl ?_
    refine v_iconst dX12_rests_15 (by decide) (v := -1) ?_
    refine v_icmp_ge dX12_rests_16 (tgt := 21) (by decide) (fun c4 => ?_) (fun c4 => ?_)
    · replace hf := (if_pos c4).symm.trans hf
      refine v_iconst dX12_rests_21 (by decide) (v := 0) ?_
      refine v_istore dX12_rests_22 (Nat.le_of_ble_eq_true rfl) (loc' := [some (.ref l0), some (.int l1), some (.int l2), some (.int l3), some (.int (0 : Int32)), none, none]) rfl ?_
      refine v_iconst dX12_rests_24 (by decide) (v := 0) ?_
      refine v_istore dX12_rests_25 (Nat.le_of_ble_eq_true rfl) (loc' := [some (.ref l0), some (.int l1), some (.int l2), some (.int l3), some (.int (0 : Int32)), some (.int (0 : Int32)), none]) rfl ?_
      exact e_X12_rests_b27 1048576 h1 l0 l1 l2 l3 (0 : Int32) (0 : Int32) r hf
    · replace hf := (if_neg c4).symm.trans hf
      refine v_iconst dX12_rests_19 (by decide) (v := -1) ?_
      replace hf := Option.some.inj hf
      subst hf
      exact v_iret dX12_rests_20 rfl
theorem ckf_X12_rests {h : xa_H} {l0 : Nat} {l1 : Int32} {l2 : Int32} {l3 : Int32} {r : (Int32 × xa_H)} (hf : f_X12_rests h l0 l1 l2 l3 = some r) : ck [12] h l0 = some () := by
  obtain ⟨u, e, -⟩ := ob hf
  exact e
def M_X12_ring : xa_M := (yX12_ring, cX12_ring, 1, some .int)
theorem cb_X12_ring : xa_CB M_X12_ring 0 := ⟨gws_at 1856 (by decide +kernel) rfl, gws_at 122 (by decide +kernel) rfl, by decide +kernel, Nat.le_of_ble_eq_true rfl⟩
def f_X12_ring (h : xa_H) (l0 : Nat) : Option (Int32 × xa_H) :=
  (ck [12] h l0).bind fun _ =>
  (xp [12] 0 h l0 (.int (0 : Int32))).bind fun h1 =>
  (gI [12] 26 h1 l0).bind fun x2 =>
  if x2 = 0 then
    some ((-1 : Int32), h1)
  else
    (gR [12] 32 h1 l0).bind fun x4 =>
    (f_X12_shortestRing h1 l0 x4).bind fun q5 =>
    some (q5.1, q5.2)
set_option maxRecDepth 20000 in
theorem ev_X12_ring {G : xa_G} {h : xa_H} {l0 : Nat} {r : (Int32 × xa_H)} (hf : f_X12_ring h l0 = some r) : xa_Ev G M_X12_ring 3 [.ref l0] h (some (.int r.1)) r.2 := by
  refine xa_entry (by decide +kernel) (loc := [some (.ref l0)]) rfl (Nat.le_of_ble_eq_true rfl) ?_
  unfold f_X12_ring at hf
  obtain ⟨u0, eu0, hf⟩ := ob hf
  refine v_aload_n dX12_ring_0 rfl ?_
  refine v_iconst dX12_ring_1 (by decide) (v := 0) ?_
  obtain ⟨h1, eh1, hf⟩ := ob hf
  refine v_put dX12_ring_2 fp_12_111 (fun z => by cases z) (fun _ => rfl) (fun _ => rfl) eh1 ?_
  refine v_aload_n dX12_ring_5 rfl ?_
  obtain ⟨x2, ex2, hf⟩ := ob hf
  refine v_getI dX12_ring_6 fl_12_307 ex2 ?_
  refine v_if_ne dX12_ring_9 (tgt := 16) (by decide) (fun c3 => ?_) (fun c3 => ?_)
  · replace hf := (if_neg c3).symm.trans hf
    refine v_aload_n dX12_ring_16 rfl ?_
    refine v_aload_n dX12_ring_17 rfl ?_
    obtain ⟨x4, ex4, hf⟩ := ob hf
    refine v_getR dX12_ring_18 fl_12_61 ex4 ?_
    obtain ⟨q5, eq5, hf⟩ := ob hf
    refine v_callV dX12_ring_21 ⟨cb_X12_shortestRing, ml_12_359, im_X12_shortestRing⟩ se_12_X12_shortestRing (ckf_X12_shortestRing eq5) (ev_X12_shortestRing eq5) (by decide) (As := [.ref x4]) rfl (st := []) rfl (Nat.le_of_ble_eq_true rfl) rfl ?_
    replace hf := Option.some.inj hf
    subst hf
    exact v_iret dX12_ring_24 rfl
  · replace hf := (if_pos c3).symm.trans hf
    refine v_iconst dX12_ring_12 (by decide) (v := -1) ?_
    refine v_goto dX12_ring_13 (tgt := 24) (by decide) ?_
    replace hf := Option.some.inj hf
    subst hf
    exact v_iret dX12_ring_24 rfl
theorem ckf_X12_ring {h : xa_H} {l0 : Nat} {r : (Int32 × xa_H)} (hf : f_X12_ring h l0 = some r) : ck [12] h l0 = some () := by
  obtain ⟨u, e, -⟩ := ob hf
  exact e
def M_X12_seen : xa_M := (yX12_seen, cX12_seen, 7, some .int)
theorem cb_X12_seen : xa_CB M_X12_seen 5 := ⟨gws_at 1864 (by decide +kernel) rfl, gws_at 122 (by decide +kernel) rfl, by decide +kernel, Nat.le_of_ble_eq_true rfl⟩
def f_X12_seen_b129 (h : xa_H) (l0 : Nat) (s0 : Int32) (s1 : Int32) (s2 : Nat) : Option (Int32 × xa_H) :=
  (pI h s2 s1 s0).bind fun h1 =>
  (gI [12] 51 h1 l0).bind fun x2 =>
  (xp [12] 51 h1 l0 (.int (x2 + (1 : Int32)))).bind fun h3 =>
  (gI [12] 51 h3 l0).bind fun x4 =>
  some (x4, h3)
set_option maxRecDepth 20000 in
theorem e_X12_seen_b129 {G : xa_G} : ∀ (h : xa_H) (l0 : Nat) (s0 : Int32) (s1 : Int32) (s2 : Nat) (r : (Int32 × xa_H)), f_X12_seen_b129 h l0 s0 s1 s2 = some r → xa_V G M_X12_seen 1 129 [some (.ref l0), none, none, none, none, none, none] [.int s0, .int s1, .ref s2] h (some (.int r.1)) r.2 := by
  intro h l0 s0 s1 s2 r hf
  unfold f_X12_seen_b129 at hf
  obtain ⟨h1, eh1, hf⟩ := ob hf
  refine v_iastoreI dX12_seen_129 eh1 ?_
  refine v_aload_n dX12_seen_130 rfl ?_
  refine v_dup dX12_seen_131 rfl ?_
  obtain ⟨x2, ex2, hf⟩ := ob hf
  refine v_getI dX12_seen_132 fl_12_317 ex2 ?_
  refine v_iconst dX12_seen_135 (by decide) (v := 1) ?_
  refine v_iadd dX12_seen_136 ?_
  obtain ⟨h3, eh3, hf⟩ := ob hf
  refine v_put dX12_seen_137 fp_12_317 (fun z => by cases z) (fun _ => rfl) (fun _ => rfl) eh3 ?_
  refine v_aload_n dX12_seen_140 rfl ?_
  obtain ⟨x4, ex4, hf⟩ := ob hf
  refine v_getI dX12_seen_141 fl_12_317 ex4 ?_
  replace hf := Option.some.inj hf
  subst hf
  exact v_iret dX12_seen_144 rfl
def f_X12_seen (h : xa_H) (l0 : Nat) (l1 : Int32) (l2 : Int32) (l3 : Int32) (l4 : Int32) (l5 : Int32) : Option (Int32 × xa_H) :=
  (ck [12] h l0).bind fun _ =>
  (xp [12] 0 h l0 (.int (0 : Int32))).bind fun h1 =>
  (f_X12_isHouse h1 l0 l1).bind fun q2 =>
  if q2 = 0 then
    some ((-1 : Int32), h1)
  else
    (f_X12_isHouse h1 l0 l2).bind fun q4 =>
    if q4 = 0 then
      some ((-1 : Int32), h1)
    else
      if l1 = l2 then
        some ((-1 : Int32), h1)
      else
        (f_X12_isIn h1 l3.toInt64 (1 : Int64) (9 : Int64)).bind fun q7 =>
        if q7 = 0 then
          some ((-1 : Int32), h1)
        else
          (f_X12_isIn h1 l4.toInt64 (-99 : Int64) (99 : Int64)).bind fun q9 =>
          if q9 = 0 then
            some ((-1 : Int32), h1)
          else
            (gI [12] 51 h1 l0).bind fun x11 =>
            if x11 = (10 : Int32) then
              some ((-1 : Int32), h1)
            else
              (gI [12] 51 h1 l0).bind fun x13 =>
              (gR [12] 50 h1 l0).bind fun x14 =>
              (pI h1 x14 ((5 : Int32) * x13) l1).bind fun h15 =>
              (gR [12] 50 h15 l0).bind fun x16 =>
              (pI h15 x16 (((5 : Int32) * x13) + (1 : Int32)) l2).bind fun h17 =>
              (gR [12] 50 h17 l0).bind fun x18 =>
              (pI h17 x18 (((5 : Int32) * x13) + (2 : Int32)) l3).bind fun h19 =>
              (gR [12] 50 h19 l0).bind fun x20 =>
              (pI h19 x20 (((5 : Int32) * x13) + (3 : Int32)) l4).bind fun h21 =>
              (gR [12] 50 h21 l0).bind fun x22 =>
              if l5 = 0 then
                f_X12_seen_b129 h21 l0 (0 : Int32) (((5 : Int32) * x13) + (4 : Int32)) x22
              else
                f_X12_seen_b129 h21 l0 (1 : Int32) (((5 : Int32) * x13) + (4 : Int32)) x22
set_option maxRecDepth 20000 in
theorem ev_X12_seen {G : xa_G} {h : xa_H} {l0 : Nat} {l1 : Int32} {l2 : Int32} {l3 : Int32} {l4 : Int32} {l5 : Int32} {r : (Int32 × xa_H)} (hf : f_X12_seen h l0 l1 l2 l3 l4 l5 = some r) : xa_Ev G M_X12_seen 1 [.ref l0, .int l1, .int l2, .int l3, .int l4, .int l5] h (some (.int r.1)) r.2 := by
  refine xa_entry (by decide +kernel) (loc := [some (.ref l0), some (.int l1), some (.int l2), some (.int l3), some (.int l4), some (.int l5), none]) rfl (Nat.le_of_ble_eq_true rfl) ?_
  unfold f_X12_seen at hf
  obtain ⟨u0, eu0, hf⟩ := ob hf
  refine v_aload_n dX12_seen_0 rfl ?_
  refine v_iconst dX12_seen_1 (by decide) (v := 0) ?_
  obtain ⟨h1, eh1, hf⟩ := ob hf
  refine v_put dX12_seen_2 fp_12_111 (fun z => by cases z) (fun _ => rfl) (fun _ => rfl) eh1 ?_
  refine v_aload_n dX12_seen_5 rfl ?_
  refine v_iload_n dX12_seen_6 rfl ?_
  obtain ⟨q2, eq2, hf⟩ := ob hf
  refine v_callV dX12_seen_7 ⟨cb_X12_isHouse, ml_12_335, im_X12_isHouse⟩ se_12_X12_isHouse (ckf_X12_isHouse eq2) (ev_X12_isHouse eq2) (by decide) (As := [.int l1]) rfl (st := []) rfl (Nat.le_of_ble_eq_true rfl) rfl ?_
  refine v_if_eq dX12_seen_10 (tgt := 62) (by decide) (fun c3 => ?_) (fun c3 => ?_)
  · replace hf := (if_pos c3).symm.trans hf
    refine v_iconst dX12_seen_62 (by decide) (v := -1) ?_
    replace hf := Option.some.inj hf
    subst hf
    exact v_iret dX12_seen_63 rfl
  · replace hf := (if_neg c3).symm.trans hf
    refine v_aload_n dX12_seen_13 rfl ?_
    refine v_iload_n dX12_seen_14 rfl ?_
    obtain ⟨q4, eq4, hf⟩ := ob hf
    refine v_callV dX12_seen_15 ⟨cb_X12_isHouse, ml_12_335, im_X12_isHouse⟩ se_12_X12_isHouse (ckf_X12_isHouse eq4) (ev_X12_isHouse eq4) (by decide) (As := [.int l2]) rfl (st := []) rfl (Nat.le_of_ble_eq_true rfl) rfl ?_
    refine v_if_eq dX12_seen_18 (tgt := 62) (by decide) (fun c5 => ?_) (fun c5 => ?_)
    · replace hf := (if_pos c5).symm.trans hf
      refine v_iconst dX12_seen_62 (by decide) (v := -1) ?_
      replace hf := Option.some.inj hf
      subst hf
      exact v_iret dX12_seen_63 rfl
    · replace hf := (if_neg c5).symm.trans hf
      refine v_iload_n dX12_seen_21 rfl ?_
      refine v_iload_n dX12_seen_22 rfl ?_
      refine v_icmp_eq dX12_seen_23 (tgt := 62) (by decide) (fun c6 => ?_) (fun c6 => ?_)
      · replace hf := (if_pos c6).symm.trans hf
        refine v_iconst dX12_seen_62 (by decide) (v := -1) ?_
        replace hf := Option.some.inj hf
        subst hf
        exact v_iret dX12_seen_63 rfl
      · replace hf := (if_neg c6).symm.trans hf
        refine v_iload_n dX12_seen_26 rfl ?_
        refine v_i2l dX12_seen_27 ?_
        refine v_lconst dX12_seen_28 (by decide) (v := 1) ?_
        refine v_ldc2 dX12_seen_29 rfl col_12_386 ?_
        obtain ⟨q7, eq7, hf⟩ := ob hf
        refine v_callS dX12_seen_32 ⟨cb_X12_isIn, ml_12_232, sm_X12_isIn⟩ (ev_X12_isIn eq7) (by decide) (As := [.long l3.toInt64, .long (1 : Int64), .long (9 : Int64)]) rfl (st := []) rfl (Nat.le_of_ble_eq_true rfl) rfl ?_
        refine v_if_eq dX12_seen_35 (tgt := 62) (by decide) (fun c8 => ?_) (fun c8 => ?_)
        · replace hf := (if_pos c8).symm.trans hf
          refine v_iconst dX12_seen_62 (by decide) (v := -1) ?_
          replace hf := Option.some.inj hf
          subst hf
          exact v_iret dX12_seen_63 rfl
        · replace hf := (if_neg c8).symm.trans hf
          refine v_iload dX12_seen_38 rfl ?_
          refine v_i2l dX12_seen_40 ?_
          refine v_ldc2 dX12_seen_41 rfl col_12_478 ?_
          refine v_ldc2 dX12_seen_44 rfl col_12_480 ?_
          obtain ⟨q9, eq9, hf⟩ := ob hf
          refine v_callS dX12_seen_47 ⟨cb_X12_isIn, ml_12_232, sm_X12_isIn⟩ (ev_X12_isIn eq9) (by decide) (As := [.long l4.toInt64, .long (-99 : Int64), .long (99 : Int64)]) rfl (st := []) rfl (Nat.le_of_ble_eq_true rfl) rfl ?_
          refine v_if_eq dX12_seen_50 (tgt := 62) (by decide) (fun c10 => ?_) (fun c10 => ?_)
          · replace hf := (if_pos c10).symm.trans hf
            refine v_iconst dX12_seen_62 (by decide) (v := -1) ?_
            replace hf := Option.some.inj hf
            subst hf
            exact v_iret dX12_seen_63 rfl
          · replace hf := (if_neg c10).symm.trans hf
            refine v_aload_n dX12_seen_53 rfl ?_
            obtain ⟨x11, ex11, hf⟩ := ob hf
            refine v_getI dX12_seen_54 fl_12_317 ex11 ?_
            refine v_bipush dX12_seen_57 (by decide) (v := 10) ?_
            refine v_icmp_ne dX12_seen_59 (tgt := 64) (by decide) (fun c12 => ?_) (fun c12 => ?_)
            · replace hf := (if_neg c12).symm.trans hf
              refine v_iconst dX12_seen_64 (by decide) (v := 5) ?_
              refine v_aload_n dX12_seen_65 rfl ?_
              obtain ⟨x13, ex13, hf⟩ := ob hf
              refine v_getI dX12_seen_66 fl_12_317 ex13 ?_
              refine v_imul dX12_seen_69 ?_
              refine v_istore dX12_seen_70 (Nat.le_of_ble_eq_true rfl) (loc' := [some (.ref l0), some (.int l1), some (.int l2), some (.int l3), some (.int l4), some (.int l5), some (.int ((5 : Int32) * x13))]) rfl ?_
              refine v_aload_n dX12_seen_72 rfl ?_
              obtain ⟨x14, ex14, hf⟩ := ob hf
              refine v_getR dX12_seen_73 fl_12_96 ex14 ?_
              refine v_iload dX12_seen_76 rfl ?_
              refine v_iload_n dX12_seen_78 rfl ?_
              obtain ⟨h15, eh15, hf⟩ := ob hf
              refine v_iastoreI dX12_seen_79 eh15 ?_
              refine v_aload_n dX12_seen_80 rfl ?_
              obtain ⟨x16, ex16, hf⟩ := ob hf
              refine v_getR dX12_seen_81 fl_12_96 ex16 ?_
              refine v_iload dX12_seen_84 rfl ?_
              refine v_iconst dX12_seen_86 (by decide) (v := 1) ?_
              refine v_iadd dX12_seen_87 ?_
              refine v_iload_n dX12_seen_88 rfl ?_
              obtain ⟨h17, eh17, hf⟩ := ob hf
              refine v_iastoreI dX12_seen_89 eh17 ?_
              refine v_aload_n dX12_seen_90 rfl ?_
              obtain ⟨x18, ex18, hf⟩ := ob hf
              refine v_getR dX12_seen_91 fl_12_96 ex18 ?_
              refine v_iload dX12_seen_94 rfl ?_
              refine v_iconst dX12_seen_96 (by decide) (v := 2) ?_
              refine v_iadd dX12_seen_97 ?_
              refine v_iload_n dX12_seen_98 rfl ?_
              obtain ⟨h19, eh19, hf⟩ := ob hf
              refine v_iastoreI dX12_seen_99 eh19 ?_
              refine v_aload_n dX12_seen_100 rfl ?_
              obtain ⟨x20, ex20, hf⟩ := ob hf
              refine v_getR dX12_seen_101 fl_12_96 ex20 ?_
              refine v_iload dX12_seen_104 rfl ?_
              refine v_iconst dX12_seen_106 (by decide) (v := 3) ?_
              refine v_iadd dX12_seen_107 ?_
              refine v_iload dX12_seen_108 rfl ?_
              obtain ⟨h21, eh21, hf⟩ := ob hf
              refine v_iastoreI dX12_seen_110 eh21 ?_
              refine v_aload_n dX12_seen_111 rfl ?_
              obtain ⟨x22, ex22, hf⟩ := ob hf
              refine v_getR dX12_seen_112 fl_12_96 ex22 ?_
              refine v_iload dX12_seen_115 rfl ?_
              refine v_iconst dX12_seen_117 (by decide) (v := 4) ?_
              refine v_iadd dX12_seen_118 ?_
              refine v_iload dX12_seen_119 rfl ?_
              refine v_if_eq dX12_seen_121 (tgt := 128) (by decide) (fun c23 => ?_) (fun c23 => ?_)
              · replace hf := (if_pos c23).symm.trans hf
                refine v_iconst dX12_seen_128 (by decide) (v := 0) ?_
                exact xa_weak (loc := [some (.ref l0), none, none, none, none, none, none]) ⟨rfl, trivial⟩ (e_X12_seen_b129 h21 l0 (0 : Int32) (((5 : Int32) * x13) + (4 : Int32)) x22 r hf)
              · replace hf := (if_neg c23).symm.trans hf
                refine v_iconst dX12_seen_124 (by decide) (v := 1) ?_
                refine v_goto dX12_seen_125 (tgt := 129) (by decide) ?_
                exact xa_weak (loc := [some (.ref l0), none, none, none, none, none, none]) ⟨rfl, trivial⟩ (e_X12_seen_b129 h21 l0 (1 : Int32) (((5 : Int32) * x13) + (4 : Int32)) x22 r hf)
            · replace hf := (if_pos c12).symm.trans hf
              refine v_iconst dX12_seen_62 (by decide) (v := -1) ?_
              replace hf := Option.some.inj hf
              subst hf
              exact v_iret dX12_seen_63 rfl
theorem ckf_X12_seen {h : xa_H} {l0 : Nat} {l1 : Int32} {l2 : Int32} {l3 : Int32} {l4 : Int32} {l5 : Int32} {r : (Int32 × xa_H)} (hf : f_X12_seen h l0 l1 l2 l3 l4 l5 = some r) : ck [12] h l0 = some () := by
  obtain ⟨u, e, -⟩ := ob hf
  exact e
def M_X12_shares : xa_M := (yX12_shares, cX12_shares, 4, some .int)
theorem cb_X12_shares : xa_CB M_X12_shares 2 := ⟨gws_at 1917 (by decide +kernel) rfl, gws_at 122 (by decide +kernel) rfl, by decide +kernel, Nat.le_of_ble_eq_true rfl⟩
def f_X12_shares (h : xa_H) (l0 : Nat) (l1 : Int32) (l2 : Int32) : Option (Int32 × xa_H) :=
  (ck [12] h l0).bind fun _ =>
  (xp [12] 0 h l0 (.int (0 : Int32))).bind fun h1 =>
  (f_X12_isHouse h1 l0 l1).bind fun q2 =>
  if q2 = 0 then
    some ((-1 : Int32), h1)
  else
    (f_X12_isIn h1 l2.toInt64 (0 : Int64) (999 : Int64)).bind fun q4 =>
    if q4 = 0 then
      some ((-1 : Int32), h1)
    else
      (gR [12] 32 h1 l0).bind fun x6 =>
      (f_X12_allFavours h1 l0 x6).bind fun q7 =>
      if q7 = 0 then
        some ((0 : Int32), h1)
      else
        (gR [12] 32 h1 l0).bind fun x9 =>
        (f_X12_in h1 l0 x9 l1).bind fun q10 =>
        if q7 = 0 then none else
        some (((l2 * q10) / q7), h1)
set_option maxRecDepth 20000 in
theorem ev_X12_shares {G : xa_G} {h : xa_H} {l0 : Nat} {l1 : Int32} {l2 : Int32} {r : (Int32 × xa_H)} (hf : f_X12_shares h l0 l1 l2 = some r) : xa_Ev G M_X12_shares 3 [.ref l0, .int l1, .int l2] h (some (.int r.1)) r.2 := by
  refine xa_entry (by decide +kernel) (loc := [some (.ref l0), some (.int l1), some (.int l2), none]) rfl (Nat.le_of_ble_eq_true rfl) ?_
  unfold f_X12_shares at hf
  obtain ⟨u0, eu0, hf⟩ := ob hf
  refine v_aload_n dX12_shares_0 rfl ?_
  refine v_iconst dX12_shares_1 (by decide) (v := 0) ?_
  obtain ⟨h1, eh1, hf⟩ := ob hf
  refine v_put dX12_shares_2 fp_12_111 (fun z => by cases z) (fun _ => rfl) (fun _ => rfl) eh1 ?_
  refine v_aload_n dX12_shares_5 rfl ?_
  refine v_iload_n dX12_shares_6 rfl ?_
  obtain ⟨q2, eq2, hf⟩ := ob hf
  refine v_callV dX12_shares_7 ⟨cb_X12_isHouse, ml_12_335, im_X12_isHouse⟩ se_12_X12_isHouse (ckf_X12_isHouse eq2) (ev_X12_isHouse eq2) (by decide) (As := [.int l1]) rfl (st := []) rfl (Nat.le_of_ble_eq_true rfl) rfl ?_
  refine v_if_eq dX12_shares_10 (tgt := 25) (by decide) (fun c3 => ?_) (fun c3 => ?_)
  · replace hf := (if_pos c3).symm.trans hf
    refine v_iconst dX12_shares_25 (by decide) (v := -1) ?_
    replace hf := Option.some.inj hf
    subst hf
    exact v_iret dX12_shares_26 rfl
  · replace hf := (if_neg c3).symm.trans hf
    refine v_iload_n dX12_shares_13 rfl ?_
    refine v_i2l dX12_shares_14 ?_
    refine v_lconst dX12_shares_15 (by decide) (v := 0) ?_
    refine v_ldc2 dX12_shares_16 rfl col_12_508 ?_
    obtain ⟨q4, eq4, hf⟩ := ob hf
    refine v_callS dX12_shares_19 ⟨cb_X12_isIn, ml_12_232, sm_X12_isIn⟩ (ev_X12_isIn eq4) (by decide) (As := [.long l2.toInt64, .long (0 : Int64), .long (999 : Int64)]) rfl (st := []) rfl (Nat.le_of_ble_eq_true rfl) rfl ?_
    refine v_if_ne dX12_shares_22 (tgt := 27) (by decide) (fun c5 => ?_) (fun c5 => ?_)
    · replace hf := (if_neg c5).symm.trans hf
      refine v_aload_n dX12_shares_27 rfl ?_
      refine v_aload_n dX12_shares_28 rfl ?_
      obtain ⟨x6, ex6, hf⟩ := ob hf
      refine v_getR dX12_shares_29 fl_12_61 ex6 ?_
      obtain ⟨q7, eq7, hf⟩ := ob hf
      refine v_callV dX12_shares_32 ⟨cb_X12_allFavours, ml_12_363, im_X12_allFavours⟩ se_12_X12_allFavours (ckf_X12_allFavours eq7) (ev_X12_allFavours eq7) (by decide) (As := [.ref x6]) rfl (st := []) rfl (Nat.le_of_ble_eq_true rfl) rfl ?_
      refine v_istore_n (i := 3) rfl dX12_shares_35 (Nat.le_of_ble_eq_true rfl) (loc' := [some (.ref l0), some (.int l1), some (.int l2), some (.int q7)]) rfl ?_
      refine v_iload_n dX12_shares_36 rfl ?_
      refine v_if_ne dX12_shares_37 (tgt := 44) (by decide) (fun c8 => ?_) (fun c8 => ?_)
      · replace hf := (if_neg c8).symm.trans hf
        refine v_iload_n dX12_shares_44 rfl ?_
        refine v_aload_n dX12_shares_45 rfl ?_
        refine v_aload_n dX12_shares_46 rfl ?_
        obtain ⟨x9, ex9, hf⟩ := ob hf
        refine v_getR dX12_shares_47 fl_12_61 ex9 ?_
        refine v_iload_n dX12_shares_50 rfl ?_
        obtain ⟨q10, eq10, hf⟩ := ob hf
        refine v_callV dX12_shares_51 ⟨cb_X12_in, ml_12_370, im_X12_in⟩ se_12_X12_in (ckf_X12_in eq10) (ev_X12_in eq10) (by decide) (As := [.ref x9, .int l1]) rfl (st := [.int l2]) rfl (Nat.le_of_ble_eq_true rfl) rfl ?_
        refine v_imul dX12_shares_54 ?_
        refine v_iload_n dX12_shares_55 rfl ?_
        by_cases z11 : q7 = 0
        · replace hf := (if_pos z11).symm.trans hf
          cases hf
        replace hf := (if_neg z11).symm.trans hf
        refine v_idiv dX12_shares_56 z11 ?_
        replace hf := Option.some.inj hf
        subst hf
        exact v_iret dX12_shares_57 rfl
      · replace hf := (if_pos c8).symm.trans hf
        refine v_iconst dX12_shares_40 (by decide) (v := 0) ?_
        refine v_goto dX12_shares_41 (tgt := 57) (by decide) ?_
        replace hf := Option.some.inj hf
        subst hf
        exact v_iret dX12_shares_57 rfl
    · replace hf := (if_pos c5).symm.trans hf
      refine v_iconst dX12_shares_25 (by decide) (v := -1) ?_
      replace hf := Option.some.inj hf
      subst hf
      exact v_iret dX12_shares_26 rfl
theorem ckf_X12_shares {h : xa_H} {l0 : Nat} {l1 : Int32} {l2 : Int32} {r : (Int32 × xa_H)} (hf : f_X12_shares h l0 l1 l2 = some r) : ck [12] h l0 = some () := by
  obtain ⟨u, e, -⟩ := ob hf
  exact e
def M_X12_sing : xa_M := (yX12_sing, cX12_sing, 4, some .int)
theorem cb_X12_sing : xa_CB M_X12_sing 1 := ⟨gws_at 1740 (by decide +kernel) rfl, gws_at 122 (by decide +kernel) rfl, by decide +kernel, Nat.le_of_ble_eq_true rfl⟩
def f_X12_sing_b91 (h : xa_H) (l2 : Int32) : Option (Int32 × xa_H) :=
  some (l2, h)
set_option maxRecDepth 20000 in
theorem e_X12_sing_b91 {G : xa_G} : ∀ (h : xa_H) (l2 : Int32) (r : (Int32 × xa_H)), f_X12_sing_b91 h l2 = some r → xa_V G M_X12_sing 192 91 [none, none, some (.int l2), none] [] h (some (.int r.1)) r.2 := by
  intro h l2 r hf
  unfold f_X12_sing_b91 at hf
  refine v_iload_n dX12_sing_91 rfl ?_
  replace hf := Option.some.inj hf
  subst hf
  exact v_iret dX12_sing_92 rfl
def f_X12_sing_b29 : Nat → xa_H → Nat → Int32 → Int32 → Option (Int32 × xa_H)
  | 0, _, _, _, _ => none
  | n + 1, h, l0, l1, l2 =>
    (gR [12] 25 h l0).bind fun x1 =>
    (aI h x1 l1).bind fun x2 =>
    if x2 ≤ l2 then
      some (l2, h)
    else
      (gR [12] 24 h l0).bind fun x4 =>
      (aI h x4 (((16 : Int32) * l1) + l2)).bind fun x5 =>
      (gR [12] 32 h l0).bind fun x6 =>
      (f_X12_can h l0 x6 x5).bind fun q7 =>
      if q7.1 = 0 then
        f_X12_sing_b91 q7.2 l2
      else
        (gR [12] 32 q7.2 l0).bind fun x9 =>
        (aI q7.2 x9 (49 : Int32)).bind fun x10 =>
        (f_X12_cost q7.2 l0 x5).bind fun q11 =>
        if x10 < q11.1 then
          f_X12_sing_b91 q11.2 l2
        else
          (gR [12] 32 q11.2 l0).bind fun x13 =>
          (aI q11.2 x13 (50 : Int32)).bind fun x14 =>
          if x14 = (9999 : Int32) then
            f_X12_sing_b91 q11.2 l2
          else
            (f_X12_pays q11.2 l0 x5).bind fun q16 =>
            f_X12_sing_b29 n q16 l0 l1 (l2 + (1 : Int32))
set_option maxRecDepth 20000 in
theorem e_X12_sing_b29 {G : xa_G} : ∀ (n : Nat) (h : xa_H) (l0 : Nat) (l1 : Int32) (l2 : Int32) (r : (Int32 × xa_H)), f_X12_sing_b29 n h l0 l1 l2 = some r → xa_V G M_X12_sing 192 29 [some (.ref l0), some (.int l1), some (.int l2), none] [] h (some (.int r.1)) r.2 := by
  intro n
  induction n with
  | zero =>
    intro h l0 l1 l2 r hf
    cases (show (none : Option (Int32 × xa_H)) = some r from hf)
  | succ n ih =>
    intro h l0 l1 l2 r hf
    rw [f_X12_sing_b29] at hf
    refine v_iload_n dX12_sing_29 rfl ?_
    refine v_aload_n dX12_sing_30 rfl ?_
    obtain ⟨x1, ex1, hf⟩ := ob hf
    refine v_getR dX12_sing_31 fl_12_58 ex1 ?_
    refine v_iload_n dX12_sing_34 rfl ?_
    obtain ⟨x2, ex2, hf⟩ := ob hf
    refine v_ialoadI dX12_sing_35 ex2 ?_
    refine v_icmp_ge dX12_sing_36 (tgt := 104) (by decide) (fun c3 => ?_) (fun c3 => ?_)
    · replace hf := (if_pos c3).symm.trans hf
      refine v_iload_n dX12_sing_104 rfl ?_
      replace hf := Option.some.inj hf
      subst hf
      exact v_iret dX12_sing_105 rfl
    · replace hf := (if_neg c3).symm.trans hf
      refine v_aload_n dX12_sing_39 rfl ?_
      obtain ⟨x4, ex4, hf⟩ := ob hf
      refine v_getR dX12_sing_40 fl_12_55 ex4 ?_
      refine v_bipush dX12_sing_43 (by decide) (v := 16) ?_
      refine v_iload_n dX12_sing_45 rfl ?_
      refine v_imul dX12_sing_46 ?_
      refine v_iload_n dX12_sing_47 rfl ?_
      refine v_iadd dX12_sing_48 ?_
      obtain ⟨x5, ex5, hf⟩ := ob hf
      refine v_ialoadI dX12_sing_49 ex5 ?_
      refine v_istore_n (i := 3) rfl dX12_sing_50 (Nat.le_of_ble_eq_true rfl) (loc' := [some (.ref l0), some (.int l1), some (.int l2), some (.int x5)]) rfl ?_
      refine v_aload_n dX12_sing_51 rfl ?_
      refine v_aload_n dX12_sing_52 rfl ?_
      obtain ⟨x6, ex6, hf⟩ := ob hf
      refine v_getR dX12_sing_53 fl_12_61 ex6 ?_
      refine v_iload_n dX12_sing_56 rfl ?_
      obtain ⟨q7, eq7, hf⟩ := ob hf
      refine v_callV dX12_sing_57 ⟨cb_X12_can, ml_12_403, im_X12_can⟩ se_12_X12_can (ckf_X12_can eq7) (ev_X12_can eq7) (by decide) (As := [.ref x6, .int x5]) rfl (st := []) rfl (Nat.le_of_ble_eq_true rfl) rfl ?_
      refine v_if_eq dX12_sing_60 (tgt := 91) (by decide) (fun c8 => ?_) (fun c8 => ?_)
      · replace hf := (if_pos c8).symm.trans hf
        exact xa_weak (loc := [none, none, some (.int l2), none]) ⟨rfl, trivial⟩ (e_X12_sing_b91 q7.2 l2 r hf)
      · replace hf := (if_neg c8).symm.trans hf
        refine v_aload_n dX12_sing_63 rfl ?_
        obtain ⟨x9, ex9, hf⟩ := ob hf
        refine v_getR dX12_sing_64 fl_12_61 ex9 ?_
        refine v_bipush dX12_sing_67 (by decide) (v := 49) ?_
        obtain ⟨x10, ex10, hf⟩ := ob hf
        refine v_ialoadI dX12_sing_69 ex10 ?_
        refine v_aload_n dX12_sing_70 rfl ?_
        refine v_iload_n dX12_sing_71 rfl ?_
        obtain ⟨q11, eq11, hf⟩ := ob hf
        refine v_callV dX12_sing_72 ⟨cb_X12_cost, ml_12_377, im_X12_cost⟩ se_12_X12_cost (ckf_X12_cost eq11) (ev_X12_cost eq11) (by decide) (As := [.int x5]) rfl (st := [.int x10]) rfl (Nat.le_of_ble_eq_true rfl) rfl ?_
        refine v_icmp_lt dX12_sing_75 (tgt := 91) (by decide) (fun c12 => ?_) (fun c12 => ?_)
        · replace hf := (if_pos c12).symm.trans hf
          exact xa_weak (loc := [none, none, some (.int l2), none]) ⟨rfl, trivial⟩ (e_X12_sing_b91 q11.2 l2 r hf)
        · replace hf := (if_neg c12).symm.trans hf
          refine v_aload_n dX12_sing_78 rfl ?_
          obtain ⟨x13, ex13, hf⟩ := ob hf
          refine v_getR dX12_sing_79 fl_12_61 ex13 ?_
          refine v_bipush dX12_sing_82 (by decide) (v := 50) ?_
          obtain ⟨x14, ex14, hf⟩ := ob hf
          refine v_ialoadI dX12_sing_84 ex14 ?_
          refine v_sipush dX12_sing_85 (by decide) (v := 9999) ?_
          refine v_icmp_ne dX12_sing_88 (tgt := 93) (by decide) (fun c15 => ?_) (fun c15 => ?_)
          · replace hf := (if_neg c15).symm.trans hf
            refine v_aload_n dX12_sing_93 rfl ?_
            refine v_iload_n dX12_sing_94 rfl ?_
            obtain ⟨q16, eq16, hf⟩ := ob hf
            refine v_callV dX12_sing_95 ⟨cb_X12_pays, ml_12_400, im_X12_pays⟩ se_12_X12_pays (ckf_X12_pays eq16) (ev_X12_pays eq16) (by decide) (As := [.int x5]) rfl (st := []) rfl (Nat.le_of_ble_eq_true rfl) rfl ?_
            refine v_iinc dX12_sing_98 rfl (v := (l2 + (1 : Int32))) rfl (Nat.le_of_ble_eq_true rfl) (loc' := [some (.ref l0), some (.int l1), some (.int (l2 + (1 : Int32))), some (.int x5)]) rfl ?_
            refine v_goto dX12_sing_101 (tgt := 29) (by decide) ?_
            exact xa_weak (loc := [some (.ref l0), some (.int l1), some (.int (l2 + (1 : Int32))), none]) ⟨rfl, ⟨rfl, ⟨rfl, trivial⟩⟩⟩ (ih q16 l0 l1 (l2 + (1 : Int32)) r hf)
          · replace hf := (if_pos c15).symm.trans hf
            exact xa_weak (loc := [none, none, some (.int l2), none]) ⟨rfl, trivial⟩ (e_X12_sing_b91 q11.2 l2 r hf)
def f_X12_sing_b20 (h : xa_H) (l0 : Nat) : Option (Int32 × xa_H) :=
  (f_X12_refused h l0 (0 : Int32) (-1 : Int32)).bind fun q1 =>
  some (q1.1, q1.2)
set_option maxRecDepth 20000 in
theorem e_X12_sing_b20 {G : xa_G} : ∀ (h : xa_H) (l0 : Nat) (r : (Int32 × xa_H)), f_X12_sing_b20 h l0 = some r → xa_V G M_X12_sing 192 20 [some (.ref l0), none, none, none] [] h (some (.int r.1)) r.2 := by
  intro h l0 r hf
  unfold f_X12_sing_b20 at hf
  refine v_aload_n dX12_sing_20 rfl ?_
  refine v_iconst dX12_sing_21 (by decide) (v := 0) ?_
  refine v_iconst dX12_sing_22 (by decide) (v := -1) ?_
  obtain ⟨q1, eq1, hf⟩ := ob hf
  refine v_callV dX12_sing_23 ⟨cb_X12_refused, ml_12_397, im_X12_refused⟩ se_12_X12_refused (ckf_X12_refused eq1) (ev_X12_refused eq1) (by decide) (As := [.int (0 : Int32), .int (-1 : Int32)]) rfl (st := []) rfl (Nat.le_of_ble_eq_true rfl) rfl ?_
  replace hf := Option.some.inj hf
  subst hf
  exact v_iret dX12_sing_26 rfl
def f_X12_sing (h : xa_H) (l0 : Nat) (l1 : Int32) : Option (Int32 × xa_H) :=
  (ck [12] h l0).bind fun _ =>
  (xp [12] 0 h l0 (.int (0 : Int32))).bind fun h1 =>
  (f_X12_isSong h1 l0 l1).bind fun q2 =>
  if q2 = 0 then
    f_X12_sing_b20 h1 l0
  else
    (gI [12] 26 h1 l0).bind fun x4 =>
    if x4 = 0 then
      f_X12_sing_b20 h1 l0
    else
      f_X12_sing_b29 1048576 h1 l0 l1 (0 : Int32)
set_option maxRecDepth 20000 in
theorem ev_X12_sing {G : xa_G} {h : xa_H} {l0 : Nat} {l1 : Int32} {r : (Int32 × xa_H)} (hf : f_X12_sing h l0 l1 = some r) : xa_Ev G M_X12_sing 192 [.ref l0, .int l1] h (some (.int r.1)) r.2 := by
  refine xa_entry (by decide +kernel) (loc := [some (.ref l0), some (.int l1), none, none]) rfl (Nat.le_of_ble_eq_true rfl) ?_
  unfold f_X12_sing at hf
  obtain ⟨u0, eu0, hf⟩ := ob hf
  refine v_aload_n dX12_sing_0 rfl ?_
  refine v_iconst dX12_sing_1 (by decide) (v := 0) ?_
  obtain ⟨h1, eh1, hf⟩ := ob hf
  refine v_put dX12_sing_2 fp_12_111 (fun z => by cases z) (fun _ => rfl) (fun _ => rfl) eh1 ?_
  refine v_aload_n dX12_sing_5 rfl ?_
  refine v_iload_n dX12_sing_6 rfl ?_
  obtain ⟨q2, eq2, hf⟩ := ob hf
  refine v_callV dX12_sing_7 ⟨cb_X12_isSong, ml_12_381, im_X12_isSong⟩ se_12_X12_isSong (ckf_X12_isSong eq2) (ev_X12_isSong eq2) (by decide) (As := [.int l1]) rfl (st := []) rfl (Nat.le_of_ble_eq_true rfl) rfl ?_
  refine v_if_eq dX12_sing_10 (tgt := 20) (by decide) (fun c3 => ?_) (fun c3 => ?_)
  · replace hf := (if_pos c3).symm.trans hf
    exact xa_weak (loc := [some (.ref l0), none, none, none]) ⟨rfl, trivial⟩ (e_X12_sing_b20 h1 l0 r hf)
  · replace hf := (if_neg c3).symm.trans hf
    refine v_aload_n dX12_sing_13 rfl ?_
    obtain ⟨x4, ex4, hf⟩ := ob hf
    refine v_getI dX12_sing_14 fl_12_307 ex4 ?_
    refine v_if_ne dX12_sing_17 (tgt := 27) (by decide) (fun c5 => ?_) (fun c5 => ?_)
    · replace hf := (if_neg c5).symm.trans hf
      refine v_iconst dX12_sing_27 (by decide) (v := 0) ?_
      refine v_istore_n (i := 2) rfl dX12_sing_28 (Nat.le_of_ble_eq_true rfl) (loc' := [some (.ref l0), some (.int l1), some (.int (0 : Int32)), none]) rfl ?_
      exact e_X12_sing_b29 1048576 h1 l0 l1 (0 : Int32) r hf
    · replace hf := (if_pos c5).symm.trans hf
      exact xa_weak (loc := [some (.ref l0), none, none, none]) ⟨rfl, trivial⟩ (e_X12_sing_b20 h1 l0 r hf)
theorem ckf_X12_sing {h : xa_H} {l0 : Nat} {l1 : Int32} {r : (Int32 × xa_H)} (hf : f_X12_sing h l0 l1 = some r) : ck [12] h l0 = some () := by
  obtain ⟨u, e, -⟩ := ob hf
  exact e
def M_X12_status : xa_M := (yX12_status, cX12_status, 2, some .int)
theorem cb_X12_status : xa_CB M_X12_status 1 := ⟨gws_at 1779 (by decide +kernel) rfl, gws_at 122 (by decide +kernel) rfl, by decide +kernel, Nat.le_of_ble_eq_true rfl⟩
def f_X12_status (h : xa_H) (l0 : Nat) (l1 : Int32) : Option (Int32 × xa_H) :=
  (ck [12] h l0).bind fun _ =>
  (xp [12] 0 h l0 (.int (0 : Int32))).bind fun h1 =>
  (f_X12_isIn h1 l1.toInt64 (0 : Int64) (5 : Int64)).bind fun q2 =>
  if q2 = 0 then
    some ((-1 : Int32), h1)
  else
    (gR [12] 34 h1 l0).bind fun x4 =>
    (aI h1 x4 l1).bind fun x5 =>
    some (x5, h1)
set_option maxRecDepth 20000 in
theorem ev_X12_status {G : xa_G} {h : xa_H} {l0 : Nat} {l1 : Int32} {r : (Int32 × xa_H)} (hf : f_X12_status h l0 l1 = some r) : xa_Ev G M_X12_status 1 [.ref l0, .int l1] h (some (.int r.1)) r.2 := by
  refine xa_entry (by decide +kernel) (loc := [some (.ref l0), some (.int l1)]) rfl (Nat.le_of_ble_eq_true rfl) ?_
  unfold f_X12_status at hf
  obtain ⟨u0, eu0, hf⟩ := ob hf
  refine v_aload_n dX12_status_0 rfl ?_
  refine v_iconst dX12_status_1 (by decide) (v := 0) ?_
  obtain ⟨h1, eh1, hf⟩ := ob hf
  refine v_put dX12_status_2 fp_12_111 (fun z => by cases z) (fun _ => rfl) (fun _ => rfl) eh1 ?_
  refine v_iload_n dX12_status_5 rfl ?_
  refine v_i2l dX12_status_6 ?_
  refine v_lconst dX12_status_7 (by decide) (v := 0) ?_
  refine v_ldc2 dX12_status_8 rfl col_12_426 ?_
  obtain ⟨q2, eq2, hf⟩ := ob hf
  refine v_callS dX12_status_11 ⟨cb_X12_isIn, ml_12_232, sm_X12_isIn⟩ (ev_X12_isIn eq2) (by decide) (As := [.long l1.toInt64, .long (0 : Int64), .long (5 : Int64)]) rfl (st := []) rfl (Nat.le_of_ble_eq_true rfl) rfl ?_
  refine v_if_eq dX12_status_14 (tgt := 26) (by decide) (fun c3 => ?_) (fun c3 => ?_)
  · replace hf := (if_pos c3).symm.trans hf
    refine v_iconst dX12_status_26 (by decide) (v := -1) ?_
    replace hf := Option.some.inj hf
    subst hf
    exact v_iret dX12_status_27 rfl
  · replace hf := (if_neg c3).symm.trans hf
    refine v_aload_n dX12_status_17 rfl ?_
    obtain ⟨x4, ex4, hf⟩ := ob hf
    refine v_getR dX12_status_18 fl_12_67 ex4 ?_
    refine v_iload_n dX12_status_21 rfl ?_
    obtain ⟨x5, ex5, hf⟩ := ob hf
    refine v_ialoadI dX12_status_22 ex5 ?_
    refine v_goto dX12_status_23 (tgt := 27) (by decide) ?_
    replace hf := Option.some.inj hf
    subst hf
    exact v_iret dX12_status_27 rfl
theorem ckf_X12_status {h : xa_H} {l0 : Nat} {l1 : Int32} {r : (Int32 × xa_H)} (hf : f_X12_status h l0 l1 = some r) : ck [12] h l0 = some () := by
  obtain ⟨u, e, -⟩ := ob hf
  exact e
def M_X12_straight : xa_M := (yX12_straight, cX12_straight, 2, some .int)
theorem cb_X12_straight : xa_CB M_X12_straight 1 := ⟨gws_at 1848 (by decide +kernel) rfl, gws_at 122 (by decide +kernel) rfl, by decide +kernel, Nat.le_of_ble_eq_true rfl⟩
def f_X12_straight (h : xa_H) (l0 : Nat) (l1 : Int32) : Option (Int32 × xa_H) :=
  (ck [12] h l0).bind fun _ =>
  (xp [12] 0 h l0 (.int (0 : Int32))).bind fun h1 =>
  (gI [12] 26 h1 l0).bind fun x2 =>
  if x2 = 0 then
    some ((-1 : Int32), h1)
  else
    (f_X12_isIn h1 l1.toInt64 (0 : Int64) (1 : Int64)).bind fun q4 =>
    if q4 = 0 then
      some ((-1 : Int32), h1)
    else
      (f_X12_seeks h1 l0 (1 : Int32) (4 : Int32)).bind fun q6 =>
      if l1 = 0 then
        (gI [12] 47 q6 l0).bind fun x9 =>
        some (x9, q6)
      else
        (gI [12] 49 q6 l0).bind fun x8 =>
        some (x8, q6)
set_option maxRecDepth 20000 in
theorem ev_X12_straight {G : xa_G} {h : xa_H} {l0 : Nat} {l1 : Int32} {r : (Int32 × xa_H)} (hf : f_X12_straight h l0 l1 = some r) : xa_Ev G M_X12_straight 15 [.ref l0, .int l1] h (some (.int r.1)) r.2 := by
  refine xa_entry (by decide +kernel) (loc := [some (.ref l0), some (.int l1)]) rfl (Nat.le_of_ble_eq_true rfl) ?_
  unfold f_X12_straight at hf
  obtain ⟨u0, eu0, hf⟩ := ob hf
  refine v_aload_n dX12_straight_0 rfl ?_
  refine v_iconst dX12_straight_1 (by decide) (v := 0) ?_
  obtain ⟨h1, eh1, hf⟩ := ob hf
  refine v_put dX12_straight_2 fp_12_111 (fun z => by cases z) (fun _ => rfl) (fun _ => rfl) eh1 ?_
  refine v_aload_n dX12_straight_5 rfl ?_
  obtain ⟨x2, ex2, hf⟩ := ob hf
  refine v_getI dX12_straight_6 fl_12_307 ex2 ?_
  refine v_if_eq dX12_straight_9 (tgt := 22) (by decide) (fun c3 => ?_) (fun c3 => ?_)
  · replace hf := (if_pos c3).symm.trans hf
    refine v_iconst dX12_straight_22 (by decide) (v := -1) ?_
    replace hf := Option.some.inj hf
    subst hf
    exact v_iret dX12_straight_23 rfl
  · replace hf := (if_neg c3).symm.trans hf
    refine v_iload_n dX12_straight_12 rfl ?_
    refine v_i2l dX12_straight_13 ?_
    refine v_lconst dX12_straight_14 (by decide) (v := 0) ?_
    refine v_lconst dX12_straight_15 (by decide) (v := 1) ?_
    obtain ⟨q4, eq4, hf⟩ := ob hf
    refine v_callS dX12_straight_16 ⟨cb_X12_isIn, ml_12_232, sm_X12_isIn⟩ (ev_X12_isIn eq4) (by decide) (As := [.long l1.toInt64, .long (0 : Int64), .long (1 : Int64)]) rfl (st := []) rfl (Nat.le_of_ble_eq_true rfl) rfl ?_
    refine v_if_ne dX12_straight_19 (tgt := 24) (by decide) (fun c5 => ?_) (fun c5 => ?_)
    · replace hf := (if_neg c5).symm.trans hf
      refine v_aload_n dX12_straight_24 rfl ?_
      refine v_iconst dX12_straight_25 (by decide) (v := 1) ?_
      refine v_iconst dX12_straight_26 (by decide) (v := 4) ?_
      obtain ⟨q6, eq6, hf⟩ := ob hf
      refine v_callV dX12_straight_27 ⟨cb_X12_seeks, ml_12_475, im_X12_seeks⟩ se_12_X12_seeks (ckf_X12_seeks eq6) (ev_X12_seeks eq6) (by decide) (As := [.int (1 : Int32), .int (4 : Int32)]) rfl (st := []) rfl (Nat.le_of_ble_eq_true rfl) rfl ?_
      refine v_iload_n dX12_straight_30 rfl ?_
      refine v_if_ne dX12_straight_31 (tgt := 41) (by decide) (fun c7 => ?_) (fun c7 => ?_)
      · replace hf := (if_neg c7).symm.trans hf
        refine v_aload_n dX12_straight_41 rfl ?_
        obtain ⟨x8, ex8, hf⟩ := ob hf
        refine v_getI dX12_straight_42 fl_12_459 ex8 ?_
        replace hf := Option.some.inj hf
        subst hf
        exact v_iret dX12_straight_45 rfl
      · replace hf := (if_pos c7).symm.trans hf
        refine v_aload_n dX12_straight_34 rfl ?_
        obtain ⟨x9, ex9, hf⟩ := ob hf
        refine v_getI dX12_straight_35 fl_12_456 ex9 ?_
        refine v_goto dX12_straight_38 (tgt := 45) (by decide) ?_
        replace hf := Option.some.inj hf
        subst hf
        exact v_iret dX12_straight_45 rfl
    · replace hf := (if_pos c5).symm.trans hf
      refine v_iconst dX12_straight_22 (by decide) (v := -1) ?_
      replace hf := Option.some.inj hf
      subst hf
      exact v_iret dX12_straight_23 rfl
theorem ckf_X12_straight {h : xa_H} {l0 : Nat} {l1 : Int32} {r : (Int32 × xa_H)} (hf : f_X12_straight h l0 l1 = some r) : ck [12] h l0 = some () := by
  obtain ⟨u, e, -⟩ := ob hf
  exact e
def M_X12_sung : xa_M := (yX12_sung, cX12_sung, 3, some .int)
theorem cb_X12_sung : xa_CB M_X12_sung 2 := ⟨gws_at 1666 (by decide +kernel) rfl, gws_at 122 (by decide +kernel) rfl, by decide +kernel, Nat.le_of_ble_eq_true rfl⟩
def f_X12_sung (h : xa_H) (l0 : Nat) (l1 : Int32) (l2 : Int32) : Option (Int32 × xa_H) :=
  (ck [12] h l0).bind fun _ =>
  (xp [12] 0 h l0 (.int (0 : Int32))).bind fun h1 =>
  (f_X12_isSong h1 l0 l1).bind fun q2 =>
  if q2 = 0 then
    some ((-1 : Int32), h1)
  else
    (gR [12] 25 h1 l0).bind fun x4 =>
    (aI h1 x4 l1).bind fun x5 =>
    (f_X12_isIn h1 l2.toInt64 (-1 : Int64) ((x5 - (1 : Int32))).toInt64).bind fun q6 =>
    if q6 = 0 then
      some ((-1 : Int32), h1)
    else
      if l2 = (-1 : Int32) then
        (gR [12] 25 h1 l0).bind fun x11 =>
        (aI h1 x11 l1).bind fun x12 =>
        some (x12, h1)
      else
        (gR [12] 24 h1 l0).bind fun x9 =>
        (aI h1 x9 (((16 : Int32) * l1) + l2)).bind fun x10 =>
        some (x10, h1)
set_option maxRecDepth 20000 in
theorem ev_X12_sung {G : xa_G} {h : xa_H} {l0 : Nat} {l1 : Int32} {l2 : Int32} {r : (Int32 × xa_H)} (hf : f_X12_sung h l0 l1 l2 = some r) : xa_Ev G M_X12_sung 1 [.ref l0, .int l1, .int l2] h (some (.int r.1)) r.2 := by
  refine xa_entry (by decide +kernel) (loc := [some (.ref l0), some (.int l1), some (.int l2)]) rfl (Nat.le_of_ble_eq_true rfl) ?_
  unfold f_X12_sung at hf
  obtain ⟨u0, eu0, hf⟩ := ob hf
  refine v_aload_n dX12_sung_0 rfl ?_
  refine v_iconst dX12_sung_1 (by decide) (v := 0) ?_
  obtain ⟨h1, eh1, hf⟩ := ob hf
  refine v_put dX12_sung_2 fp_12_111 (fun z => by cases z) (fun _ => rfl) (fun _ => rfl) eh1 ?_
  refine v_aload_n dX12_sung_5 rfl ?_
  refine v_iload_n dX12_sung_6 rfl ?_
  obtain ⟨q2, eq2, hf⟩ := ob hf
  refine v_callV dX12_sung_7 ⟨cb_X12_isSong, ml_12_381, im_X12_isSong⟩ se_12_X12_isSong (ckf_X12_isSong eq2) (ev_X12_isSong eq2) (by decide) (As := [.int l1]) rfl (st := []) rfl (Nat.le_of_ble_eq_true rfl) rfl ?_
  refine v_if_eq dX12_sung_10 (tgt := 33) (by decide) (fun c3 => ?_) (fun c3 => ?_)
  · replace hf := (if_pos c3).symm.trans hf
    refine v_iconst dX12_sung_33 (by decide) (v := -1) ?_
    replace hf := Option.some.inj hf
    subst hf
    exact v_iret dX12_sung_34 rfl
  · replace hf := (if_neg c3).symm.trans hf
    refine v_iload_n dX12_sung_13 rfl ?_
    refine v_i2l dX12_sung_14 ?_
    refine v_ldc2 dX12_sung_15 rfl col_12_384 ?_
    refine v_aload_n dX12_sung_18 rfl ?_
    obtain ⟨x4, ex4, hf⟩ := ob hf
    refine v_getR dX12_sung_19 fl_12_58 ex4 ?_
    refine v_iload_n dX12_sung_22 rfl ?_
    obtain ⟨x5, ex5, hf⟩ := ob hf
    refine v_ialoadI dX12_sung_23 ex5 ?_
    refine v_iconst dX12_sung_24 (by decide) (v := 1) ?_
    refine v_isub dX12_sung_25 ?_
    refine v_i2l dX12_sung_26 ?_
    obtain ⟨q6, eq6, hf⟩ := ob hf
    refine v_callS dX12_sung_27 ⟨cb_X12_isIn, ml_12_232, sm_X12_isIn⟩ (ev_X12_isIn eq6) (by decide) (As := [.long l2.toInt64, .long (-1 : Int64), .long ((x5 - (1 : Int32))).toInt64]) rfl (st := []) rfl (Nat.le_of_ble_eq_true rfl) rfl ?_
    refine v_if_ne dX12_sung_30 (tgt := 35) (by decide) (fun c7 => ?_) (fun c7 => ?_)
    · replace hf := (if_neg c7).symm.trans hf
      refine v_iload_n dX12_sung_35 rfl ?_
      refine v_iconst dX12_sung_36 (by decide) (v := -1) ?_
      refine v_icmp_ne dX12_sung_37 (tgt := 49) (by decide) (fun c8 => ?_) (fun c8 => ?_)
      · replace hf := (if_neg c8).symm.trans hf
        refine v_aload_n dX12_sung_49 rfl ?_
        obtain ⟨x9, ex9, hf⟩ := ob hf
        refine v_getR dX12_sung_50 fl_12_55 ex9 ?_
        refine v_bipush dX12_sung_53 (by decide) (v := 16) ?_
        refine v_iload_n dX12_sung_55 rfl ?_
        refine v_imul dX12_sung_56 ?_
        refine v_iload_n dX12_sung_57 rfl ?_
        refine v_iadd dX12_sung_58 ?_
        obtain ⟨x10, ex10, hf⟩ := ob hf
        refine v_ialoadI dX12_sung_59 ex10 ?_
        replace hf := Option.some.inj hf
        subst hf
        exact v_iret dX12_sung_60 rfl
      · replace hf := (if_pos c8).symm.trans hf
        refine v_aload_n dX12_sung_40 rfl ?_
        obtain ⟨x11, ex11, hf⟩ := ob hf
        refine v_getR dX12_sung_41 fl_12_58 ex11 ?_
        refine v_iload_n dX12_sung_44 rfl ?_
        obtain ⟨x12, ex12, hf⟩ := ob hf
        refine v_ialoadI dX12_sung_45 ex12 ?_
        refine v_goto dX12_sung_46 (tgt := 60) (by decide) ?_
        replace hf := Option.some.inj hf
        subst hf
        exact v_iret dX12_sung_60 rfl
    · replace hf := (if_pos c7).symm.trans hf
      refine v_iconst dX12_sung_33 (by decide) (v := -1) ?_
      replace hf := Option.some.inj hf
      subst hf
      exact v_iret dX12_sung_34 rfl
theorem ckf_X12_sung {h : xa_H} {l0 : Nat} {l1 : Int32} {l2 : Int32} {r : (Int32 × xa_H)} (hf : f_X12_sung h l0 l1 l2 = some r) : ck [12] h l0 = some () := by
  obtain ⟨u, e, -⟩ := ob hf
  exact e
def M_X12_text : xa_M := (yX12_text, cX12_text, 4, some .int)
theorem cb_X12_text : xa_CB M_X12_text 1 := ⟨gws_at 1625 (by decide +kernel) rfl, gws_at 122 (by decide +kernel) rfl, by decide +kernel, Nat.le_of_ble_eq_true rfl⟩
def f_X12_text_b273 : Nat → xa_H → Nat → Int32 → Option (Int32 × xa_H)
  | 0, _, _, _ => none
  | n + 1, h, l0, l3 =>
    if (36 : Int32) ≤ l3 then
      (gR [12] 32 h l0).bind fun x2 =>
      (f_X12_lays h l0 x2).bind fun q3 =>
      (xp [12] 51 q3 l0 (.int (0 : Int32))).bind fun h4 =>
      (xp [12] 40 h4 l0 (.int (0 : Int32))).bind fun h5 =>
      (xp [12] 56 h5 l0 (.int (0 : Int32))).bind fun h6 =>
      (gI [12] 26 h6 l0).bind fun x7 =>
      some (x7, h6)
    else
      (gR [12] 22 h l0).bind fun x8 =>
      (gR [12] 23 h l0).bind fun x9 =>
      (aI h x9 l3).bind fun x10 =>
      (pI h x8 l3 x10).bind fun h11 =>
      f_X12_text_b273 n h11 l0 (l3 + (1 : Int32))
set_option maxRecDepth 20000 in
theorem e_X12_text_b273 {G : xa_G} : ∀ (n : Nat) (h : xa_H) (l0 : Nat) (l3 : Int32) (r : (Int32 × xa_H)), f_X12_text_b273 n h l0 l3 = some r → xa_V G M_X12_text 191 273 [some (.ref l0), none, none, some (.int l3)] [] h (some (.int r.1)) r.2 := by
  intro n
  induction n with
  | zero =>
    intro h l0 l3 r hf
    cases (show (none : Option (Int32 × xa_H)) = some r from hf)
  | succ n ih =>
    intro h l0 l3 r hf
    rw [f_X12_text_b273] at hf
    refine v_iload_n dX12_text_273 rfl ?_
    refine v_bipush dX12_text_274 (by decide) (v := 36) ?_
    refine v_icmp_ge dX12_text_276 (tgt := 297) (by decide) (fun c1 => ?_) (fun c1 => ?_)
    · replace hf := (if_pos c1).symm.trans hf
      refine v_aload_n dX12_text_297 rfl ?_
      refine v_aload_n dX12_text_298 rfl ?_
      obtain ⟨x2, ex2, hf⟩ := ob hf
      refine v_getR dX12_text_299 fl_12_61 ex2 ?_
      obtain ⟨q3, eq3, hf⟩ := ob hf
      refine v_callV dX12_text_302 ⟨cb_X12_lays, ml_12_313, im_X12_lays⟩ se_12_X12_lays (ckf_X12_lays eq3) (ev_X12_lays eq3) (by decide) (As := [.ref x2]) rfl (st := []) rfl (Nat.le_of_ble_eq_true rfl) rfl ?_
      refine v_aload_n dX12_text_305 rfl ?_
      refine v_iconst dX12_text_306 (by decide) (v := 0) ?_
      obtain ⟨h4, eh4, hf⟩ := ob hf
      refine v_put dX12_text_307 fp_12_317 (fun z => by cases z) (fun _ => rfl) (fun _ => rfl) eh4 ?_
      refine v_aload_n dX12_text_310 rfl ?_
      refine v_iconst dX12_text_311 (by decide) (v := 0) ?_
      obtain ⟨h5, eh5, hf⟩ := ob hf
      refine v_put dX12_text_312 fp_12_320 (fun z => by cases z) (fun _ => rfl) (fun _ => rfl) eh5 ?_
      refine v_aload_n dX12_text_315 rfl ?_
      refine v_iconst dX12_text_316 (by decide) (v := 0) ?_
      obtain ⟨h6, eh6, hf⟩ := ob hf
      refine v_put dX12_text_317 fp_12_323 (fun z => by cases z) (fun _ => rfl) (fun _ => rfl) eh6 ?_
      refine v_aload_n dX12_text_320 rfl ?_
      obtain ⟨x7, ex7, hf⟩ := ob hf
      refine v_getI dX12_text_321 fl_12_307 ex7 ?_
      replace hf := Option.some.inj hf
      subst hf
      exact v_iret dX12_text_324 rfl
    · replace hf := (if_neg c1).symm.trans hf
      refine v_aload_n dX12_text_279 rfl ?_
      obtain ⟨x8, ex8, hf⟩ := ob hf
      refine v_getR dX12_text_280 fl_12_49 ex8 ?_
      refine v_iload_n dX12_text_283 rfl ?_
      refine v_aload_n dX12_text_284 rfl ?_
      obtain ⟨x9, ex9, hf⟩ := ob hf
      refine v_getR dX12_text_285 fl_12_52 ex9 ?_
      refine v_iload_n dX12_text_288 rfl ?_
      obtain ⟨x10, ex10, hf⟩ := ob hf
      refine v_ialoadI dX12_text_289 ex10 ?_
      obtain ⟨h11, eh11, hf⟩ := ob hf
      refine v_iastoreI dX12_text_290 eh11 ?_
      refine v_iinc dX12_text_291 rfl (v := (l3 + (1 : Int32))) rfl (Nat.le_of_ble_eq_true rfl) (loc' := [some (.ref l0), none, none, some (.int (l3 + (1 : Int32)))]) rfl ?_
      refine v_goto dX12_text_294 (tgt := 273) (by decide) ?_
      exact ih h11 l0 (l3 + (1 : Int32)) r hf
def f_X12_text_b247 : Nat → xa_H → Nat → Int32 → Option (Int32 × xa_H)
  | 0, _, _, _ => none
  | n + 1, h, l0, l3 =>
    if (18 : Int32) ≤ l3 then
      f_X12_text_b273 1048576 h l0 (0 : Int32)
    else
      (gR [12] 20 h l0).bind fun x2 =>
      (gR [12] 21 h l0).bind fun x3 =>
      (aI h x3 l3).bind fun x4 =>
      (pI h x2 l3 x4).bind fun h5 =>
      f_X12_text_b247 n h5 l0 (l3 + (1 : Int32))
set_option maxRecDepth 20000 in
theorem e_X12_text_b247 {G : xa_G} : ∀ (n : Nat) (h : xa_H) (l0 : Nat) (l3 : Int32) (r : (Int32 × xa_H)), f_X12_text_b247 n h l0 l3 = some r → xa_V G M_X12_text 191 247 [some (.ref l0), none, none, some (.int l3)] [] h (some (.int r.1)) r.2 := by
  intro n
  induction n with
  | zero =>
    intro h l0 l3 r hf
    cases (show (none : Option (Int32 × xa_H)) = some r from hf)
  | succ n ih =>
    intro h l0 l3 r hf
    rw [f_X12_text_b247] at hf
    refine v_iload_n dX12_text_247 rfl ?_
    refine v_bipush dX12_text_248 (by decide) (v := 18) ?_
    refine v_icmp_ge dX12_text_250 (tgt := 271) (by decide) (fun c1 => ?_) (fun c1 => ?_)
    · replace hf := (if_pos c1).symm.trans hf
      refine v_iconst dX12_text_271 (by decide) (v := 0) ?_
      refine v_istore_n (i := 3) rfl dX12_text_272 (Nat.le_of_ble_eq_true rfl) (loc' := [some (.ref l0), none, none, some (.int (0 : Int32))]) rfl ?_
      exact e_X12_text_b273 1048576 h l0 (0 : Int32) r hf
    · replace hf := (if_neg c1).symm.trans hf
      refine v_aload_n dX12_text_253 rfl ?_
      obtain ⟨x2, ex2, hf⟩ := ob hf
      refine v_getR dX12_text_254 fl_12_43 ex2 ?_
      refine v_iload_n dX12_text_257 rfl ?_
      refine v_aload_n dX12_text_258 rfl ?_
      obtain ⟨x3, ex3, hf⟩ := ob hf
      refine v_getR dX12_text_259 fl_12_46 ex3 ?_
      refine v_iload_n dX12_text_262 rfl ?_
      obtain ⟨x4, ex4, hf⟩ := ob hf
      refine v_ialoadI dX12_text_263 ex4 ?_
      obtain ⟨h5, eh5, hf⟩ := ob hf
      refine v_iastoreI dX12_text_264 eh5 ?_
      refine v_iinc dX12_text_265 rfl (v := (l3 + (1 : Int32))) rfl (Nat.le_of_ble_eq_true rfl) (loc' := [some (.ref l0), none, none, some (.int (l3 + (1 : Int32)))]) rfl ?_
      refine v_goto dX12_text_268 (tgt := 247) (by decide) ?_
      exact ih h5 l0 (l3 + (1 : Int32)) r hf
def f_X12_text_b222 : Nat → xa_H → Nat → Int32 → Option (Int32 × xa_H)
  | 0, _, _, _ => none
  | n + 1, h, l0, l3 =>
    if (2 : Int32) ≤ l3 then
      f_X12_text_b247 1048576 h l0 (0 : Int32)
    else
      (gR [12] 18 h l0).bind fun x2 =>
      (gR [12] 19 h l0).bind fun x3 =>
      (aI h x3 l3).bind fun x4 =>
      (pI h x2 l3 x4).bind fun h5 =>
      f_X12_text_b222 n h5 l0 (l3 + (1 : Int32))
set_option maxRecDepth 20000 in
theorem e_X12_text_b222 {G : xa_G} : ∀ (n : Nat) (h : xa_H) (l0 : Nat) (l3 : Int32) (r : (Int32 × xa_H)), f_X12_text_b222 n h l0 l3 = some r → xa_V G M_X12_text 191 222 [some (.ref l0), none, none, some (.int l3)] [] h (some (.int r.1)) r.2 := by
  intro n
  induction n with
  | zero =>
    intro h l0 l3 r hf
    cases (show (none : Option (Int32 × xa_H)) = some r from hf)
  | succ n ih =>
    intro h l0 l3 r hf
    rw [f_X12_text_b222] at hf
    refine v_iload_n dX12_text_222 rfl ?_
    refine v_iconst dX12_text_223 (by decide) (v := 2) ?_
    refine v_icmp_ge dX12_text_224 (tgt := 245) (by decide) (fun c1 => ?_) (fun c1 => ?_)
    · replace hf := (if_pos c1).symm.trans hf
      refine v_iconst dX12_text_245 (by decide) (v := 0) ?_
      refine v_istore_n (i := 3) rfl dX12_text_246 (Nat.le_of_ble_eq_true rfl) (loc' := [some (.ref l0), none, none, some (.int (0 : Int32))]) rfl ?_
      exact e_X12_text_b247 1048576 h l0 (0 : Int32) r hf
    · replace hf := (if_neg c1).symm.trans hf
      refine v_aload_n dX12_text_227 rfl ?_
      obtain ⟨x2, ex2, hf⟩ := ob hf
      refine v_getR dX12_text_228 fl_12_37 ex2 ?_
      refine v_iload_n dX12_text_231 rfl ?_
      refine v_aload_n dX12_text_232 rfl ?_
      obtain ⟨x3, ex3, hf⟩ := ob hf
      refine v_getR dX12_text_233 fl_12_40 ex3 ?_
      refine v_iload_n dX12_text_236 rfl ?_
      obtain ⟨x4, ex4, hf⟩ := ob hf
      refine v_ialoadI dX12_text_237 ex4 ?_
      obtain ⟨h5, eh5, hf⟩ := ob hf
      refine v_iastoreI dX12_text_238 eh5 ?_
      refine v_iinc dX12_text_239 rfl (v := (l3 + (1 : Int32))) rfl (Nat.le_of_ble_eq_true rfl) (loc' := [some (.ref l0), none, none, some (.int (l3 + (1 : Int32)))]) rfl ?_
      refine v_goto dX12_text_242 (tgt := 222) (by decide) ?_
      exact ih h5 l0 (l3 + (1 : Int32)) r hf
def f_X12_text_b137 : Nat → xa_H → Nat → Int32 → Option (Int32 × xa_H)
  | 0, _, _, _ => none
  | n + 1, h, l0, l3 =>
    if (16 : Int32) ≤ l3 then
      (gR [12] 25 h l0).bind fun x2 =>
      (gI [12] 30 h l0).bind fun x3 =>
      (gR [12] 25 h l0).bind fun x4 =>
      (aI h x4 (4 : Int32)).bind fun x5 =>
      (pI h x2 x3 x5).bind fun h6 =>
      (gI [12] 30 h6 l0).bind fun x7 =>
      (xp [12] 30 h6 l0 (.int (x7 + (1 : Int32)))).bind fun h8 =>
      (gI [12] 30 h8 l0).bind fun x9 =>
      some ((x9 - (1 : Int32)), h8)
    else
      (gR [12] 24 h l0).bind fun x10 =>
      (gI [12] 30 h l0).bind fun x11 =>
      (gR [12] 24 h l0).bind fun x12 =>
      (aI h x12 ((64 : Int32) + l3)).bind fun x13 =>
      (pI h x10 (((16 : Int32) * x11) + l3) x13).bind fun h14 =>
      f_X12_text_b137 n h14 l0 (l3 + (1 : Int32))
set_option maxRecDepth 20000 in
theorem e_X12_text_b137 {G : xa_G} : ∀ (n : Nat) (h : xa_H) (l0 : Nat) (l3 : Int32) (r : (Int32 × xa_H)), f_X12_text_b137 n h l0 l3 = some r → xa_V G M_X12_text 191 137 [some (.ref l0), none, none, some (.int l3)] [] h (some (.int r.1)) r.2 := by
  intro n
  induction n with
  | zero =>
    intro h l0 l3 r hf
    cases (show (none : Option (Int32 × xa_H)) = some r from hf)
  | succ n ih =>
    intro h l0 l3 r hf
    rw [f_X12_text_b137] at hf
    refine v_iload_n dX12_text_137 rfl ?_
    refine v_bipush dX12_text_138 (by decide) (v := 16) ?_
    refine v_icmp_ge dX12_text_140 (tgt := 172) (by decide) (fun c1 => ?_) (fun c1 => ?_)
    · replace hf := (if_pos c1).symm.trans hf
      refine v_aload_n dX12_text_172 rfl ?_
      obtain ⟨x2, ex2, hf⟩ := ob hf
      refine v_getR dX12_text_173 fl_12_58 ex2 ?_
      refine v_aload_n dX12_text_176 rfl ?_
      obtain ⟨x3, ex3, hf⟩ := ob hf
      refine v_getI dX12_text_177 fl_12_302 ex3 ?_
      refine v_aload_n dX12_text_180 rfl ?_
      obtain ⟨x4, ex4, hf⟩ := ob hf
      refine v_getR dX12_text_181 fl_12_58 ex4 ?_
      refine v_iconst dX12_text_184 (by decide) (v := 4) ?_
      obtain ⟨x5, ex5, hf⟩ := ob hf
      refine v_ialoadI dX12_text_185 ex5 ?_
      obtain ⟨h6, eh6, hf⟩ := ob hf
      refine v_iastoreI dX12_text_186 eh6 ?_
      refine v_aload_n dX12_text_187 rfl ?_
      refine v_dup dX12_text_188 rfl ?_
      obtain ⟨x7, ex7, hf⟩ := ob hf
      refine v_getI dX12_text_189 fl_12_302 ex7 ?_
      refine v_iconst dX12_text_192 (by decide) (v := 1) ?_
      refine v_iadd dX12_text_193 ?_
      obtain ⟨h8, eh8, hf⟩ := ob hf
      refine v_put dX12_text_194 fp_12_302 (fun z => by cases z) (fun _ => rfl) (fun _ => rfl) eh8 ?_
      refine v_aload_n dX12_text_197 rfl ?_
      obtain ⟨x9, ex9, hf⟩ := ob hf
      refine v_getI dX12_text_198 fl_12_302 ex9 ?_
      refine v_iconst dX12_text_201 (by decide) (v := 1) ?_
      refine v_isub dX12_text_202 ?_
      replace hf := Option.some.inj hf
      subst hf
      exact v_iret dX12_text_203 rfl
    · replace hf := (if_neg c1).symm.trans hf
      refine v_aload_n dX12_text_143 rfl ?_
      obtain ⟨x10, ex10, hf⟩ := ob hf
      refine v_getR dX12_text_144 fl_12_55 ex10 ?_
      refine v_bipush dX12_text_147 (by decide) (v := 16) ?_
      refine v_aload_n dX12_text_149 rfl ?_
      obtain ⟨x11, ex11, hf⟩ := ob hf
      refine v_getI dX12_text_150 fl_12_302 ex11 ?_
      refine v_imul dX12_text_153 ?_
      refine v_iload_n dX12_text_154 rfl ?_
      refine v_iadd dX12_text_155 ?_
      refine v_aload_n dX12_text_156 rfl ?_
      obtain ⟨x12, ex12, hf⟩ := ob hf
      refine v_getR dX12_text_157 fl_12_55 ex12 ?_
      refine v_bipush dX12_text_160 (by decide) (v := 64) ?_
      refine v_iload_n dX12_text_162 rfl ?_
      refine v_iadd dX12_text_163 ?_
      obtain ⟨x13, ex13, hf⟩ := ob hf
      refine v_ialoadI dX12_text_164 ex13 ?_
      obtain ⟨h14, eh14, hf⟩ := ob hf
      refine v_iastoreI dX12_text_165 eh14 ?_
      refine v_iinc dX12_text_166 rfl (v := (l3 + (1 : Int32))) rfl (Nat.le_of_ble_eq_true rfl) (loc' := [some (.ref l0), none, none, some (.int (l3 + (1 : Int32)))]) rfl ?_
      refine v_goto dX12_text_169 (tgt := 137) (by decide) ?_
      exact ih h14 l0 (l3 + (1 : Int32)) r hf
def f_X12_text_b71 : Nat → xa_H → Nat → Int32 → Int32 → Option (Int32 × xa_H)
  | 0, _, _, _, _ => none
  | n + 1, h, l0, l2, l3 =>
    if l2 ≤ l3 then
      (gR [12] 3 h l0).bind fun x2 =>
      (gI [12] 7 h l0).bind fun x3 =>
      (pI h x2 x3 l2).bind fun h4 =>
      (gI [12] 7 h4 l0).bind fun x5 =>
      (xp [12] 7 h4 l0 (.int (x5 + (1 : Int32)))).bind fun h6 =>
      (gI [12] 7 h6 l0).bind fun x7 =>
      some ((x7 - (1 : Int32)), h6)
    else
      (gR [12] 2 h l0).bind fun x8 =>
      (gI [12] 7 h l0).bind fun x9 =>
      (gR [12] 1 h l0).bind fun x10 =>
      (aB h x10 l3).bind fun x11 =>
      (pB h x8 (((240 : Int32) * x9) + l3) x11).bind fun h12 =>
      f_X12_text_b71 n h12 l0 l2 (l3 + (1 : Int32))
set_option maxRecDepth 20000 in
theorem e_X12_text_b71 {G : xa_G} : ∀ (n : Nat) (h : xa_H) (l0 : Nat) (l2 : Int32) (l3 : Int32) (r : (Int32 × xa_H)), f_X12_text_b71 n h l0 l2 l3 = some r → xa_V G M_X12_text 191 71 [some (.ref l0), none, some (.int l2), some (.int l3)] [] h (some (.int r.1)) r.2 := by
  intro n
  induction n with
  | zero =>
    intro h l0 l2 l3 r hf
    cases (show (none : Option (Int32 × xa_H)) = some r from hf)
  | succ n ih =>
    intro h l0 l2 l3 r hf
    rw [f_X12_text_b71] at hf
    refine v_iload_n dX12_text_71 rfl ?_
    refine v_iload_n dX12_text_72 rfl ?_
    refine v_icmp_ge dX12_text_73 (tgt := 103) (by decide) (fun c1 => ?_) (fun c1 => ?_)
    · replace hf := (if_pos c1).symm.trans hf
      refine v_aload_n dX12_text_103 rfl ?_
      obtain ⟨x2, ex2, hf⟩ := ob hf
      refine v_getR dX12_text_104 fl_12_16 ex2 ?_
      refine v_aload_n dX12_text_107 rfl ?_
      obtain ⟨x3, ex3, hf⟩ := ob hf
      refine v_getI dX12_text_108 fl_12_299 ex3 ?_
      refine v_iload_n dX12_text_111 rfl ?_
      obtain ⟨h4, eh4, hf⟩ := ob hf
      refine v_iastoreI dX12_text_112 eh4 ?_
      refine v_aload_n dX12_text_113 rfl ?_
      refine v_dup dX12_text_114 rfl ?_
      obtain ⟨x5, ex5, hf⟩ := ob hf
      refine v_getI dX12_text_115 fl_12_299 ex5 ?_
      refine v_iconst dX12_text_118 (by decide) (v := 1) ?_
      refine v_iadd dX12_text_119 ?_
      obtain ⟨h6, eh6, hf⟩ := ob hf
      refine v_put dX12_text_120 fp_12_299 (fun z => by cases z) (fun _ => rfl) (fun _ => rfl) eh6 ?_
      refine v_aload_n dX12_text_123 rfl ?_
      obtain ⟨x7, ex7, hf⟩ := ob hf
      refine v_getI dX12_text_124 fl_12_299 ex7 ?_
      refine v_iconst dX12_text_127 (by decide) (v := 1) ?_
      refine v_isub dX12_text_128 ?_
      replace hf := Option.some.inj hf
      subst hf
      exact v_iret dX12_text_129 rfl
    · replace hf := (if_neg c1).symm.trans hf
      refine v_aload_n dX12_text_76 rfl ?_
      obtain ⟨x8, ex8, hf⟩ := ob hf
      refine v_getR dX12_text_77 fl_12_13 ex8 ?_
      refine v_sipush dX12_text_80 (by decide) (v := 240) ?_
      refine v_aload_n dX12_text_83 rfl ?_
      obtain ⟨x9, ex9, hf⟩ := ob hf
      refine v_getI dX12_text_84 fl_12_299 ex9 ?_
      refine v_imul dX12_text_87 ?_
      refine v_iload_n dX12_text_88 rfl ?_
      refine v_iadd dX12_text_89 ?_
      refine v_aload_n dX12_text_90 rfl ?_
      obtain ⟨x10, ex10, hf⟩ := ob hf
      refine v_getR dX12_text_91 fl_12_9 ex10 ?_
      refine v_iload_n dX12_text_94 rfl ?_
      obtain ⟨x11, ex11, hf⟩ := ob hf
      refine v_baloadB dX12_text_95 ex11 ?_
      obtain ⟨h12, eh12, hf⟩ := ob hf
      refine v_bastoreB dX12_text_96 eh12 ?_
      refine v_iinc dX12_text_97 rfl (v := (l3 + (1 : Int32))) rfl (Nat.le_of_ble_eq_true rfl) (loc' := [some (.ref l0), none, some (.int l2), some (.int (l3 + (1 : Int32)))]) rfl ?_
      refine v_goto dX12_text_100 (tgt := 71) (by decide) ?_
      exact ih h12 l0 l2 (l3 + (1 : Int32)) r hf
def f_X12_text_b43 (h : xa_H) (l0 : Nat) (l1 : Int32) : Option (Int32 × xa_H) :=
  (f_X12_fault h l0 l1).bind fun q1 =>
  if q1.1 = (-1 : Int32) then
    (gI [12] 6 q1.2 l0).bind fun x3 =>
    (xp [12] 6 q1.2 l0 (.int (0 : Int32))).bind fun h4 =>
    if l1 = (1 : Int32) then
      f_X12_text_b71 1048576 h4 l0 x3 (0 : Int32)
    else
      if l1 = (2 : Int32) then
        f_X12_text_b137 1048576 h4 l0 (0 : Int32)
      else
        (gI [12] 28 h4 l0).bind fun x7 =>
        (xp [12] 26 h4 l0 (.int x7)).bind fun h8 =>
        (gI [12] 29 h8 l0).bind fun x9 =>
        (xp [12] 27 h8 l0 (.int x9)).bind fun h10 =>
        f_X12_text_b222 1048576 h10 l0 (0 : Int32)
  else
    some ((-1 : Int32), q1.2)
set_option maxRecDepth 20000 in
theorem e_X12_text_b43 {G : xa_G} : ∀ (h : xa_H) (l0 : Nat) (l1 : Int32) (r : (Int32 × xa_H)), f_X12_text_b43 h l0 l1 = some r → xa_V G M_X12_text 191 43 [some (.ref l0), some (.int l1), none, none] [] h (some (.int r.1)) r.2 := by
  intro h l0 l1 r hf
  unfold f_X12_text_b43 at hf
  refine v_aload_n dX12_text_43 rfl ?_
  refine v_iload_n dX12_text_44 rfl ?_
  obtain ⟨q1, eq1, hf⟩ := ob hf
  refine v_callV dX12_text_45 ⟨cb_X12_fault, ml_12_305, im_X12_fault⟩ se_12_X12_fault (ckf_X12_fault eq1) (ev_X12_fault eq1) (by decide) (As := [.int l1]) rfl (st := []) rfl (Nat.le_of_ble_eq_true rfl) rfl ?_
  refine v_iconst dX12_text_48 (by decide) (v := -1) ?_
  refine v_icmp_eq dX12_text_49 (tgt := 54) (by decide) (fun c2 => ?_) (fun c2 => ?_)
  · replace hf := (if_pos c2).symm.trans hf
    refine v_aload_n dX12_text_54 rfl ?_
    obtain ⟨x3, ex3, hf⟩ := ob hf
    refine v_getI dX12_text_55 fl_12_124 ex3 ?_
    refine v_istore_n (i := 2) rfl dX12_text_58 (Nat.le_of_ble_eq_true rfl) (loc' := [some (.ref l0), some (.int l1), some (.int x3), none]) rfl ?_
    refine v_aload_n dX12_text_59 rfl ?_
    refine v_iconst dX12_text_60 (by decide) (v := 0) ?_
    obtain ⟨h4, eh4, hf⟩ := ob hf
    refine v_put dX12_text_61 fp_12_124 (fun z => by cases z) (fun _ => rfl) (fun _ => rfl) eh4 ?_
    refine v_iload_n dX12_text_64 rfl ?_
    refine v_iconst dX12_text_65 (by decide) (v := 1) ?_
    refine v_icmp_ne dX12_text_66 (tgt := 130) (by decide) (fun c5 => ?_) (fun c5 => ?_)
    · replace hf := (if_neg c5).symm.trans hf
      refine v_iload_n dX12_text_130 rfl ?_
      refine v_iconst dX12_text_131 (by decide) (v := 2) ?_
      refine v_icmp_ne dX12_text_132 (tgt := 204) (by decide) (fun c6 => ?_) (fun c6 => ?_)
      · replace hf := (if_neg c6).symm.trans hf
        refine v_aload_n dX12_text_204 rfl ?_
        refine v_aload_n dX12_text_205 rfl ?_
        obtain ⟨x7, ex7, hf⟩ := ob hf
        refine v_getI dX12_text_206 fl_12_260 ex7 ?_
        obtain ⟨h8, eh8, hf⟩ := ob hf
        refine v_put dX12_text_209 fp_12_307 (fun z => by cases z) (fun _ => rfl) (fun _ => rfl) eh8 ?_
        refine v_aload_n dX12_text_212 rfl ?_
        refine v_aload_n dX12_text_213 rfl ?_
        obtain ⟨x9, ex9, hf⟩ := ob hf
        refine v_getI dX12_text_214 fl_12_263 ex9 ?_
        obtain ⟨h10, eh10, hf⟩ := ob hf
        refine v_put dX12_text_217 fp_12_310 (fun z => by cases z) (fun _ => rfl) (fun _ => rfl) eh10 ?_
        refine v_iconst dX12_text_220 (by decide) (v := 0) ?_
        refine v_istore_n (i := 3) rfl dX12_text_221 (Nat.le_of_ble_eq_true rfl) (loc' := [some (.ref l0), some (.int l1), some (.int x3), some (.int (0 : Int32))]) rfl ?_
        exact xa_weak (loc := [some (.ref l0), none, none, some (.int (0 : Int32))]) ⟨rfl, ⟨rfl, trivial⟩⟩ (e_X12_text_b222 1048576 h10 l0 (0 : Int32) r hf)
      · replace hf := (if_pos c6).symm.trans hf
        refine v_iconst dX12_text_135 (by decide) (v := 0) ?_
        refine v_istore_n (i := 3) rfl dX12_text_136 (Nat.le_of_ble_eq_true rfl) (loc' := [some (.ref l0), some (.int l1), some (.int x3), some (.int (0 : Int32))]) rfl ?_
        exact xa_weak (loc := [some (.ref l0), none, none, some (.int (0 : Int32))]) ⟨rfl, ⟨rfl, trivial⟩⟩ (e_X12_text_b137 1048576 h4 l0 (0 : Int32) r hf)
    · replace hf := (if_pos c5).symm.trans hf
      refine v_iconst dX12_text_69 (by decide) (v := 0) ?_
      refine v_istore_n (i := 3) rfl dX12_text_70 (Nat.le_of_ble_eq_true rfl) (loc' := [some (.ref l0), some (.int l1), some (.int x3), some (.int (0 : Int32))]) rfl ?_
      exact xa_weak (loc := [some (.ref l0), none, some (.int x3), some (.int (0 : Int32))]) ⟨rfl, ⟨rfl, ⟨rfl, trivial⟩⟩⟩ (e_X12_text_b71 1048576 h4 l0 x3 (0 : Int32) r hf)
  · replace hf := (if_neg c2).symm.trans hf
    refine v_iconst dX12_text_52 (by decide) (v := -1) ?_
    replace hf := Option.some.inj hf
    subst hf
    exact v_iret dX12_text_53 rfl
def f_X12_text_b30 (h : xa_H) (l0 : Nat) (l1 : Int32) : Option (Int32 × xa_H) :=
  if l1 = (2 : Int32) then
    (gI [12] 30 h l0).bind fun x2 =>
    if x2 = (4 : Int32) then
      some ((-1 : Int32), h)
    else
      f_X12_text_b43 h l0 l1
  else
    f_X12_text_b43 h l0 l1
set_option maxRecDepth 20000 in
theorem e_X12_text_b30 {G : xa_G} : ∀ (h : xa_H) (l0 : Nat) (l1 : Int32) (r : (Int32 × xa_H)), f_X12_text_b30 h l0 l1 = some r → xa_V G M_X12_text 191 30 [some (.ref l0), some (.int l1), none, none] [] h (some (.int r.1)) r.2 := by
  intro h l0 l1 r hf
  unfold f_X12_text_b30 at hf
  refine v_iload_n dX12_text_30 rfl ?_
  refine v_iconst dX12_text_31 (by decide) (v := 2) ?_
  refine v_icmp_ne dX12_text_32 (tgt := 43) (by decide) (fun c1 => ?_) (fun c1 => ?_)
  · replace hf := (if_neg c1).symm.trans hf
    exact e_X12_text_b43 h l0 l1 r hf
  · replace hf := (if_pos c1).symm.trans hf
    refine v_aload_n dX12_text_35 rfl ?_
    obtain ⟨x2, ex2, hf⟩ := ob hf
    refine v_getI dX12_text_36 fl_12_302 ex2 ?_
    refine v_iconst dX12_text_39 (by decide) (v := 4) ?_
    refine v_icmp_eq dX12_text_40 (tgt := 52) (by decide) (fun c3 => ?_) (fun c3 => ?_)
    · replace hf := (if_pos c3).symm.trans hf
      refine v_iconst dX12_text_52 (by decide) (v := -1) ?_
      replace hf := Option.some.inj hf
      subst hf
      exact v_iret dX12_text_53 rfl
    · replace hf := (if_neg c3).symm.trans hf
      exact e_X12_text_b43 h l0 l1 r hf
def f_X12_text (h : xa_H) (l0 : Nat) (l1 : Int32) : Option (Int32 × xa_H) :=
  (ck [12] h l0).bind fun _ =>
  (xp [12] 0 h l0 (.int (0 : Int32))).bind fun h1 =>
  (f_X12_isIn h1 l1.toInt64 (0 : Int64) (2 : Int64)).bind fun q2 =>
  if q2 = 0 then
    some ((-1 : Int32), h1)
  else
    if l1 = (1 : Int32) then
      (gI [12] 7 h1 l0).bind fun x5 =>
      if x5 = (4 : Int32) then
        some ((-1 : Int32), h1)
      else
        f_X12_text_b30 h1 l0 l1
    else
      f_X12_text_b30 h1 l0 l1
set_option maxRecDepth 20000 in
theorem ev_X12_text {G : xa_G} {h : xa_H} {l0 : Nat} {l1 : Int32} {r : (Int32 × xa_H)} (hf : f_X12_text h l0 l1 = some r) : xa_Ev G M_X12_text 191 [.ref l0, .int l1] h (some (.int r.1)) r.2 := by
  refine xa_entry (by decide +kernel) (loc := [some (.ref l0), some (.int l1), none, none]) rfl (Nat.le_of_ble_eq_true rfl) ?_
  unfold f_X12_text at hf
  obtain ⟨u0, eu0, hf⟩ := ob hf
  refine v_aload_n dX12_text_0 rfl ?_
  refine v_iconst dX12_text_1 (by decide) (v := 0) ?_
  obtain ⟨h1, eh1, hf⟩ := ob hf
  refine v_put dX12_text_2 fp_12_111 (fun z => by cases z) (fun _ => rfl) (fun _ => rfl) eh1 ?_
  refine v_iload_n dX12_text_5 rfl ?_
  refine v_i2l dX12_text_6 ?_
  refine v_lconst dX12_text_7 (by decide) (v := 0) ?_
  refine v_ldc2 dX12_text_8 rfl col_12_288 ?_
  obtain ⟨q2, eq2, hf⟩ := ob hf
  refine v_callS dX12_text_11 ⟨cb_X12_isIn, ml_12_232, sm_X12_isIn⟩ (ev_X12_isIn eq2) (by decide) (As := [.long l1.toInt64, .long (0 : Int64), .long (2 : Int64)]) rfl (st := []) rfl (Nat.le_of_ble_eq_true rfl) rfl ?_
  refine v_if_eq dX12_text_14 (tgt := 52) (by decide) (fun c3 => ?_) (fun c3 => ?_)
  · replace hf := (if_pos c3).symm.trans hf
    refine v_iconst dX12_text_52 (by decide) (v := -1) ?_
    replace hf := Option.some.inj hf
    subst hf
    exact v_iret dX12_text_53 rfl
  · replace hf := (if_neg c3).symm.trans hf
    refine v_iload_n dX12_text_17 rfl ?_
    refine v_iconst dX12_text_18 (by decide) (v := 1) ?_
    refine v_icmp_ne dX12_text_19 (tgt := 30) (by decide) (fun c4 => ?_) (fun c4 => ?_)
    · replace hf := (if_neg c4).symm.trans hf
      exact e_X12_text_b30 h1 l0 l1 r hf
    · replace hf := (if_pos c4).symm.trans hf
      refine v_aload_n dX12_text_22 rfl ?_
      obtain ⟨x5, ex5, hf⟩ := ob hf
      refine v_getI dX12_text_23 fl_12_299 ex5 ?_
      refine v_iconst dX12_text_26 (by decide) (v := 4) ?_
      refine v_icmp_eq dX12_text_27 (tgt := 52) (by decide) (fun c6 => ?_) (fun c6 => ?_)
      · replace hf := (if_pos c6).symm.trans hf
        refine v_iconst dX12_text_52 (by decide) (v := -1) ?_
        replace hf := Option.some.inj hf
        subst hf
        exact v_iret dX12_text_53 rfl
      · replace hf := (if_neg c6).symm.trans hf
        exact e_X12_text_b30 h1 l0 l1 r hf
theorem ckf_X12_text {h : xa_H} {l0 : Nat} {l1 : Int32} {r : (Int32 × xa_H)} (hf : f_X12_text h l0 l1 = some r) : ck [12] h l0 = some () := by
  obtain ⟨u, e, -⟩ := ob hf
  exact e
