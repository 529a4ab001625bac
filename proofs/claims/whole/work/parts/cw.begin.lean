/-! from the law's first instruction to its loop -/
section LB
variable {G : xa_G} {b L : Nat} {xs : Nat → Int32}
set_option maxRecDepth 20000 in
theorem cl_len : (clO :: clT).length = 351 := by decide +kernel
theorem md_len (k : Nat) : (mdC k).length = 27 := rfl
theorem l_callIx {M1 : xa_M} {P0 : State → Code → Prop} {R : Room} {cn sl cn2 sl2 n0 n1 m0 m1 d1 pc idx n a : Nat} {loc : List (Option Value)} {st st0 st1 : List Value} {h h1 : xa_H} {o1 : Option Value} {As : List Value} {Z : State → List Frame → Array Value → State → Prop} {M : xa_M} (hd : decode M.2.1 pc = .ok (.invokespecial idx, 3)) (hC : xa_CB M1 n ∧ Cond.methodLink M.1.cls idx M1.1 ∈ gws ∧ Cond.instanceMethod M1.1 ∈ gws ∧ M1.1.name = "<init>" ∧ M1.2.2.2 = none) (hE : xa_Ev G M1 d1 (.ref a :: As) h o1 h1) (hR : d1 + 1 ≤ R.frames ∧ 8 + (M1.2.2.1 + 11) + d1 * 64 ≤ R.locals) (z1 : h.2.1 = n0) (z2 : h1.2.1 = n1) (z3 : h.2.2 = m0) (z4 : h1.2.2 = m1) (q1 : cn + (n1 - n0) ≤ cn2) (q2 : sl + (m1 - m0) ≤ sl2) (hf : cn2 ≤ R.cells ∧ sl2 ≤ R.slots) (hn : As.length = n) (hs : st0 = As.reverse ++ .ref a :: st) (hcat : (st.map fun v => v.category).sum ≤ 8) (hs1 : o1.toList ++ st = st1) (k : xa_L G M P0 R cn2 sl2 (pc + 3) loc st1 h1 Z) : xa_L G M P0 R cn sl pc loc st0 h Z := by
  subst z1 z2 z3 z4
  exact l_callI hd hC hE hR ⟨Nat.le_trans q1 hf.1, Nat.le_trans q2 hf.2⟩ hn hs hcat hs1 (xl_widen q1 q2 k)
def lwl0 : List (Option Value) := [some (.ref 1000000006), none, none, none, none, none, none]
theorem lw_b3 (htr : G.1.stackTraces = false) (hb0 : G.2.2.2.2.2.size = xa_b G) (hS : lwS G b L) : xa_L G M_L_law (lwP G b L xs) room_1 378 81992 16 [some (.ref 1000000006), some (.ref 0), some (.ref 351), none, none, none, none] [] (hl ((clO :: clT) ++ mdC 351) 81992) (lwZ b) := by
  have hlen : ((clO :: clT) ++ mdC 351).length = 378 := by rw [List.length_append, cl_len, md_len]
  refine l_iconst dL_law_16 (v := 1) (by decide) ?_
  refine l_newaL dL_law_17 ar_L (N := 1) (by decide) (by decide) (by decide) (hl_nC (cell := zL 1) (k := 1) (by rw [hlen]; decide)) (Nat.le_of_ble_eq_true rfl) (Nat.le_of_ble_eq_true rfl) ?_
  rw [show (hl ((clO :: clT) ++ mdC 351) 81992).2.1 = 378 from hlen]
  refine l_astore_n rfl dL_law_19 (Nat.le_of_ble_eq_true rfl) (loc' := [some (.ref 1000000006), some (.ref 0), some (.ref 351), some (.ref 378), none, none, none]) rfl ?_
  refine l_iconst dL_law_20 (v := 0) (by decide) ?_
  refine l_istore dL_law_21 (Nat.le_of_ble_eq_true rfl) (loc' := lwl 0) rfl ?_
  have h := lw_loop (xs := xs) htr hb0 hS 512 0 S0 (379, 81993) (by have := hS.2.2; omega) (by decide) RR_0 (by decide) (by decide)
  rw [← FL_hp] at h
  exact h
theorem lw_b2 (htr : G.1.stackTraces = false) (hb0 : G.2.2.2.2.2.size = xa_b G) (hS : lwS G b L) : xa_L G M_L_law (lwP G b L xs) room_1 351 12183 8 [some (.ref 1000000006), some (.ref 0), none, none, none, none, none] [] (hl (clO :: clT) 12183) (lwZ b) := by
  have hz : (hl (clO :: clT) 12183).2.1 = 351 := cl_len
  refine l_new dL_law_8 nw_L_16 (hl_nC (cell := o12) (k := 57) (by rw [cl_len]; decide)) (Nat.le_of_ble_eq_true rfl) (Nat.le_of_ble_eq_true rfl) ?_
  rw [hz]
  refine l_dup dL_law_11 rfl ?_
  have e := in_X12 (clO :: clT) 12240 (by rw [cl_len]; decide)
  rw [cl_len] at e
  have z1 : (hl (clO :: clT ++ [o12]) 12240).2.1 = 352 := by
    show ((clO :: clT) ++ [o12]).length = 352
    rw [List.length_append, cl_len]
    rfl
  have z2 : (hl (clO :: clT ++ mdC 351) (12240 + 69752)).2.1 = 378 := by
    show ((clO :: clT) ++ mdC 351).length = 378
    rw [List.length_append, cl_len, md_len]
  refine l_callIx (cn2 := 378) (sl2 := 81992) dL_law_12 ⟨cb_X12_init, ml_L_18, im_X12_init, rfl, rfl⟩ (ev_X12_init e) ⟨Nat.le_of_ble_eq_true rfl, Nat.le_of_ble_eq_true rfl⟩ z1 z2 (m0 := 12240) rfl (m1 := 81992) rfl (Nat.le_of_ble_eq_true rfl) (Nat.le_of_ble_eq_true rfl) ⟨Nat.le_of_ble_eq_true rfl, Nat.le_of_ble_eq_true rfl⟩ (As := []) rfl (st := [.ref 351]) rfl (Nat.le_of_ble_eq_true rfl) rfl ?_
  exact l_astore_n rfl dL_law_15 (Nat.le_of_ble_eq_true rfl) (loc' := [some (.ref 1000000006), some (.ref 0), some (.ref 351), none, none, none, none]) rfl (lw_b3 htr hb0 hS)
theorem lw_b1 (htr : G.1.stackTraces = false) (hb0 : G.2.2.2.2.2.size = xa_b G) (hS : lwS G b L) : xa_L G M_L_law (lwP G b L xs) room_1 0 0 0 lwl0 [] (hl [] 0) (lwZ b) := by
  refine l_new dL_law_0 nw_L_8 (hl_nC (L := []) (cell := o11) (k := 19) (by decide)) (Nat.le_of_ble_eq_true rfl) (Nat.le_of_ble_eq_true rfl) ?_
  refine l_dup dL_law_3 rfl ?_
  have e := in_X11 19
  have z2 : (hl (clO :: clT) (19 + 12164)).2.1 = 351 := cl_len
  refine l_callIx (cn2 := 351) (sl2 := 12183) dL_law_4 ⟨cb_X11_init, ml_L_15, im_X11_init, rfl, rfl⟩ (ev_X11_init e) ⟨Nat.le_of_ble_eq_true rfl, Nat.le_of_ble_eq_true rfl⟩ (n0 := 1) rfl z2 (m0 := 19) rfl (m1 := 12183) rfl (Nat.le_of_ble_eq_true rfl) (Nat.le_of_ble_eq_true rfl) ⟨Nat.le_of_ble_eq_true rfl, Nat.le_of_ble_eq_true rfl⟩ (As := []) rfl (st := [.ref 0]) rfl (Nat.le_of_ble_eq_true rfl) rfl ?_
  exact l_astore_n rfl dL_law_7 (Nat.le_of_ble_eq_true rfl) (loc' := [some (.ref 1000000006), some (.ref 0), none, none, none, none, none]) rfl (lw_b2 htr hb0 hS)
end LB
