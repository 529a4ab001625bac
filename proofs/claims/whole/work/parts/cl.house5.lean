/-! the law's own house, where the class's throws: it catches and answers 1 -/
set_option maxHeartbeats 1000000 in
theorem lh_no {G : xa_G} {S : XS} {c : Nat × Nat} {x k q2 : Int32} (htr : G.1.stackTraces = false) (hb0 : G.2.2.2.2.2.size = xa_b G) (hn : c.1 < 100000000) (e2 : f_X0_has (hp S c) 30 x = some q2)
    (hq : q2 = 0 ∨ (¬ q2 = 0 ∧ ¬ k = 0 ∧ ¬ k = 1 ∧ ¬ k = 2 ∧ ¬ k = 3 ∧ ¬ k = 4 ∧ ¬ k = 5 ∧ ¬ k = 6)) : xa_EvW G M_L_house hh_L 130 1 6 [.ref 0, .int x, .int k, .ref 378] (hp S c) (some (.int 1)) (hp S (c.1 + 1, c.2 + 6)) := by
  refine xw_entry (by decide +kernel) (loc := [some (.ref 0), some (.int x), some (.int k), some (.ref 378), none]) rfl (Nat.le_of_ble_eq_true rfl) ?_
  refine l_aload_n dL_house_0 rfl ?_
  refine l_iconst dL_house_1 (v := 0) (by decide) ?_
  refine l_aload_n dL_house_2 rfl ?_
  refine l_iload_n dL_house_3 rfl ?_
  refine l_iload_n dL_house_4 rfl ?_
  intro p e s m args below meth cd H locs ls A hW hL hl
  have hts := A.2.2.2.2.2.2.2.1
  have hEn := A.2.2.2.2.2.2.2.2
  obtain ⟨ci, fs, hc, hci⟩ := xa_ckof (k0 (S := S) (c := c))
  obtain ⟨C, T, N, hcl, hse⟩ := se_11_X11_house ci hci
  have hrun := vx_runV (As := ([.int x, .int k] : List Value).map (xa_sh G)) (rest := ([.int 0, .ref 378] : List Value).map (xa_sh G)) (C := C) (n := 2) (index := 7) (g := F0 m 5 ls ((.int k :: .int x :: .ref 0 :: .int 0 :: .ref 378 :: [] : List Value).map (xa_sh G))) (below := below) (e := e) (meth := meth) (locs := locs) (cells := 0) (slots := 0) (R := { frames := 130, cells := 1, slots := 6, locals := 130 * 64 }) (H := H) ⟨A.1, A.2.1, A.2.2.2.1, A.2.2.2.2.1, hts⟩ (hs_no (G := G) htr hb0 (h := hp S c) (l0 := 0) (x1 := 30) (l2 := k) hn g0_6 e2 hq)
    ⟨callB_of 2 hts (gws_sub cb_X11_house.1) rfl rfl rfl (hts _ cb_X11_house.2.1) (hts _ ml_L_7) cb_X11_house.2.2.1 ⟨Nat.le_of_ble_eq_true rfl, Nat.le_of_ble_eq_true rfl⟩, hts _ im_X11_house, hts _ hse⟩
    ⟨xa_blind, xa_recv hW hEn hc hcl, xa_prec (av := [.ref 0, .int x, .int k]) hW hEn⟩ rfl rfl hl.1 rfl (xa_catR (Nat.le_of_ble_eq_true rfl)) dL_house_5 ⟨Nat.le_of_ble_eq_true rfl, Nat.le_of_ble_eq_true rfl⟩
  intro T0 hT X
  rcases hrun T0 hT X with ⟨v, st₀, t, T', L, h0, X', hL', e1, e3, hf, st⟩ | ⟨q, st₀, t, T', L, E, ce, h0, X', hL', e1, e3, ⟨hE, hWt⟩, hce, hcv, hcl2, st⟩
  · exact hf.elim
  · subst hE
    have hL2 : ∀ z ∈ locs ++ L, xa_b G ≤ z.base := fun z hz => (List.mem_append.mp hz).elim (hL z) (hL' z)
    have key : vx_W p G.1 e { frames := 130, cells := 1, slots := 6, locals := 130 * 64 } s m args below meth cd T'.heap (locs ++ L) (0 + 1) (0 + 6) (MQ below (xa_Q G (some (.int 1)) (hp S (c.1 + 1, c.2 + 6))) args s 1 6 (fun q => xa_b G ≤ q)) (F0 m 5 ls (([.int 0, .ref 378] : List Value).map (xa_sh G))) q := by
      intro T2 hT2 X2
      obtain ⟨c3, c4, h3, h4, fit⟩ := Cond.castable_spec (va_Nw.use (A := args) rfl (hEn.2.1 _ ca_nx))
      obtain ⟨c5, h5, link⟩ := Cond.classLink_spec A.2.2.2.2.1 (hts _ kl_L_13) e.platform (by rw [X2.admits.platform])
      obtain rfl : c5 = c4 := Option.some.inj (h5.symm.trans h4)
      obtain rfl : ce.cls = c3 := Option.some.inj (hcl2.symm.trans h3)
      obtain ⟨v, X3, st3⟩ := xz_catch X2 (g := F0 m 5 ls (([.int 0, .ref 378] : List Value).map (xa_sh G))) rfl (x := ⟨0, 10, 13, 13⟩) A.2.2.2.2.2.2.1 rfl (by decide) link (by rw [hT2, e1]; exact hce) hcv (Vm.classAt_of_findClass hcl2) fit
      have caught : W p G.1 e { frames := 130, cells := 1, slots := 6, locals := 130 * 64 } s m args below meth cd T'.heap (locs ++ L) (0 + 1) (0 + 6) (MQ below (xa_Q G (some (.int 1)) (hp S (c.1 + 1, c.2 + 6))) args s 1 6 (fun q => xa_b G ≤ q)) (F0 m 13 ls [.ref q]) := by
        refine lv_astore A.1 A.2.1 dL_house_13 hl.has (Nat.le_of_ble_eq_true rfl) rfl (fun ls' hl' => ?_)
        refine lv_iconst A.1 A.2.1 dL_house_15 (v := 1) (by decide) ?_
        exact W.iret A.1 A.2.1 (A.2.2.1.trans rfl) (fun t9 ht9 _ => ⟨rfl, by rw [ht9, e1]; exact hWt⟩) hL2 dL_house_16 A.2.2.2.2.2.1
      obtain ⟨t3, a3, b3⟩ := caught (T2.setVm v) hT2 X3
      exact ⟨t3, st3.trans a3, b3⟩
    obtain ⟨t2, a1, b1⟩ := key T' rfl X'
    exact ⟨t2, st.trans a1, b1⟩
section YC
variable {G : xa_G} {M M1 : xa_M} {hh : List (Nat × Nat × Nat × Nat)} {P0 : State → Code → Prop} {R : Room} {cn sl d1 mc ms pc idx n : Nat} {loc : List (Option Value)} {st st0 st1 : List Value} {h h1 : xa_H} {o1 : Option Value} {As : List Value} {Z : State → List Frame → Array Value → State → Prop}
theorem l_callSW (hd : decode M.2.1 pc = .ok (.invokestatic idx, 3)) (hC : Cond.codeWith M1.1 M1.2.1 M1.2.2.1 M1.2.2.2 hh ∈ gws ∧ Cond.initialized M1.1.cls ∈ gws ∧ (M1.1.cls ≠ "java/lang/invoke/MethodHandle" ∧ M1.1.cls ≠ "java/lang/invoke/VarHandle" ∧ (parseMethodDescriptor M1.1.desc).map (fun d => d.parameters.length) = some n) ∧ Cond.methodLink M.1.cls idx M1.1 ∈ gws ∧ Cond.static M1.1 ∈ gws) (hE : xa_EvW G M1 hh d1 mc ms As h o1 h1) (hR : d1 + 1 ≤ R.frames ∧ 8 + (M1.2.2.1 + 11) + d1 * 64 ≤ R.locals) (hf : cn + mc ≤ R.cells ∧ sl + ms ≤ R.slots) (hn : As.length = n) (hs : st0 = As.reverse ++ st) (hcat : (st.map fun v => v.category).sum ≤ 8) (hs1 : o1.toList ++ st = st1) (k : xa_L G M P0 R (cn + mc) (sl + ms) (pc + 3) loc st1 h1 Z) : xa_L G M P0 R cn sl pc loc st0 h Z := by
  intro p e s m args below meth c H locs ls A hW hL hl
  have hts := A.2.2.2.2.2.2.2.1
  have hEn := A.2.2.2.2.2.2.2.2
  have hin : ∀ w ∈ va_wsS M.1.cls idx M1.1 (Cond.codeWith M1.1 M1.2.1 M1.2.2.1 M1.2.2.2 hh :: gws), w ∈ gws := fun w hw => by
    unfold va_wsS at hw
    rcases List.mem_append.mp hw with z | z
    · simp only [List.mem_cons, List.not_mem_nil, or_false] at z
      rcases z with rfl | rfl | rfl
      · exact hC.2.2.2.1
      · exact hC.2.2.2.2
      · exact hC.2.1
    · rcases List.mem_cons.mp z with rfl | z
      · exact hC.1
      · exact z
  have hr := vx_runSW (As := As.map (xa_sh G)) (rest := st.map (xa_sh G)) (locs := locs) (meth := meth) (below := below) (e := e) (H := H) (cells := cn) (slots := sl) (R := R) (g := F0 m pc ls (st0.map (xa_sh G))) ⟨A.1, A.2.1, A.2.2.2.1, A.2.2.2.2.1, hts⟩ hE (vx_cwSW (hh := hh) n hts (fun w hw => ⟨hin w hw, good_of_word (gws_good (hin w hw))⟩) rfl rfl rfl hC.2.2.1 hR) ⟨xa_blind, xa_prec hW hEn⟩ rfl (by rw [List.length_map]; exact hn) hl.1 (by
    show st0.map (xa_sh G) = _
    rw [hs, List.map_append, List.map_reverse]) (xa_catR hcat) hd hf
  refine xa_callk hr hL (fun H1 locs1 hW1 hL1 => ?_)
  have key := k p e s m args below meth c H1 locs1 ls A hW1 hL1 hl
  rw [← hs1, List.map_append] at key
  cases o1 <;> exact key
end YC
