/-! the law's own house -/
def hh_L : List (Nat × Nat × Nat × Nat) := [(0, 10, 13, 13)]
def M_L_house : xa_M := (yL_house, cL_house, 5, some .int)
def lhP : State → Code → Prop := fun _ c => c.exceptionTable.toList = tableOf hh_L
theorem cw_L_house : Cond.codeWith yL_house cL_house 5 (some .int) hh_L ∈ gws := gws_at 1216 (by decide +kernel) rfl
theorem st_L_house : Cond.static yL_house ∈ gws := gws_at 1215 (by decide +kernel) rfl
theorem in_L : Cond.initialized RL ∈ gws := gws_at 108 (by decide +kernel) rfl
theorem ml_L_38 : Cond.methodLink RL 38 yL_house ∈ gws := gws_at 1214 (by decide +kernel) rfl
theorem ml_L_7 : Cond.methodLink RL 7 yX11_house ∈ gws := gws_at 1218 (by decide +kernel) rfl
theorem im_X11_house : Cond.instanceMethod yX11_house ∈ gws := gws_at 1219 (by decide +kernel) rfl
theorem se_11_X11_house : ∀ ci ∈ [11], ∃ (C : String) (T : u_T) (N : Nat), xclasses[ci]? = some (C, T, N) ∧ Cond.selects C yX11_house yX11_house ∈ gws := fun ci hc => by
  cases List.mem_singleton.mp hc
  exact ⟨RX11, TX11, 19, rfl, gws_at 1220 (by decide +kernel) rfl⟩
theorem kl_L_13 : Cond.classLink RL 13 nxE ∈ gws := gws_at 1217 (by decide +kernel) rfl
theorem ca_nx : Cond.castable nxE nxE ∈ xa_nest := by decide +kernel
theorem dL_house_0 : decode cL_house 0 = .ok (.aload_n 3, 1) := by decide +kernel
theorem dL_house_1 : decode cL_house 1 = .ok (.iconst 0, 1) := by decide +kernel
theorem dL_house_2 : decode cL_house 2 = .ok (.aload_n 0, 1) := by decide +kernel
theorem dL_house_3 : decode cL_house 3 = .ok (.iload_n 1, 1) := by decide +kernel
theorem dL_house_4 : decode cL_house 4 = .ok (.iload_n 2, 1) := by decide +kernel
theorem dL_house_5 : decode cL_house 5 = .ok (.invokevirtual 7, 3) := by decide +kernel
theorem dL_house_8 : decode cL_house 8 = .ok (.i2l, 1) := by decide +kernel
theorem dL_house_9 : decode cL_house 9 = .ok (.lastore, 1) := by decide +kernel
theorem dL_house_10 : decode cL_house 10 = .ok (.goto 7, 3) := by decide +kernel
theorem dL_house_13 : decode cL_house 13 = .ok (.astore 4, 2) := by decide +kernel
theorem dL_house_15 : decode cL_house 15 = .ok (.iconst 1, 1) := by decide +kernel
theorem dL_house_16 : decode cL_house 16 = .ok (.ireturn, 1) := by decide +kernel
theorem dL_house_17 : decode cL_house 17 = .ok (.iconst 0, 1) := by decide +kernel
theorem dL_house_18 : decode cL_house 18 = .ok (.ireturn, 1) := by decide +kernel
/-- a method's handlers, as its word tells them -/
theorem lh_tab {p : Program} {l : Launch} {y : MethodName} {ws : List Cond} {rm : Room} {cc : ByteArray} {maxL : Nat} {ret : Option FieldType} {hh : List (Nat × Nat × Nat × Nat)} {e : Env} {s : State} {m : MethodId} {args : Array Value} {below : List Frame} {meth : Method} {c : Code} {s₁ : State}
    (B : BodyLoose p l y (headSpec ws rm) cc maxL ret e s m args below meth c s₁) (hm : Cond.codeWith y cc maxL ret hh ∈ ws) : c.exceptionTable.toList = tableOf hh := by
  obtain ⟨m', meth', c', a1, a2, a3, -, -, a4, -⟩ := Cond.codeWith_spec (atoms_spec (ws := ws) B.pre _ hm)
  rw [B.named] at a1
  rw [← Option.some.inj a1, B.method] at a2
  rw [← Option.some.inj a2, (Stand.of_body B).code] at a3
  rw [Option.some.inj a3, ← a4, table_eq]
def xa_EvW (G : xa_G) (M : xa_M) (hh : List (Nat × Nat × Nat × Nat)) (d mc ms : Nat) (av : List Value) (h : xa_H) (o : Option Value) (h' : xa_H) : Prop :=
  Met G.1 M.1 (.codeWith M.1 M.2.1 M.2.2.1 M.2.2.2 hh :: gws) { frames := d, cells := mc, slots := ms, locals := d * 64 } (fun a U => a = (av.map (xa_sh G)).toArray ∧ xa_Wd G h U.heap ∧ xa_En G U) (xa_Q G o h') mc ms (fun q => xa_b G ≤ q)
theorem xw_entry {G : xa_G} {M : xa_M} {hh : List (Nat × Nat × Nat × Nat)} {d mc ms : Nat} {av : List Value} {loc : List (Option Value)} {h h' : xa_H} {o : Option Value} (hy : plainName M.1.cls = true) (hl : xa_ent av ++ List.replicate (M.2.2.1 - (xa_ent av).length) none = loc) (hn : (xa_ent av).length ≤ M.2.2.1)
    (k : xa_L G M (fun _ c => c.exceptionTable.toList = tableOf hh) { frames := d, cells := mc, slots := ms, locals := d * 64 } 0 0 0 loc [] h (fun s below args => MQ below (xa_Q G o h') args s mc ms (fun q => xa_b G ≤ q))) : xa_EvW G M hh d mc ms av h o h' := by
  refine va_MetW (cc := M.2.1) (maxL := M.2.2.1) (ret := M.2.2.2) hy rfl ?_
  intro p e s m args below meth c s₁ B hml hv
  have ht := lh_tab B List.mem_cons_self
  obtain ⟨rfl, hW, hE⟩ := hv
  have hts := atoms_spec (ws := .codeWith M.1 M.2.1 M.2.2.1 M.2.2.2 hh :: gws) B.pre
  exact xl_ent hl hn k ⟨B.exec, B.bytes, B.returns, hml, findClass_of_methodNamed B.named, B.notSynchronized, ht, fun w hw => hts w (List.mem_cons_of_mem _ hw), hE⟩ hW
theorem lh_ok {G : xa_G} {S S1 : XS} {c : Nat × Nat} {x k v : Int32} (e : f_X11_house (hp S c) 0 x k = some (v, hp S1 c)) : xa_EvW G M_L_house hh_L 130 0 0 [.ref 0, .int x, .int k, .ref 378] (hp S c) (some (.int 0)) (hp (wL S1 378 (vp_updL (S1.2.1 378) 0 v.toInt64)) c) := by
  refine xw_entry (by decide +kernel) (loc := [some (.ref 0), some (.int x), some (.int k), some (.ref 378), none]) rfl (Nat.le_of_ble_eq_true rfl) ?_
  refine l_aload_n dL_house_0 rfl ?_
  refine l_iconst dL_house_1 (v := 0) (by decide) ?_
  refine l_aload_n dL_house_2 rfl ?_
  refine l_iload_n dL_house_3 rfl ?_
  refine l_iload_n dL_house_4 rfl ?_
  refine l_callV dL_house_5 ⟨cb_X11_house, ml_L_7, im_X11_house⟩ se_11_X11_house (ckf_X11_house e) (ev_X11_house e) ⟨Nat.le_of_ble_eq_true rfl, Nat.le_of_ble_eq_true rfl⟩ ⟨by show 0 + (c.1 - c.1) ≤ 0; omega, by show 0 + (c.2 - c.2) ≤ 0; omega⟩ (As := [.int x, .int k]) rfl (st := [.int 0, .ref 378]) rfl (Nat.le_of_ble_eq_true rfl) rfl ?_
  refine l_i2l dL_house_8 ?_
  refine l_lastoreL dL_house_9 (q378 (k := 0) (by decide)) ?_
  refine l_goto dL_house_10 (tgt := 17) (by decide) ?_
  refine l_iconst dL_house_17 (v := 0) (by decide) ?_
  exact l_iret dL_house_18 rfl (by show 0 + (c.1 - c.1) = 0; omega) (by show 0 + (c.2 - c.2) = 0; omega)
