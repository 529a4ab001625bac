/-! house's contract where it throws; the law's own house: both ends -/
theorem xl_ent {G : xa_G} {M : xa_M} {P0 : State → Code → Prop} {R : Room} {av : List Value} {loc : List (Option Value)} {h : xa_H} {Z : State → List Frame → Array Value → State → Prop} (hl : xa_ent av ++ List.replicate (M.2.2.1 - (xa_ent av).length) none = loc) (hn : (xa_ent av).length ≤ M.2.2.1) (k : xa_L G M P0 R 0 0 0 loc [] h Z)
    {p : Program} {e : Env} {s : State} {m : MethodId} {below : List Frame} {meth : Method} {c : Code} (A : xa_A2 G M P0 p s m (av.map (xa_sh G)).toArray meth c) (hW : xa_Wd G h s.heap) : W p G.1 e R s m (av.map (xa_sh G)).toArray below meth c s.heap [] 0 0 (Z s below (av.map (xa_sh G)).toArray) (entryFrame m (av.map (xa_sh G)).toArray M.2.2.1) := by
  rw [lg_entry_eq]
  have hl0 := lv_entry (av.map (xa_sh G)) (n := M.2.2.1) (by rw [xa_ent_len]; exact hn)
  exact k p e s m (av.map (xa_sh G)).toArray below meth c s.heap [] _ A hW (fun q hq => by cases hq)
    ⟨hl0.1, hl0.2.1, fun i v hi => by
      rw [← hl] at hi
      by_cases c : i < (xa_ent av).length
      · rw [List.getElem?_append_left c] at hi
        have := xa_ent_at (G := G) av 0 i v hi
        rw [Nat.zero_add] at this
        exact hl0.2.2 _ this
      · rw [List.getElem?_append_right (by omega), List.getElem?_replicate] at hi
        split at hi <;> cases hi⟩
theorem l_iret {G : xa_G} {M : xa_M} {P0 : State → Code → Prop} {R : Room} {cn sl pc mc ms : Nat} {loc : List (Option Value)} {h : xa_H} {x : Int32} (hd : decode M.2.1 pc = .ok (.ireturn, 1)) (hr : M.2.2.2 = some .int) (hc : cn = mc) (hs : sl = ms) : xa_L G M P0 R cn sl pc loc [.int x] h (fun s below args => MQ below (xa_Q G (some (.int x)) h) args s mc ms (fun q => xa_b G ≤ q)) := by
  subst hc
  subst hs
  intro p e s m args below meth c H locs ls A hW hL hl
  exact W.iret A.1 A.2.1 (A.2.2.1.trans hr) (fun t ht _ => ⟨rfl, by rw [ht]; exact hW⟩) hL hd A.2.2.2.2.2.1
def hsR : Room := { frames := 128, cells := 1, slots := 6, locals := 128 * 64 }
theorem hs_no {G : xa_G} {h : xa_H} {l0 x1 : Nat} {l1 l2 q2 : Int32} (htr : G.1.stackTraces = false) (hb0 : G.2.2.2.2.2.size = xa_b G) (hn : h.2.1 < 100000000) (e1 : gR [11] 6 h l0 = some x1) (e2 : f_X0_has h x1 l1 = some q2)
    (hq : q2 = 0 ∨ (¬ q2 = 0 ∧ ¬ l2 = 0 ∧ ¬ l2 = 1 ∧ ¬ l2 = 2 ∧ ¬ l2 = 3 ∧ ¬ l2 = 4 ∧ ¬ l2 = 5 ∧ ¬ l2 = 6)) :
    vx_Met G.1 yX11_house (.code yX11_house cX11_house 3 (some .int) :: gws) hsR (fun a U => a = (([.ref l0, .int l1, .int l2] : List Value).map (xa_sh G)).toArray ∧ xa_Wd G h U.heap ∧ xa_En G U) (fun _ _ _ _ => False) (nxX G h) 1 6 (fun q => xa_b G ≤ q) := by
  refine vx_ofW (cc := cX11_house) (maxL := 3) (ret := some .int) (by decide +kernel) rfl ?_
  intro p e s m args below meth c s₁ B hml hno hv
  obtain ⟨rfl, hW, hE⟩ := hv
  have hts := atoms_spec (ws := .code yX11_house cX11_house 3 (some .int) :: gws) B.pre
  have hown : s.vm.findClass "CrossedFavours" = some m.cls := findClass_of_methodNamed B.named
  refine xl_ent (M := M_X11_house) (P0 := nxP) (av := [.ref l0, .int l1, .int l2]) (loc := [some (.ref l0), some (.int l1), some (.int l2)]) (R := hsR) (Z := fun s below args => vx_MQ below (fun _ _ _ _ => False) (nxX G h) args s 1 6 (fun q => xa_b G ≤ q)) rfl (Nat.le_of_ble_eq_true rfl) ?_ ⟨B.exec, B.bytes, B.returns, hml, hown, B.notSynchronized, hno, fun w hw => hts w (List.mem_cons_of_mem _ hw), hE⟩ hW
  refine l_aload_n dX11_house_0 rfl ?_
  refine l_getR dX11_house_1 fl_11_49 e1 ?_
  refine l_iload_n dX11_house_4 rfl ?_
  refine l_callV dX11_house_5 ⟨cb_X0_has, ml_11_157, im_X0_has⟩ se_0_X0_has (ckf_X0_has e2) (ev_X0_has e2) ⟨Nat.le_of_ble_eq_true rfl, Nat.le_of_ble_eq_true rfl⟩ ⟨by rw [Nat.sub_self]; exact Nat.le_of_ble_eq_true rfl, by rw [Nat.sub_self]; exact Nat.le_of_ble_eq_true rfl⟩ (As := [.int l1]) rfl (st := []) rfl (Nat.le_of_ble_eq_true rfl) rfl ?_
  rw [Nat.sub_self, Nat.sub_self]
  refine l_if_ne dX11_house_8 (tgt := 21) (by decide) (fun c3 => ?_) (fun c3 => ?_)
  · obtain ⟨-, k0, k1, k2, k3, k4, k5, k6⟩ := hq.resolve_left c3
    refine l_iload_n dX11_house_21 rfl ?_
    refine l_tabOut dX11_house_22 (by have z0 := tsx (n := 0) (by decide) k0; have z1 := tsx (n := 1) (by decide) k1; have z2 := tsx (n := 2) (by decide) k2; have z3 := tsx (n := 3) (by decide) k3; have z4 := tsx (n := 4) (by decide) k4; have z5 := tsx (n := 5) (by decide) k5; have z6 := tsx (n := 6) (by decide) k6; omega) (tgt := 135) (by decide) ?_
    exact l_nx htr hb0 (is := 189) (j := 4) (text := "no such what") (by decide) hn dX11_house_135 dX11_house_138 dX11_house_139 dX11_house_141 dX11_house_144 (Nat.le_of_ble_eq_true rfl) (Nat.le_of_ble_eq_true rfl) (Nat.le_of_ble_eq_true rfl) (Nat.le_of_ble_eq_true rfl) (Nat.le_refl _) (Nat.le_refl _)
  · exact l_nx htr hb0 (is := 163) (j := 3) (text := "no such house") (by decide) hn dX11_house_11 dX11_house_14 dX11_house_15 dX11_house_17 dX11_house_20 (Nat.le_of_ble_eq_true rfl) (Nat.le_of_ble_eq_true rfl) (Nat.le_of_ble_eq_true rfl) (Nat.le_of_ble_eq_true rfl) (Nat.le_refl _) (Nat.le_refl _)
