/-! the throw in house, over the cells: one cell more that nobody reads -/
def nxH (h : xa_H) : xa_H := (h.1, h.2.1 + 1, h.2.2 + 6)
def nxX (G : xa_G) (h : xa_H) : String → State → State → Prop := fun E _ t => E = nxE ∧ xa_Wd G (nxH h) t.heap
def nxP : State → Code → Prop := fun _ c => ∀ x ∈ c.exceptionTable.toList, False
theorem nx_own {args : Array Value} {s : State} {L : List Cond} (h1 : ∀ w ∈ L.filter vx_no, w.before args s = true)
    (hU : (Cond.isRef (.static Bundle.tN "UNASSIGNED_STACK" Bundle.steD)).before args s = true) (hN : (Cond.isRef (.static Bundle.tN "SUPPRESSED_SENTINEL" Bundle.listD)).before args s = true)
    (lU : (Cond.laysStatic Bundle.tN "UNASSIGNED_STACK" Bundle.steD).before args s = true) (lN : (Cond.laysStatic Bundle.tN "SUPPRESSED_SENTINEL" Bundle.listD).before args s = true) : ∀ w ∈ L, w.before args s = true := vx_own h1 hU hN lU lN
theorem nx_tab (w : Cond) (hw : w ∈ xa_nest) : w.onTables = true := by
  have h2 := (List.mem_filter.mp hw).2
  cases w <;> first | (cases h2; done) | rfl
section NXB
variable {G : xa_G} {R : Room} {cn sl pc is j mc ms : Nat} {loc : List (Option Value)} {st : List Value} {h : xa_H} {Qc : Array Value → State → Outcome → State → Prop} {text : String}
theorem nx_hat {p : Program} {s : State} {m : MethodId} {args : Array Value} {meth : Method} {c : Code} (A : xa_A2 G M_X11_house nxP p s m args meth c) : ∀ w ∈ nx_at, w.before args s = true := by
  intro w hw
  by_cases g : goodWord w = true
  · exact A.2.2.2.2.2.2.2.1 w (gws_of (nx_good w (List.mem_filter.mpr ⟨hw, g⟩)) g)
  · have hb := nx_bad w (List.mem_filter.mpr ⟨hw, by simp [Bool.eq_false_iff.mpr g]⟩)
    exact va_Nw.use (nx_tab w hb) (A.2.2.2.2.2.2.2.2.2.1 w hb)
theorem nx_kl : Cond.classLink "CrossedFavours" 161 nxE ∈ gws := gws_of (by decide +kernel) rfl
theorem nx_in : Cond.initialized nxE ∈ gws := gws_of (by decide +kernel) rfl
theorem xa_Wd.nx {H H1 : Heap} (hW : xa_Wd G h H) (hn : h.2.1 < 100000000) (hz : H1.size = H.size + 1) (hq : ∀ q : Nat, q < H.size → H1[q]? = H[q]?) : xa_Wd G (nxH h) H1 := by
  have h1 := hW.1
  refine ⟨by rw [hz, h1]; rfl, by show h.2.1 + 1 < _; omega, fun q hq1 => ?_, fun k e hk => ?_⟩
  · rw [hq q (by omega)]
    exact hW.2.2.1 q hq1
  · have h2 := hW.2.2.2 k e hk
    refine ⟨Nat.lt_succ_of_lt h2.1, h2.2.kept (hq _ ?_)⟩
    show xa_b G + k < H.size
    have := h2.1
    omega
set_option maxHeartbeats 1000000 in
theorem l_nx (htr : G.1.stackTraces = false) (hb0 : G.2.2.2.2.2.size = xa_b G) (hx : ("CrossedFavours", is, text, j) ∈ xs_ref) (hn : h.2.1 < 100000000)
    (d0 : decode cX11_house pc = .ok (.new 161, 3)) (d3 : decode cX11_house (pc + 3) = .ok (.dup, 1)) (d4 : decode cX11_house (pc + 4) = .ok (.ldc is, 2)) (d6 : decode cX11_house (pc + 6) = .ok (.invokespecial 165, 3)) (d9 : decode cX11_house (pc + 9) = .ok (.athrow, 1))
    (hRf : 5 < R.frames) (hRl : (st.map fun v => v.category).sum + 82 ≤ R.locals) (hRc : cn + 1 ≤ R.cells) (hRs : sl + 6 ≤ R.slots) (hc : cn + 1 ≤ mc) (hs : sl + 6 ≤ ms) :
    xa_L G M_X11_house nxP R cn sl pc loc st h (fun s below args => vx_MQ below Qc (nxX G h) args s mc ms (fun q => xa_b G ≤ q)) := by
  intro p e s m args below meth c H locs ls A hW hL hl
  have hexec := A.1
  have hb : c.code = cX11_house := A.2.1
  have hml : c.maxLocals = 3 := A.2.2.2.1
  have hown : s.vm.findClass "CrossedFavours" = some m.cls := A.2.2.2.2.1
  have hlocks := A.2.2.2.2.2.1
  have hno : ∀ x ∈ c.exceptionTable.toList, False := A.2.2.2.2.2.2.1
  have hts := A.2.2.2.2.2.2.2.1
  have hEn := A.2.2.2.2.2.2.2.2
  have hstr : vk_R "CrossedFavours" is text (G.2.2.2.2.1 (10 + j)) s := hEn.2.2.2.1.2.1 _ hx
  have hU := hEn.2.2.2.1.2.2.2.2.1
  have hN := hEn.2.2.2.1.2.2.2.2.2
  have hat := nx_hat A
  have hk := hts _ nx_kl
  have hini := hts _ nx_in
  have hkeep : ∀ a : Nat, a < G.2.2.2.2.2.size → ¬ xa_A G a → H[a]? = G.2.2.2.2.2[a]? := fun a _ h2 => hW.2.2.1 a (Nat.not_le.mp h2)
  have hcat0 : ((st.map (xa_sh G)).map fun v => v.category).sum = (st.map fun v => v.category).sum := xa_catS
  generalize hst : st.map (xa_sh G) = rest at hcat0 ⊢
  intro T hT X
  have htr' : e.platform.stackTraces = false := (show e.platform.stackTraces = G.1.stackTraces by rw [X.admits.platform]).trans htr
  have Y := vx_rebase X (R' := { frames := R.frames, locals := R.locals, cells := 1, slots := 6 }) (Nat.le_refl _) (Nat.le_refl _) hRc hRs
  obtain ⟨s', hA⟩ : ∃ z, z = (T.setVm s.vm).setFrames (.invoking m args :: below) := ⟨_, rfl⟩
  rw [← hA] at Y
  have hvm : s'.vm = s.vm := by rw [hA]; rfl
  have hhp : s'.heap = H := by rw [hA]; exact hT
  have hW0 : s.WarmedH s'.vm := by rw [hvm]; exact State.WarmedH.refl s
  have hat' : ∀ w ∈ nx_at, w.before args s' = true := fun w hw => vx_ot_at hW0 hvm.symm (nx_ot w (List.mem_cons_of_mem _ (List.mem_cons_of_mem _ hw))) (hat w hw)
  have hk' : (Cond.classLink "CrossedFavours" 161 nxE).before args s' = true := vx_ot_at hW0 hvm.symm (nx_ot _ List.mem_cons_self) hk
  have hini' : (Cond.initialized nxE).before args s' = true := vx_ot_at hW0 hvm.symm (nx_ot _ (List.mem_cons_of_mem _ List.mem_cons_self)) hini
  have hU' : vx_Zq Bundle.tN "UNASSIGNED_STACK" Bundle.steD (xa_A G) s' s'.heap := by rw [hhp]; exact vx_Zq.moved hW0.alike (hU.kept hkeep)
  have hN' : vx_Zq Bundle.tN "SUPPRESSED_SENTINEL" Bundle.listD (xa_A G) s' s'.heap := by rw [hhp]; exact vx_Zq.moved hW0.alike (hN.kept hkeep)
  have hw : ∀ w ∈ nx_all, w.before args s' = true := nx_own hat' (vx_isRefq hU'.1) (vx_isRefq hN'.1) hU'.2.word hN'.2.word
  have hown' : s'.vm.findClass "CrossedFavours" = some m.cls := by rw [hvm]; exact hown
  have hins : (Cond.instantiable nxE 6).before args s' = true := hw _ (List.mem_append_left _ (List.mem_of_getElem? (i := 0) rfl))
  obtain ⟨vm₁, cX, kX, hfX, hkX, -, -, X₁, st1⟩ := Y.newCold hexec (own := "CrossedFavours") (C := nxE) (index := 161) (n := 6) hown' hk' hins hini'
    (g := F0 m pc ls rest) rfl (by rw [hb]; exact d0) (Nat.le_refl _) (Nat.le_refl _)
  generalize hT1 : (T.setVm vm₁).pushCell { cls := cX, slots := kX.instanceTypes.map defaultValue, vm := .none } = T1 at X₁ st1
  have hcat : (Value.ref T.heap.size).category = 1 := rfl
  have hcellA : T1.heap[T.heap.size]? = some (freshCell cX kX) := by rw [← hT1]; exact State.heap_pushCell_size _ _
  have hsz1 : T1.heap.size = T.heap.size + 1 := by rw [← hT1]; exact Array.size_push _
  have d3' : decode c.code (pc + 3) = .ok (.dup, 1) := by rw [hb]; exact d3
  have d4' : decode c.code (pc + 4) = .ok (.ldc is, 2) := by rw [hb]; exact d4
  have hstr' : vk_R "CrossedFavours" is text (G.2.2.2.2.1 (10 + j)) s' := vk_R.warm hW0 hstr
  obtain ⟨U, hsteps, hrun, hend, hWm, hsame, hsz, ce, hce, hcl, hcv⟩ := nx_ctor X₁ hexec htr' hown' hw (q := G.2.2.2.2.1 (10 + j)) hfX hkX hcellA (by rw [hhp, hT]; exact Nat.le_refl _)
    (g := { method := m, pc := pc + 6, locals := ls, stack := .ref (G.2.2.2.2.1 (10 + j)) :: .ref T.heap.size :: .ref T.heap.size :: rest, locked := none }) (rest := rest) rfl (by show ls.size = _; rw [hml]; exact hl.1) ⟨rfl, rfl⟩ rfl
    (by rw [hb]; exact d6) (by rw [hb]; exact d9) hno hRf (by
      simp only [List.map_cons, List.sum_cons, hcat, hcat0]
      show 2 * 0 + _ + 81 ≤ R.locals
      omega) hlocks
  obtain ⟨f1, f2⟩ := vx_frame hsame
  rw [hhp] at f1 f2
  have hWs : s.WarmedH U.vm := State.WarmedH.trans hW0 hWm
  have hcl' : s.vm.findClass nxE = some ce.cls := by
    rw [hvm] at hfX
    rw [hcl]
    exact hfX
  have hWU : xa_Wd G (nxH h) U.heap := hW.nx hn (by rw [hsz, hsz1, hT]) (fun q hq => f2 q hq (fun z hz => nomatch hz))
  have hall : s.sameButNew ({ U with vm := s.vm } : State) locs mc ms := by
    subst hA
    obtain ⟨e1, e2⟩ := hsame
    rw [State.setFrames_setFrames] at e1
    have h2 : (T.setVm s.vm).sameButNew ({ U with vm := s.vm } : State) [] (0 + 1) (0 + 6) := ⟨e1, e2⟩
    have h3 := X.same.trans h2
    rw [List.append_nil] at h3
    exact h3.mono hc hs
  refine ⟨U, ?_, .threw T.heap.size, hrun, hend, Or.inr ⟨T.heap.size, rfl, nxE, ce, locs, ⟨rfl, hWU⟩, hce, hcv, hcl', hWs, hall, hL⟩⟩
  refine st1 _ ?_
  show Steps p.tables e below (T1.setTop { method := m, pc := pc + 3, locals := ls, stack := .ref T.heap.size :: rest, locked := none }) _
  jvm_step X₁.here [X₁.here.top, hexec, d3', Value.category]
  exact X₁.ldcString hexec (own := "CrossedFavours") (text := text) (index := is) (a := G.2.2.2.2.1 (10 + j)) hown' hstr'.1 hstr'.2
    (g := { method := m, pc := pc + 4, locals := ls, stack := .ref T.heap.size :: .ref T.heap.size :: rest, locked := none }) rfl d4' _ hsteps
end NXB
