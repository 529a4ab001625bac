/-! rules for the law's walk -/
def M_L_law : xa_M := (yL_law, cL_law, 7, some .boolean)
def lwP (G : xa_G) (b L : Nat) (xs : Nat → Int32) : State → Code → Prop := fun s _ => va_X b L xs s G.2.2.2.2.2 ∧ s.heap.size = xa_b G
def lwZ (b : Nat) : State → List Frame → Array Value → State → Prop := fun s below args t => args = #[Value.ref b] → lw_Z below #[Value.ref b] s t
/-- what the walk knows of the script -/
def lwS (G : xa_G) (b L : Nat) : Prop := G.2.2.2.2.1 6 = b ∧ b < xa_b G ∧ L ≤ 3072
theorem lw_ad {G : xa_G} {b L : Nat} (h : lwS G b L) : xa_ad G 1000000006 = b := by
  unfold xa_ad
  rw [if_neg (by decide)]
  exact h.1
section YD
variable {G : xa_G} {M M1 : xa_M} {b L : Nat} {xs : Nat → Int32} {P0 : State → Code → Prop} {R : Room} {cn sl pc idx d1 n : Nat} {loc loc' : List (Option Value)} {st st0 st1 : List Value} {h h1 h2 : xa_H} {o1 : Option Value} {As : List Value} {Z : State → List Frame → Array Value → State → Prop}
theorem l_slen (hS : lwS G b L) (hd : decode M.2.1 pc = .ok (.arraylength, 1)) (k : xa_L G M (lwP G b L xs) R cn sl (pc + 1) loc (.int (nI L) :: st) h Z) : xa_L G M (lwP G b L xs) R cn sl pc loc (.ref 1000000006 :: st) h Z := by
  refine xl_go1 k (fun p e s m args below meth c H locs Q ls A hl hW kk => ?_)
  obtain ⟨⟨scr, h1, h2, h3, h4, h5⟩, -⟩ := A.2.2.2.2.2.2.1
  show W p G.1 e R s m args below meth c H locs cn sl Q (F0 m pc ls (.ref (xa_ad G 1000000006) :: st.map (xa_sh G)))
  rw [lw_ad hS]
  exact W.alen (n := Int32.ofNat L) A.1 A.2.1 (by rw [hW.2.2.1 b hS.2.1]; exact h1) h2 (by rw [h4] <;> rfl) rfl rfl hd kk
theorem l_sld (hS : lwS G b L) {i : Int32} (hin : vp_in i L) (hd : decode M.2.1 pc = .ok (.iaload, 1)) (k : xa_L G M (lwP G b L xs) R cn sl (pc + 1) loc (.int (xs i.toNatClampNeg) :: st) h Z) : xa_L G M (lwP G b L xs) R cn sl pc loc (.int i :: .ref 1000000006 :: st) h Z := by
  refine xl_go1 k (fun p e s m args below meth c H locs Q ls A hl hW kk => ?_)
  obtain ⟨⟨scr, h1, h2, h3, h4, h5⟩, -⟩ := A.2.2.2.2.2.2.1
  show W p G.1 e R s m args below meth c H locs cn sl Q (F0 m pc ls (.int i :: .ref (xa_ad G 1000000006) :: st.map (xa_sh G)))
  rw [lw_ad hS]
  have hlt : i.toNatClampNeg < L := Nat.not_le.mp fun q => hin (Or.inr q)
  exact W.iald (v := .int (xs i.toNatClampNeg)) A.1 A.2.1 (by rw [hW.2.2.1 b hS.2.1]; exact h1) h2 h3 (by rw [h4]; exact hin) (h5 _ hlt) rfl rfl hd kk
theorem lw_idx {a k : Nat} (h : a + k < 2 ^ 31) : nI a + nI k = nI (a + k) := by
  apply Int32.toBitVec_inj.mp
  apply BitVec.eq_of_toNat_eq
  simp [nI, Int32.toBitVec_add, BitVec.toNat_add]
/-- script[i + k] -/
theorem l_sc (hS : lwS G b L) {i : Nat} (kv : Nat) {kI : Int} (hk : Int32.ofInt kI = nI kv) (hik : i + kv < L) (h0 : loc[((0 : Fin 4) : Nat)]? = some (some (.ref 1000000006))) (h4 : loc[4]? = some (some (.int (nI i))))
    (d0 : decode M.2.1 pc = .ok (.aload_n 0, 1)) (d1 : decode M.2.1 (pc + 1) = .ok (.iload 4, 2)) (d3 : decode M.2.1 (pc + 3) = .ok (.iconst kI, 1)) (d4 : decode M.2.1 (pc + 4) = .ok (.iadd, 1)) (d5 : decode M.2.1 (pc + 5) = .ok (.iaload, 1))
    (k : xa_L G M (lwP G b L xs) R cn sl (pc + 6) loc (.int (xs (i + kv)) :: st) h Z) : xa_L G M (lwP G b L xs) R cn sl pc loc st h Z := by
  have hL := hS.2.2
  refine l_aload_n d0 h0 (l_iload d1 h4 (l_iconst d3 hk (l_iadd d4 ?_)))
  rw [lw_idx (by omega)]
  refine l_sld hS (nI_in hik (by omega)) d5 ?_
  rw [nI_clamp (by omega)]
  exact k
/-- a call that makes nothing -/
theorem l_callK {a : Nat} {cl : List Nat} {u : Unit} (hd : decode M.2.1 pc = .ok (.invokevirtual idx, 3)) (hC : xa_CB M1 n ∧ Cond.methodLink M.1.cls idx M1.1 ∈ gws ∧ Cond.instanceMethod M1.1 ∈ gws) (hsel : ∀ ci ∈ cl, ∃ (C : String) (T : u_T) (N : Nat), xclasses[ci]? = some (C, T, N) ∧ Cond.selects C M1.1 M1.1 ∈ gws) (hck : ck cl h a = some u) (hE : xa_Ev G M1 d1 (.ref a :: As) h o1 h1) (hR : d1 + 1 ≤ R.frames ∧ 8 + (M1.2.2.1 + 11) + d1 * 64 ≤ R.locals) (hf : cn ≤ R.cells ∧ sl ≤ R.slots) (hh : h1.2 = h.2) (hn : As.length = n) (hs : st0 = As.reverse ++ .ref a :: st) (hcat : (st.map fun v => v.category).sum ≤ 8) (hs1 : o1.toList ++ st = st1) (k : xa_L G M P0 R cn sl (pc + 3) loc st1 h1 Z) : xa_L G M P0 R cn sl pc loc st0 h Z := by
  have z1 : h1.2.1 - h.2.1 = 0 := by rw [hh, Nat.sub_self]
  have z2 : h1.2.2 - h.2.2 = 0 := by rw [hh, Nat.sub_self]
  refine l_callV hd hC hsel hck hE hR (by rw [z1, z2]; exact hf) hn hs hcat hs1 ?_
  rw [z1, z2]
  exact k
theorem l_new {ci : Nat} {fs : List Value} (hd : decode M.2.1 pc = .ok (.new idx, 3)) (hN : xa_NW M.1.cls idx ci fs) (e : nC h (.inr (ci, fs)) fs.length = some h2) (r1 : cn + 1 ≤ R.cells) (r2 : sl + fs.length ≤ R.slots) (k : xa_L G M P0 R (cn + 1) (sl + fs.length) (pc + 3) loc (.ref h.2.1 :: st) h2 Z) : xa_L G M P0 R cn sl pc loc st h Z := by
  obtain ⟨C, T, N, ty, q1, q2, q3, q4, q5, q6, q7, q8⟩ := hN
  obtain ⟨hn, rfl⟩ := nC_of e
  intro p e s m args below meth c H locs ls A hW hL hl
  have hts := A.2.2.2.2.2.2.2.1
  have hK := A.2.2.2.2.2.2.2.2.1
  have hKn := hK.1 ci _ q1
  subst q7
  refine W.newcK A.1 A.2.1 A.2.2.2.2.1 (hts _ q4) (hts _ q5) (hts _ q6) rfl hd r1 r2 hKn.2.1 rfl fun H1 kC hkC e1 z1 o1 => ?_
  have key := k p e s m args below meth c H1 locs ls A (hW.push hn ⟨_, q1, (u_born ty hts q2 hKn hkC e1 q3).to (q8 G)⟩ z1 o1) hL hl
  rw [List.map_cons, show xa_sh G (.ref h.2.1) = .ref H.size from congrArg Value.ref (by rw [xa_ad_lo (by omega)]; exact hW.1.symm)] at key
  exact key
theorem l_newaL {v : Int32} {N : Nat} (hd : decode M.2.1 pc = .ok (.newarray .long, 2)) (hw : Cond.arrayClass .long ∈ gws) (hn : ¬ v < 0) (hN : v.toNatClampNeg = N) (hb : N * 8 ≤ 536870912) (e : nC h (.inl (3, N, .inr (.inl (fun _ => 0)))) N = some h2) (r1 : cn + 1 ≤ R.cells) (r2 : sl + N ≤ R.slots) (k : xa_L G M P0 R (cn + 1) (sl + N) (pc + 2) loc (.ref h.2.1 :: st) h2 Z) : xa_L G M P0 R cn sl pc loc (.int v :: st) h Z := by
  obtain ⟨hn1, rfl⟩ := nC_of e
  intro p e s m args below meth c H locs ls A hW hL hl
  refine va_newaK (atype := .long) A.1 A.2.1 (A.2.2.2.2.2.2.2.1 _ hw) (g := F0 m pc ls (.int v :: st.map (xa_sh G))) rfl hd rfl hn hN hb r1 r2 rfl fun H1 cA e1 z1 o1 hAr hNm => ?_
  have hc := xa_aid A.2.2.2.2.2.2.2.2.1 (t := 3) rfl (fun C q => by cases q) hNm
  subst hc
  have key := k p e s m args below meth c H1 locs ls A (hW.push hn1 (show H1[H.size]? = some (vp_cell (G.2.2.1 3) (N, .inr (.inl (fun _ => 0)))) by rw [vp_cell_l]; exact e1) z1 o1) hL hl
  rw [List.map_cons, show xa_sh G (.ref h.2.1) = .ref H.size from congrArg Value.ref (by rw [xa_ad_lo (by omega)]; exact hW.1.symm)] at key
  exact key
theorem l_lawret (hd : decode cL_law pc = .ok (.ireturn, 1)) (h1 : cn ≤ 601024) (h2 : sl ≤ 7293034) : xa_L G M_L_law (lwP G b L xs) room_1 cn sl pc loc [.int 1] h (lwZ b) := by
  intro p e s m args below meth c H locs ls A hW hL hl
  by_cases ha : args = #[Value.ref b]
  · subst ha
    have hz := A.2.2.2.2.2.2.1.2
    have key : W p G.1 e room_1 s m #[Value.ref b] below meth c H locs cn sl (lw_Z below #[Value.ref b] s) (F0 m pc ls [.int 1]) := va_forget (fun q hq => by rw [hz]; exact hL q hq) (W.widen h1 h2 (lw_ret A.1 A.2.1 A.2.2.1 A.2.2.2.2.2.1 hd))
    intro T hT X
    obtain ⟨t, a1, b1⟩ := key T hT X
    exact ⟨t, a1, fun _ => b1⟩
  · exact fun T hT X => ⟨_, Steps.refl _, fun z => absurd z ha⟩
end YD
