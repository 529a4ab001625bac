/-! writes, arrays -/
def xa_FP (own : String) (idx ci k : Nat) (ty : FieldType) (fin : Bool) : Prop := ∃ (C : String) (T : u_T) (N : Nat) (ref : String) (ty0 : Nat → FieldType), xclasses[ci]? = some (C, T, N) ∧ k < N ∧ (∀ w ∈ u_ws C T N, w ∈ gws) ∧ Cond.fieldLink own idx ref (T k).2.1 (T k).2.2.1 ∈ gws ∧ (ref = (T k).1 ∨ Cond.sameField ref (T k).1 (T k).2.1 (T k).2.2.1 ∈ gws)
  ∧ (∀ k, k < N → parseFieldDescriptor (T k).2.2.1 = some (ty0 k)) ∧ (∀ a, a < N → ∀ b, b < N → a ≠ b → (T a).2.1 ≠ (T b).2.1) ∧ parseFieldDescriptor (T k).2.2.1 = some ty ∧ (T k).2.2.2 = fin ∧ (fin = true → (T k).1 = own)
theorem xp_of {cs : List Nat} {k : Nat} {h h2 : xa_H} {a : Nat} {v : Value} (e : xp cs k h a v = some h2) : ∃ ci fs, h.1 a = some (.inr (ci, fs)) ∧ ci ∈ cs ∧ k < fs.length ∧ h2 = xu h a (.inr (ci, fs.set k v)) := by
  unfold xp at e
  split at e
  · rename_i ci fs q
    split at e
    · rename_i c
      cases e
      exact ⟨ci, fs, q, c.1, c.2, rfl⟩
    · cases e
  · cases e
theorem xa_Wd.put {G : xa_G} {h : xa_H} {H H1 : Heap} {a : Nat} {e0 e1 : xa_C} (hW : xa_Wd G h H) (hc : h.1 a = some e0) (he : va_at G.2.1 xclasses (xa_ad G a, xa_cv G e1) H1) (hz : H1.size = H.size) (hq : ∀ q : Nat, q ≠ xa_ad G a → H1[q]? = H[q]?) : xa_Wd G (xu h a e1) H1 := by
  have ha := (xa_at_ad hW hc).1
  have hl := (hW.2.2.2 a e0 hc).1
  refine ⟨by rw [hz]; exact hW.1, hW.2.1, fun q h1 => ?_, fun k e hk => ?_⟩
  · rw [hq q (by omega)]
    exact hW.2.2.1 q h1
  · unfold xu at hk
    dsimp only at hk
    by_cases c : k = a
    · rw [if_pos c] at hk
      cases hk
      subst c
      rw [← ha]
      exact ⟨hl, he⟩
    · rw [if_neg c] at hk
      have h1 := hW.2.2.2 k e hk
      refine ⟨h1.1, h1.2.kept (hq _ ?_)⟩
      show xa_b G + k ≠ xa_ad G a
      omega
section XE
variable {G : xa_G} {M : xa_M} {d pc : Nat} {loc loc' : List (Option Value)} {st : List Value} {h h' : xa_H} {o : Option Value}
/-- an instruction that writes told cells -/
theorem xa_goW {pc2 : Nat} {st2 : List Value} {h2 : xa_H} (k : xa_V G M d pc2 loc st2 h2 o h') (hn : h2.2 = h.2)
    (f : ∀ (p : Program) (e : Env) (R : Room) (s : State) (m : MethodId) (args : Array Value) (below : List Frame) (meth : Method) (c : Code) (H : Heap) (locs : List Loc) (cells slots : Nat) (Q : State → Prop) (ls : Array Slot), xa_At G M p s m args meth c → xa_lh G ls M.2.2.1 loc → xa_Wd G h H → (∀ q ∈ locs, xa_b G ≤ q.base) →
      (∀ (H1 : Heap) (l1 : Loc), xa_Wd G h2 H1 → xa_b G ≤ l1.base → W p G.1 e R s m args below meth c H1 (locs ++ [l1]) cells slots Q (F0 m pc2 ls (st2.map (xa_sh G)))) → W p G.1 e R s m args below meth c H locs cells slots Q (F0 m pc ls (st.map (xa_sh G)))) : xa_V G M d pc loc st h o h' := by
  refine ⟨by rw [← hn]; exact k.1, by rw [← hn]; exact k.2.1, fun p e R s m args below meth c H locs cells slots ls A h1 h2 h3 h4 hW hL hl => ?_⟩
  refine f p e R s m args below meth c H locs cells slots _ ls A hl hW hL (fun H1 l1 hW1 hl1 => ?_)
  rw [← hn] at h3 h4 ⊢
  refine k.2.2 p e R s m args below meth c H1 (locs ++ [l1]) cells slots ls A h1 h2 h3 h4 hW1 (fun q hq => ?_) hl
  rcases List.mem_append.mp hq with z | z
  · exact hL q z
  · rw [List.mem_singleton.mp z]
    exact hl1
theorem v_put {a k idx : Nat} {cs : List Nat} {v : Value} {ty : FieldType} {fin : Bool} {h2 : xa_H} (hd : decode M.2.1 pc = .ok (.putfield idx, 3)) (hF : ∀ ci ∈ cs, xa_FP M.1.cls idx ci k ty fin) (hin : fin = true → M.1.name = "<init>") (hn : ∀ G : xa_G, narrow ty (xa_sh G v) = xa_sh G v) (hf : ∀ G : xa_G, fits ty (xa_sh G v) = true) (e : xp cs k h a v = some h2) (kk : xa_V G M d (pc + 3) loc st h2 o h') : xa_V G M d pc loc (v :: .ref a :: st) h o h' := by
  obtain ⟨ci, fs, hc, hci, hkl, rfl⟩ := xp_of e
  obtain ⟨C, T, N, ref, ty0, q1, q2, q3, q4, q5, q6, q7, q8, q9, q10⟩ := hF ci hci
  refine xa_goW kk rfl (fun p e R s m args below meth c H locs cells slots Q ls A _ hW hL kk => ?_)
  obtain ⟨h1, r, hr, cell, g1, g2, g3, g4⟩ := xa_at_ad hW hc
  cases hr.symm.trans q1
  have hts := A.2.2.2.2.2.2.2.1
  have hK := A.2.2.2.2.2.2.2.2.1
  have hap := va_apart (own := M.1.cls) hts q3 ty0 q6 q7 hK q1
  have hsame : ∀ x, s.fieldFound? (T k).1 (T k).2.1 (T k).2.2.1 = some x → s.fieldFound? ref (T k).2.1 (T k).2.2.1 = some x := by
    rcases q5 with rfl | q5
    · exact fun _ q => q
    · exact fun x q => u_same (hts _ q5) x q
  obtain ⟨hS, hfc, kC, hkC, hkind⟩ := hK.1 ci _ q1
  obtain ⟨cf, kf, fi, f, hi, hsl⟩ := hS k q2
  have hlt : f.slot < cell.slots.size := by rw [hsl]; exact k2_hasslot (g4 k q2)
  have hst := (u_facts hfc hkC (u_lays hts q3 q2) hi).1
  have hlay := hts _ (q3 _ (u_in_lay q2))
  have key : ∀ H' : Heap, H'[xa_ad G a]? = some (cell.setSlot f.slot (xa_sh G v)) → H'.size = H.size → (∀ q, q ≠ xa_ad G a → H'[q]? = H[q]?) → W p G.1 e R s m args below meth c H' (locs ++ [⟨xa_ad G a, f.slot⟩]) cells slots Q (F0 m (pc + 3) ls (st.map (xa_sh G))) := by
    intro H' e1 e2 e3
    refine kk H' _ (hW.put hc ⟨_, q1, ?_⟩ e2 e3) (by show xa_b G ≤ xa_ad G a; omega)
    rw [hsl] at e1
    refine t_OB.to (V := updV (vp_V (fs.map (xa_sh G))) k (xa_sh G v)) ⟨_, e1, g2, g3, t_set g4 hap q2 _⟩ (fun j _ => ?_)
    rw [vp_updV_set (by rw [List.length_map]; exact hkl)]
    show _ = vp_V ((fs.set k v).map (xa_sh G)) j
    rw [List.map_set]
  unfold u_lay at hlay
  cases fin with
  | true =>
    rw [if_pos q9] at hlay
    have hcf : m.cls = cf := by
      obtain ⟨_, _, z, _, _, _, -, -, ff, -, -, -, oz, -⟩ := Cond.laysFinal_spec hlay
      rw [q10 rfl, A.2.2.2.2.1] at oz
      exact (Option.some.inj oz).trans (congrArg Prod.fst (Option.some.inj (ff.symm.trans hi)))
    have h6 := u_fits hfc hkC hkind (Or.inr hlay) hi q8 (hn G) (hf G)
    exact W.putFinK A.1 A.2.1 A.2.2.2.2.1 (hts _ q4) (hsame _ hi) hst hcf (A.2.2.2.2.2.2.1.trans (hin rfl)) (by rw [g2]; exact h6) g1 g3 hlt rfl rfl hd key
  | false =>
    rw [if_neg (by rw [q9]; decide)] at hlay
    have h6 := u_store hfc hkC hkind hlay hi q8 (hn G) (hf G)
    exact W.putK A.1 A.2.1 (f := f) ⟨A.2.2.2.2.1, hts _ q4, ⟨_, _, _, hsame _ hi⟩, hst⟩ (by rw [g2]; exact h6) g1 g3 hlt rfl rfl hd key
theorem xa_single {D : va_G} {q : Nat × va_E} {H : Heap} (h : va_at D xclasses q H) : va_P D xclasses [q] H := by
  intro j x hx
  have hj : j = 0 := by
    have := (List.getElem?_eq_some_iff.mp hx).1
    simpa using this
  subst hj
  cases hx
  exact h
theorem aI_of {a : Nat} {i : Int32} {x : Int32} (e : aI h a i = some x) : ∃ (n : Nat) (f : Nat → Int32), h.1 a = some (.inl (0, n, .inl f)) ∧ vp_in i n ∧ f i.toNatClampNeg = x := by
  unfold aI at e
  split at e
  · rename_i n f q
    split at e
    · cases e
    · rename_i c
      cases e
      exact ⟨n, f, q, c, rfl⟩
  · cases e
theorem v_ialoadI {a : Nat} {i : Int32} {x : Int32} (hd : decode M.2.1 pc = .ok (.iaload, 1)) (e : aI h a i = some x) (kk : xa_V G M d (pc + 1) loc (.int x :: st) h o h') : xa_V G M d pc loc (.int i :: .ref a :: st) h o h' := by
  obtain ⟨n, f, hc, hin, rfl⟩ := aI_of e
  refine xa_go1 kk (fun p e R s m args below meth c H locs cells slots Q ls A _ hW kk => ?_)
  exact va_iald A.1 A.2.1 A.2.2.2.2.2.2.2.2.1 (xa_single (xa_at_ad hW hc).2) 0 0 rfl rfl hin hd kk
theorem pI_of {a : Nat} {i : Int32} {x : Int32} {h2 : xa_H} (e : pI h a i x = some h2) : ∃ (n : Nat) (f : Nat → Int32), h.1 a = some (.inl (0, n, .inl f)) ∧ vp_in i n ∧ h2 = xu h a (.inl (0, n, .inl (upd f i.toNatClampNeg x))) := by
  unfold pI at e
  split at e
  · rename_i n f q
    split at e
    · cases e
    · rename_i c
      cases e
      exact ⟨n, f, q, c, rfl⟩
  · cases e
theorem v_iastoreI {a : Nat} {i : Int32} {x : Int32} {h2 : xa_H} (hd : decode M.2.1 pc = .ok (.iastore, 1)) (e : pI h a i x = some h2) (kk : xa_V G M d (pc + 1) loc st h2 o h') : xa_V G M d pc loc (.int x :: .int i :: .ref a :: st) h o h' := by
  obtain ⟨n, f, hc, hin, rfl⟩ := pI_of e
  refine xa_goW kk rfl (fun p e R s m args below meth c H locs cells slots Q ls A _ hW hL kk => ?_)
  obtain ⟨h1, h2⟩ := xa_at_ad hW hc
  have hK := A.2.2.2.2.2.2.2.2.1
  refine W.iast A.1 A.2.1 h2 ((hK.2 0 _ rfl).1 n (fun j => .int (f j))) (fun q => (nomatch q)) (xi_lt hin) rfl rfl hd fun H1 e z oq => ?_
  exact kk H1 _ (hW.put hc (e.trans (congrArg some xi_si)) z oq) (by show xa_b G ≤ xa_ad G a; omega)
theorem aB_of {a : Nat} {i : Int32} {x : Int32} (e : aB h a i = some x) : ∃ (n : Nat) (f : Nat → Int32), h.1 a = some (.inl (1, n, .inl f)) ∧ vp_in i n ∧ f i.toNatClampNeg = x := by
  unfold aB at e
  split at e
  · rename_i n f q
    split at e
    · cases e
    · rename_i c
      cases e
      exact ⟨n, f, q, c, rfl⟩
  · cases e
theorem v_baloadB {a : Nat} {i : Int32} {x : Int32} (hd : decode M.2.1 pc = .ok (.baload, 1)) (e : aB h a i = some x) (kk : xa_V G M d (pc + 1) loc (.int x :: st) h o h') : xa_V G M d pc loc (.int i :: .ref a :: st) h o h' := by
  obtain ⟨n, f, hc, hin, rfl⟩ := aB_of e
  refine xa_go1 kk (fun p e R s m args below meth c H locs cells slots Q ls A _ hW kk => ?_)
  exact va_bald A.1 A.2.1 A.2.2.2.2.2.2.2.2.1 (xa_single (xa_at_ad hW hc).2) 0 1 rfl rfl hin hd kk
theorem pB_of {a : Nat} {i : Int32} {x : Int32} {h2 : xa_H} (e : pB h a i x = some h2) : ∃ (n : Nat) (f : Nat → Int32), h.1 a = some (.inl (1, n, .inl f)) ∧ vp_in i n ∧ h2 = xu h a (.inl (1, n, .inl (upd f i.toNatClampNeg (vp_nar .byte x)))) := by
  unfold pB at e
  split at e
  · rename_i n f q
    split at e
    · cases e
    · rename_i c
      cases e
      exact ⟨n, f, q, c, rfl⟩
  · cases e
theorem v_bastoreB {a : Nat} {i : Int32} {x : Int32} {h2 : xa_H} (hd : decode M.2.1 pc = .ok (.bastore, 1)) (e : pB h a i x = some h2) (kk : xa_V G M d (pc + 1) loc st h2 o h') : xa_V G M d pc loc (.int x :: .int i :: .ref a :: st) h o h' := by
  obtain ⟨n, f, hc, hin, rfl⟩ := pB_of e
  refine xa_goW kk rfl (fun p e R s m args below meth c H locs cells slots Q ls A _ hW hL kk => ?_)
  obtain ⟨h1, h2⟩ := xa_at_ad hW hc
  have hK := A.2.2.2.2.2.2.2.2.1
  refine W.bast A.1 A.2.1 h2 ((hK.2 1 _ rfl).1 n (fun j => .int (f j))) (fun q => (nomatch q)) (xi_lt hin) rfl rfl hd fun H1 e z oq => ?_
  exact kk H1 _ (hW.put hc (e.trans (congrArg some (xi_si (v := vp_nar .byte x)))) z oq) (by show xa_b G ≤ xa_ad G a; omega)
theorem aZ_of {a : Nat} {i : Int32} {x : Int32} (e : aZ h a i = some x) : ∃ (n : Nat) (f : Nat → Int32), h.1 a = some (.inl (2, n, .inl f)) ∧ vp_in i n ∧ f i.toNatClampNeg = x := by
  unfold aZ at e
  split at e
  · rename_i n f q
    split at e
    · cases e
    · rename_i c
      cases e
      exact ⟨n, f, q, c, rfl⟩
  · cases e
theorem v_baloadZ {a : Nat} {i : Int32} {x : Int32} (hd : decode M.2.1 pc = .ok (.baload, 1)) (e : aZ h a i = some x) (kk : xa_V G M d (pc + 1) loc (.int x :: st) h o h') : xa_V G M d pc loc (.int i :: .ref a :: st) h o h' := by
  obtain ⟨n, f, hc, hin, rfl⟩ := aZ_of e
  refine xa_go1 kk (fun p e R s m args below meth c H locs cells slots Q ls A _ hW kk => ?_)
  exact va_zald A.1 A.2.1 A.2.2.2.2.2.2.2.2.1 (xa_single (xa_at_ad hW hc).2) 0 2 rfl rfl hin hd kk
theorem pZ_of {a : Nat} {i : Int32} {x : Int32} {h2 : xa_H} (e : pZ h a i x = some h2) : ∃ (n : Nat) (f : Nat → Int32), h.1 a = some (.inl (2, n, .inl f)) ∧ vp_in i n ∧ h2 = xu h a (.inl (2, n, .inl (upd f i.toNatClampNeg (vp_nar .boolean x)))) := by
  unfold pZ at e
  split at e
  · rename_i n f q
    split at e
    · cases e
    · rename_i c
      cases e
      exact ⟨n, f, q, c, rfl⟩
  · cases e
theorem v_bastoreZ {a : Nat} {i : Int32} {x : Int32} {h2 : xa_H} (hd : decode M.2.1 pc = .ok (.bastore, 1)) (e : pZ h a i x = some h2) (kk : xa_V G M d (pc + 1) loc st h2 o h') : xa_V G M d pc loc (.int x :: .int i :: .ref a :: st) h o h' := by
  obtain ⟨n, f, hc, hin, rfl⟩ := pZ_of e
  refine xa_goW kk rfl (fun p e R s m args below meth c H locs cells slots Q ls A _ hW hL kk => ?_)
  obtain ⟨h1, h2⟩ := xa_at_ad hW hc
  have hK := A.2.2.2.2.2.2.2.2.1
  refine W.zast A.1 A.2.1 h2 ((hK.2 2 _ rfl).1 n (fun j => .int (f j))) (fun q => (nomatch q)) (xi_lt hin) rfl rfl hd fun H1 e z oq => ?_
  exact kk H1 _ (hW.put hc (e.trans (congrArg some (xi_si (v := vp_nar .boolean x)))) z oq) (by show xa_b G ≤ xa_ad G a; omega)
theorem aL_of {a : Nat} {i : Int32} {x : Int64} (e : aL h a i = some x) : ∃ (n : Nat) (f : Nat → Int64), h.1 a = some (.inl (3, n, .inr (.inl f))) ∧ vp_in i n ∧ f i.toNatClampNeg = x := by
  unfold aL at e
  split at e
  · rename_i n f q
    split at e
    · cases e
    · rename_i c
      cases e
      exact ⟨n, f, q, c, rfl⟩
  · cases e
theorem v_laloadL {a : Nat} {i : Int32} {x : Int64} (hd : decode M.2.1 pc = .ok (.laload, 1)) (e : aL h a i = some x) (kk : xa_V G M d (pc + 1) loc (.long x :: st) h o h') : xa_V G M d pc loc (.int i :: .ref a :: st) h o h' := by
  obtain ⟨n, f, hc, hin, rfl⟩ := aL_of e
  refine xa_go1 kk (fun p e R s m args below meth c H locs cells slots Q ls A _ hW kk => ?_)
  exact va_lald A.1 A.2.1 A.2.2.2.2.2.2.2.2.1 (xa_single (xa_at_ad hW hc).2) 0 3 rfl rfl hin hd kk
theorem pL_of {a : Nat} {i : Int32} {x : Int64} {h2 : xa_H} (e : pL h a i x = some h2) : ∃ (n : Nat) (f : Nat → Int64), h.1 a = some (.inl (3, n, .inr (.inl f))) ∧ vp_in i n ∧ h2 = xu h a (.inl (3, n, .inr (.inl (vp_updL f i.toNatClampNeg x)))) := by
  unfold pL at e
  split at e
  · rename_i n f q
    split at e
    · cases e
    · rename_i c
      cases e
      exact ⟨n, f, q, c, rfl⟩
  · cases e
theorem v_lastoreL {a : Nat} {i : Int32} {x : Int64} {h2 : xa_H} (hd : decode M.2.1 pc = .ok (.lastore, 1)) (e : pL h a i x = some h2) (kk : xa_V G M d (pc + 1) loc st h2 o h') : xa_V G M d pc loc (.long x :: .int i :: .ref a :: st) h o h' := by
  obtain ⟨n, f, hc, hin, rfl⟩ := pL_of e
  refine xa_goW kk rfl (fun p e R s m args below meth c H locs cells slots Q ls A _ hW hL kk => ?_)
  obtain ⟨h1, h2⟩ := xa_at_ad hW hc
  have hK := A.2.2.2.2.2.2.2.2.1
  refine W.last A.1 A.2.1 h2 ((hK.2 3 _ rfl).1 n (fun j => .long (f j))) (fun q => (nomatch q)) (xi_lt hin) rfl rfl hd fun H1 e z oq => ?_
  exact kk H1 _ (hW.put hc (e.trans (congrArg some xi_sl)) z oq) (by show xa_b G ≤ xa_ad G a; omega)
end XE
