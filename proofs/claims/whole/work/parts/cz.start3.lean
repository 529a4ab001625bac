/-! THE START: all of it, and the law from its entry -/
theorem no_tr {l : Launch} (h : l.flags = flags0) : l.stackTraces = false := by
  unfold Launch.stackTraces
  rw [h]
  decide +kernel
theorem en_at {l : Launch} {s : State} {b : Nat} (hts : ∀ w ∈ lw_tbl, w.before #[Value.ref b] s = true) (hn : ∀ w ∈ nwd, w.before #[Value.ref b] s = true) : ∃ G : xa_G, G.1 = l ∧ xa_b G = s.heap.size ∧ G.2.2.2.2.2 = s.heap ∧ G.2.2.2.2.1 6 = b ∧ xa_En G s := by
  obtain ⟨dC, dI, hC⟩ := kn_all hts
  obtain ⟨dA, hT⟩ := ty_all hts
  have hA : ∀ a : Nat, a < s.heap.size → ¬ (fun q : Nat => s.heap.size ≤ q) a := fun a h => Nat.not_le.mpr h
  obtain ⟨t1, a1, b1⟩ := sta_at (A := fun q : Nat => s.heap.size ≤ q) hts hn hA (q := (1, "LOWEST", [0, 1, 1, 0, 0, 0, 0, 1])) (by decide)
  obtain ⟨t2, a2, b2⟩ := sta_at (A := fun q : Nat => s.heap.size ≤ q) hts hn hA (q := (2, "HIGHEST", [99, 99, 9, 9, 1, 5, 5, 9])) (by decide)
  obtain ⟨t3, a3, b3⟩ := sta_at (A := fun q : Nat => s.heap.size ≤ q) hts hn hA (q := (3, "USUAL", [20, 20, 1, 2, 0, 0, 1, 1])) (by decide)
  obtain ⟨ak, av, hS⟩ := str_all (A := fun q : Nat => s.heap.size ≤ q) hn hA
  have hR := ref_at hts hn (fun j hj => (hS j hj).1)
  have hZ := va_Zqof (A := fun q : Nat => s.heap.size ≤ q) (hts _ sw_7.2.1) (hts _ sw_8.2.1) (hn _ sw_6.2.1) hA
  obtain ⟨sf, hsf⟩ : ∃ sf : Nat, va_Z "jdk/internal/util/Preconditions" "SIOOBE_FORMATTER" "Ljava/util/function/BiFunction;" .null (fun q : Nat => s.heap.size ≤ q) s s.heap ∨ va_Z "jdk/internal/util/Preconditions" "SIOOBE_FORMATTER" "Ljava/util/function/BiFunction;" (.ref sf) (fun q : Nat => s.heap.size ≤ q) s s.heap := by
    rcases hZ with h | ⟨t, h⟩
    · exact ⟨0, Or.inl h⟩
    · exact ⟨t, Or.inr h⟩
  have hCS : va_Z "java/lang/String" "COMPACT_STRINGS" "Z" (.int 1) (fun q : Nat => s.heap.size ≤ q) s s.heap := va_Zof (hts _ sw_7.1) (hts _ sw_8.1) (va_eqt (hn _ sw_6.1)) hA
  have hU := vx_Zqof (A := fun q : Nat => s.heap.size ≤ q) (hts _ sw_7.2.2.1) (hts _ sw_8.2.2.1) (hn _ sw_6.2.2.1) hA
  have hN := vx_Zqof (A := fun q : Nat => s.heap.size ≤ q) (hts _ sw_7.2.2.2) (hts _ sw_8.2.2.1) (hn _ sw_6.2.2.2) hA
  refine ⟨(l, (dC, dI), dA, s.heap.size, exF b sf (fun k => [0, t1, t2, t3].getD k 0) ak av, s.heap), rfl, rfl, rfl, rfl, ⟨hC, hT⟩, fun w hw => va_Nw.of (nx_tab w hw) (hts w (List.mem_filter.mp hw).1), fun q hq => ?_, ⟨fun j hj => ?_, fun q hq => ?_, hCS, hsf, hU, hN⟩, va_AO.of (hts _ (List.mem_of_getElem? (i := 346) (by decide +kernel))), hts (.arrayOver (.array .int)) (List.mem_of_getElem? (i := 304) (by decide +kernel))⟩
  · have h3 : q = (1, "LOWEST", [0, 1, 1, 0, 0, 0, 0, 1]) ∨ q = (2, "HIGHEST", [99, 99, 9, 9, 1, 5, 5, 9]) ∨ q = (3, "USUAL", [20, 20, 1, 2, 0, 0, 1, 1]) := by
      simpa only [xa_sta, List.mem_cons, List.not_mem_nil, or_false] using hq
    rcases h3 with rfl | rfl | rfl
    · exact ⟨a1, b1⟩
    · exact ⟨a2, b2⟩
    · exact ⟨a3, b3⟩
  · obtain ⟨-, s1, s2, s3, s4⟩ := hS j hj
    show va_O "java/lang/String" (exF b sf (fun k => [0, t1, t2, t3].getD k 0) ak av (10 + j)) (fun q : Nat => s.heap.size ≤ q) s s.heap ∧ va_OF "java/lang/String" "coder" "B" (.int 0) (exF b sf (fun k => [0, t1, t2, t3].getD k 0) ak av (10 + j)) (fun q : Nat => s.heap.size ≤ q) s s.heap ∧ va_OF "java/lang/String" "value" "[B" (.ref (exF b sf (fun k => [0, t1, t2, t3].getD k 0) ak av (40 + j))) (exF b sf (fun k => [0, t1, t2, t3].getD k 0) ak av (10 + j)) (fun q : Nat => s.heap.size ≤ q) s s.heap ∧ va_T .byte (exF b sf (fun k => [0, t1, t2, t3].getD k 0) ak av (40 + j)) (xs_tab.getD j []).length (fun i => .int ((xs_tab.getD j []).getD i 0)) (fun q : Nat => s.heap.size ≤ q) s s.heap
    rw [exF_k hj, exF_v]
    exact ⟨s1, s2, s3, s4⟩
  · show vk_R q.1 q.2.1 q.2.2.1 (exF b sf (fun k => [0, t1, t2, t3].getD k 0) ak av (10 + q.2.2.2)) s
    rw [exF_k (sw_5 q hq).2.1]
    exact hR q hq
/-- from the entry, for every script of at most 3072 ints, the law comes to its end with true -/
theorem whole_start {p : Program} {e : Env} {s : State} {m : MethodId} {below : List Frame} {meth : Method} {c : Code} (l : Launch) (hflags : l.flags = flags0) {b L : Nat} {xs : Nat → Int32} (hL : L ≤ 3072) (C0 : lw_At p s m meth c b L xs) : W p l e room_1 s m #[Value.ref b] below meth c s.heap [] 0 0 (lw_Z below #[Value.ref b] s) (entryFrame m ([Value.ref b] : List Value).toArray 7) := by
  obtain ⟨hx, hb, hr, hml, hown, hts, hX, hbl, hlocks, hgv⟩ := C0
  obtain ⟨G, g1, g2, g3, g4, hE⟩ := en_at (l := l) (b := b) hts (fun w hw => flat_of_before _ hgv w hw)
  subst g1
  have hS : lwS G b L := ⟨g4, by rw [g2]; exact hbl, hL⟩
  have htr := no_tr hflags
  have hb0 : G.2.2.2.2.2.size = xa_b G := by rw [g3, g2]
  have hav : (([.ref 1000000006] : List Value).map (xa_sh G)) = [Value.ref b] := by
    show [Value.ref (xa_ad G 1000000006)] = [Value.ref b]
    rw [lw_ad hS]
  have hW : xa_Wd G (hl [] 0) s.heap := ⟨by rw [g2]; rfl, by decide, fun q hq => by rw [g3], fun k e he => by cases he⟩
  have key := xl_ent (M := M_L_law) (P0 := lwP G b L xs) (av := [.ref 1000000006]) (loc := lwl0) (R := room_1) (Z := lwZ b) (e := e) (below := below) (p := p) (s := s) (m := m) (meth := meth) (c := c) rfl (Nat.le_of_ble_eq_true rfl) (lw_b1 (xs := xs) htr hb0 hS)
  rw [hav] at key
  have k2 := key ⟨hx, hb, hr, hml, hown, hlocks, ⟨by rw [g3]; exact hX, g2.symm⟩, fun w hw => hts w (List.mem_filter.mp hw).1, hE⟩ hW
  intro T hT X
  obtain ⟨t, q1, q2⟩ := k2 T hT X
  exact ⟨t, q1, q2 rfl⟩
