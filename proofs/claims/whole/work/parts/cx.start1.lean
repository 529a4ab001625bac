/-! THE START: classes and array classes -/
section ST1
variable {s : State} {args : Array Value}
theorem arr_at {ty : FieldType} (h : (Cond.arrayClass ty).before args s = true) (hp : ∀ C, ty ≠ .object C) : ∃ cA, ArrOfT s cA ty ∧ va_RA s cA ty := by
  obtain ⟨cB, kB, comp, hcB, hkB, hkind⟩ := Cond.arrayClass_spec h
  refine ⟨cB, fun n z => ⟨fun k h => (by cases h), kB, hkB, comp, hkind⟩, ?_⟩
  cases ty with
  | object C => exact absurd rfl (hp C)
  | _ => exact hcB
theorem arr_ob {C : String} (h : (Cond.arrayOver (.object C)).before args s = true) : ∃ cA, ArrOfT s cA (.object C) ∧ va_RA s cA (.object C) := by
  obtain ⟨comp, c, k, h1, h2, h3, h4, h5⟩ := Cond.arrayOver_spec h
  exact ⟨c, fun n z => ⟨fun k h => (by cases h), k, h3, comp, h4⟩, k, comp, h3, h4, h1, h5⟩
theorem arr_ai (h : xa_AOA s) : ∃ cA, ArrOfT s cA (.array .int) ∧ va_RA s cA (.array .int) := by
  obtain ⟨c, k, q, h1, h2, h3⟩ := h.cls
  exact ⟨c, fun n z => ⟨fun k h => (by cases h), k, h1, q, h2⟩, h3⟩
theorem kn_4 (hts : ∀ w ∈ lw_tbl, w.before args s = true) : ∃ (cC : ClassId) (iS : Nat → Nat), u_Kn s RX4 TX4 0 cC iS := by
  have hi := hts (.instantiable "CrossedFavours$VillageReader" 10) (List.mem_of_getElem? (i := 141) (by decide +kernel))
  obtain ⟨c1, k1, hc1, hk, hord, -⟩ := Cond.instantiable_spec hi
  obtain ⟨cR, k, kR, hcR, hk2, hkR, hsuper, hord2, hordR, hni⟩ := Cond.superclass_spec hc1 (hts (.superclass "CrossedFavours$VillageReader" "CrossedFavours$Reader") (by decide +kernel))
  exact ⟨cR, fun _ => 0, fun k hk => absurd hk (Nat.not_lt_zero _), hcR, kR, hkR, hordR⟩
theorem kn_0 (hts : ∀ w ∈ lw_tbl, w.before args s = true) : ∃ (cC : ClassId) (iS : Nat → Nat), u_Kn s RX0 TX0 9 cC iS :=
  u_known (ws := gws) (n := 9) (fun w hw => hts w (List.mem_filter.mp hw).1) uw_0 (hts _ (List.mem_of_getElem? (i := 150) (by decide +kernel)))
theorem kn_1 (hts : ∀ w ∈ lw_tbl, w.before args s = true) : ∃ (cC : ClassId) (iS : Nat → Nat), u_Kn s RX1 TX1 3 cC iS :=
  u_known (ws := gws) (n := 3) (fun w hw => hts w (List.mem_filter.mp hw).1) uw_1 (hts _ (List.mem_of_getElem? (i := 324) (by decide +kernel)))
theorem kn_2 (hts : ∀ w ∈ lw_tbl, w.before args s = true) : ∃ (cC : ClassId) (iS : Nat → Nat), u_Kn s RX2 TX2 7 cC iS :=
  u_known (ws := gws) (n := 7) (fun w hw => hts w (List.mem_filter.mp hw).1) uw_2 (hts _ (List.mem_of_getElem? (i := 245) (by decide +kernel)))
theorem kn_3 (hts : ∀ w ∈ lw_tbl, w.before args s = true) : ∃ (cC : ClassId) (iS : Nat → Nat), u_Kn s RX3 TX3 6 cC iS :=
  u_known (ws := gws) (n := 6) (fun w hw => hts w (List.mem_filter.mp hw).1) uw_3 (hts _ (List.mem_of_getElem? (i := 340) (by decide +kernel)))
theorem kn_5 (hts : ∀ w ∈ lw_tbl, w.before args s = true) : ∃ (cC : ClassId) (iS : Nat → Nat), u_Kn s RX5 TX5 4 cC iS :=
  u_known (ws := gws) (n := 4) (fun w hw => hts w (List.mem_filter.mp hw).1) uw_5 (hts _ (List.mem_of_getElem? (i := 298) (by decide +kernel)))
theorem kn_6 (hts : ∀ w ∈ lw_tbl, w.before args s = true) : ∃ (cC : ClassId) (iS : Nat → Nat), u_Kn s RX6 TX6 7 cC iS :=
  u_known (ws := gws) (n := 7) (fun w hw => hts w (List.mem_filter.mp hw).1) uw_6 (hts _ (List.mem_of_getElem? (i := 372) (by decide +kernel)))
theorem kn_7 (hts : ∀ w ∈ lw_tbl, w.before args s = true) : ∃ (cC : ClassId) (iS : Nat → Nat), u_Kn s RX7 TX7 4 cC iS :=
  u_known (ws := gws) (n := 4) (fun w hw => hts w (List.mem_filter.mp hw).1) uw_7 (hts _ (List.mem_of_getElem? (i := 451) (by decide +kernel)))
theorem kn_8 (hts : ∀ w ∈ lw_tbl, w.before args s = true) : ∃ (cC : ClassId) (iS : Nat → Nat), u_Kn s RX8 TX8 6 cC iS :=
  u_known (ws := gws) (n := 6) (fun w hw => hts w (List.mem_filter.mp hw).1) uw_8 (hts _ (List.mem_of_getElem? (i := 279) (by decide +kernel)))
theorem kn_9 (hts : ∀ w ∈ lw_tbl, w.before args s = true) : ∃ (cC : ClassId) (iS : Nat → Nat), u_Kn s RX9 TX9 10 cC iS :=
  u_known (ws := gws) (n := 10) (fun w hw => hts w (List.mem_filter.mp hw).1) uw_9 (hts _ (List.mem_of_getElem? (i := 141) (by decide +kernel)))
theorem kn_10 (hts : ∀ w ∈ lw_tbl, w.before args s = true) : ∃ (cC : ClassId) (iS : Nat → Nat), u_Kn s RX10 TX10 11 cC iS :=
  u_known (ws := gws) (n := 11) (fun w hw => hts w (List.mem_filter.mp hw).1) uw_10 (hts _ (List.mem_of_getElem? (i := 404) (by decide +kernel)))
theorem kn_11 (hts : ∀ w ∈ lw_tbl, w.before args s = true) : ∃ (cC : ClassId) (iS : Nat → Nat), u_Kn s RX11 TX11 19 cC iS :=
  u_known (ws := gws) (n := 19) (fun w hw => hts w (List.mem_filter.mp hw).1) uw_11 (hts _ (List.mem_of_getElem? (i := 133) (by decide +kernel)))
theorem kn_12 (hts : ∀ w ∈ lw_tbl, w.before args s = true) : ∃ (cC : ClassId) (iS : Nat → Nat), u_Kn s RX12 TX12 57 cC iS :=
  u_known (ws := gws) (n := 57) (fun w hw => hts w (List.mem_filter.mp hw).1) uw_12 (hts _ (List.mem_of_getElem? (i := 1289) (by decide +kernel)))
theorem kn_all (hts : ∀ w ∈ lw_tbl, w.before args s = true) : ∃ (dC : Nat → ClassId) (dI : Nat → Nat → Nat), ∀ (k : Nat) (q : vw_C), xclasses[k]? = some q → u_Kn s q.1 q.2.1 q.2.2 (dC k) (dI k) := by
  obtain ⟨c0, i0, h0⟩ := kn_0 hts
  obtain ⟨c1, i1, h1⟩ := kn_1 hts
  obtain ⟨c2, i2, h2⟩ := kn_2 hts
  obtain ⟨c3, i3, h3⟩ := kn_3 hts
  obtain ⟨c4, i4, h4⟩ := kn_4 hts
  obtain ⟨c5, i5, h5⟩ := kn_5 hts
  obtain ⟨c6, i6, h6⟩ := kn_6 hts
  obtain ⟨c7, i7, h7⟩ := kn_7 hts
  obtain ⟨c8, i8, h8⟩ := kn_8 hts
  obtain ⟨c9, i9, h9⟩ := kn_9 hts
  obtain ⟨c10, i10, h10⟩ := kn_10 hts
  obtain ⟨c11, i11, h11⟩ := kn_11 hts
  obtain ⟨c12, i12, h12⟩ := kn_12 hts
  refine ⟨fun k => [c0, c1, c2, c3, c4, c5, c6, c7, c8, c9, c10, c11, c12].getD k 0, fun k => [i0, i1, i2, i3, i4, i5, i6, i7, i8, i9, i10, i11, i12].getD k (fun _ => 0), fun k q hq => ?_⟩
  match k, hq with
  | 0, hq => cases hq; exact h0
  | 1, hq => cases hq; exact h1
  | 2, hq => cases hq; exact h2
  | 3, hq => cases hq; exact h3
  | 4, hq => cases hq; exact h4
  | 5, hq => cases hq; exact h5
  | 6, hq => cases hq; exact h6
  | 7, hq => cases hq; exact h7
  | 8, hq => cases hq; exact h8
  | 9, hq => cases hq; exact h9
  | 10, hq => cases hq; exact h10
  | 11, hq => cases hq; exact h11
  | 12, hq => cases hq; exact h12
  | k + 13, hq => simp [xclasses] at hq
theorem ty_all (hts : ∀ w ∈ lw_tbl, w.before args s = true) : ∃ dA : Nat → ClassId, ∀ (k : Nat) (q : ClassId × FieldType), ([(dA 0, .int), (dA 1, .byte), (dA 2, .boolean), (dA 3, .long), (dA 4, .object "CrossedFavours$Board"), (dA 5, .array .int)] : List (ClassId × FieldType))[k]? = some q → ArrOfT s q.1 q.2 ∧ va_RA s q.1 q.2 := by
  obtain ⟨a0, h0⟩ := arr_at (hts (.arrayClass .int) (List.mem_of_getElem? (i := 199) (by decide +kernel))) (fun C z => by cases z)
  obtain ⟨a1, h1⟩ := arr_at (hts (.arrayClass .byte) (List.mem_of_getElem? (i := 277) (by decide +kernel))) (fun C z => by cases z)
  obtain ⟨a2, h2⟩ := arr_at (hts (.arrayClass .boolean) (List.mem_of_getElem? (i := 402) (by decide +kernel))) (fun C z => by cases z)
  obtain ⟨a3, h3⟩ := arr_at (hts (.arrayClass .long) (List.mem_of_getElem? (i := 449) (by decide +kernel))) (fun C z => by cases z)
  obtain ⟨a4, h4⟩ := arr_ob (hts (.arrayOver (.object "CrossedFavours$Board")) (List.mem_of_getElem? (i := 346) (by decide +kernel)))
  obtain ⟨a5, h5⟩ := arr_ai (s := s) (hts (.arrayOver (.array .int)) (List.mem_of_getElem? (i := 304) (by decide +kernel)))
  refine ⟨fun k => [a0, a1, a2, a3, a4, a5].getD k 0, fun k q hq => ?_⟩
  match k, hq with
  | 0, hq => cases hq; exact h0
  | 1, hq => cases hq; exact h1
  | 2, hq => cases hq; exact h2
  | 3, hq => cases hq; exact h3
  | 4, hq => cases hq; exact h4
  | 5, hq => cases hq; exact h5
  | k + 6, hq => simp at hq
end ST1
