/-! THE START: statics and String constants -/
def nwd : List Cond := flatC (Jvm.Cond.and given_1 narrow_1)
def tmS (j : Nat) : Term := ([.string "CrossedFavours$LawReader" 11, .string "CrossedFavours$VillageReader" 107, .string "CrossedFavours$LawReader" 76, .string "CrossedFavours" 163, .string "CrossedFavours" 189, .string "CrossedFavoursModel" 26, .string "CrossedFavoursModel" 266, .string "CrossedFavoursModel" 272, .string "CrossedFavoursModel" 274] : List Term).getD j (.int 0)
def tmA (q : Nat × String × List Int32) : Term := .static "CrossedFavours$VillageReader" q.2.1 "[I"
theorem sw_1 : ∀ q ∈ xa_sta, Cond.arrayOf (tmA q) .int ∈ nwd ∧ Cond.eq (.length (tmA q)) (.int (Int32.ofNat q.2.2.length)) ∈ nwd ∧ Cond.laysStatic "CrossedFavours$VillageReader" q.2.1 "[I" ∈ lw_tbl ∧ q.2.2.length < 2 ^ 31 := by decide +kernel
theorem sw_2 : ∀ q ∈ xa_sta, ∀ j, j < q.2.2.length → Cond.eq (.elem (tmA q) (.int (Int32.ofNat j))) (.int (q.2.2.getD j 0)) ∈ nwd := by decide +kernel
theorem sw_3 : ∀ j, j < 9 → Cond.exactly (tmS j) "java/lang/String" ∈ nwd ∧ Cond.eq (.field (tmS j) "java/lang/String" "coder" "B") (.int 0) ∈ nwd ∧ Cond.arrayOf (.field (tmS j) "java/lang/String" "value" "[B") .byte ∈ nwd ∧ Cond.eq (.length (.field (tmS j) "java/lang/String" "value" "[B")) (.int (Int32.ofNat (xs_tab.getD j []).length)) ∈ nwd ∧ (xs_tab.getD j []).length < 2 ^ 31 := by decide +kernel
theorem sw_4 : ∀ j, j < 9 → ∀ i, i < (xs_tab.getD j []).length → Cond.eq (.elem (.field (tmS j) "java/lang/String" "value" "[B") (.int (Int32.ofNat i))) (.int ((xs_tab.getD j []).getD i 0)) ∈ nwd := by decide +kernel
theorem sw_5 : ∀ q ∈ xs_ref, Cond.stringRef q.1 q.2.1 q.2.2.1 ∈ lw_tbl ∧ q.2.2.2 < 9 ∧ (Term.string q.1 q.2.1 = tmS q.2.2.2 ∨ Cond.eq (tmS q.2.2.2) (Term.string q.1 q.2.1) ∈ nwd) := by decide +kernel
theorem sw_6 : Cond.eq (.static "java/lang/String" "COMPACT_STRINGS" "Z") (.int 1) ∈ nwd ∧ Cond.isRef (.static "jdk/internal/util/Preconditions" "SIOOBE_FORMATTER" "Ljava/util/function/BiFunction;") ∈ nwd ∧ Cond.isRef (.static Bundle.tN "UNASSIGNED_STACK" Bundle.steD) ∈ nwd ∧ Cond.isRef (.static Bundle.tN "SUPPRESSED_SENTINEL" Bundle.listD) ∈ nwd := by decide +kernel
theorem sw_7 : Cond.laysStatic "java/lang/String" "COMPACT_STRINGS" "Z" ∈ lw_tbl ∧ Cond.laysStatic "jdk/internal/util/Preconditions" "SIOOBE_FORMATTER" "Ljava/util/function/BiFunction;" ∈ lw_tbl ∧ Cond.laysStatic Bundle.tN "UNASSIGNED_STACK" Bundle.steD ∈ lw_tbl ∧ Cond.laysStatic Bundle.tN "SUPPRESSED_SENTINEL" Bundle.listD ∈ lw_tbl := by decide +kernel
theorem sw_8 : Cond.initialized "java/lang/String" ∈ lw_tbl ∧ Cond.initialized "jdk/internal/util/Preconditions" ∈ lw_tbl ∧ Cond.initialized Bundle.tN ∈ lw_tbl ∧ Cond.initialized "CrossedFavours$VillageReader" ∈ lw_tbl := by decide +kernel
section ST2
variable {s : State} {args : Array Value} {A : Nat → Prop}
theorem sta_at (hts : ∀ w ∈ lw_tbl, w.before args s = true) (hn : ∀ w ∈ nwd, w.before args s = true) (hA : ∀ a : Nat, a < s.heap.size → ¬ A a) {q : Nat × String × List Int32} (hq : q ∈ xa_sta) : ∃ t : Nat, va_Z "CrossedFavours$VillageReader" q.2.1 "[I" (.ref t) A s s.heap ∧ va_T .int t q.2.2.length (fun j => .int (q.2.2.getD j 0)) A s s.heap := by
  obtain ⟨h1, h2, h3, h4⟩ := sw_1 q hq
  obtain ⟨t, ht, hT⟩ := va_Tof (f := fun j => .int (q.2.2.getD j 0)) (A := A) h4 (hn _ h1) (va_eqt (hn _ h2)) (fun j hj => va_eqt (hn _ (sw_2 q hq j hj))) hA
  exact ⟨t, va_Zof (hts _ h3) (hts _ sw_8.2.2.2) ht hA, hT⟩
theorem str_at (hn : ∀ w ∈ nwd, w.before args s = true) (hA : ∀ a : Nat, a < s.heap.size → ¬ A a) {j : Nat} (hj : j < 9) : ∃ q : Nat × Nat, (tmS j).eval args s none [] s = some (.ref q.1) ∧ va_O "java/lang/String" q.1 A s s.heap ∧ va_OF "java/lang/String" "coder" "B" (.int 0) q.1 A s s.heap ∧ va_OF "java/lang/String" "value" "[B" (.ref q.2) q.1 A s s.heap ∧ va_T .byte q.2 (xs_tab.getD j []).length (fun i => .int ((xs_tab.getD j []).getD i 0)) A s s.heap := by
  obtain ⟨h1, h2, h3, h4, h5⟩ := sw_3 j hj
  have hex := Cond.exactly_spec (first := s) (o := none) (idx := []) (hn _ h1)
  obtain ⟨b, hb, hT⟩ := va_Tof (f := fun i => .int ((xs_tab.getD j []).getD i 0)) h5 (hn _ h3) (va_eqt (hn _ h4)) (fun i hi => va_eqt (hn _ (sw_4 j hj i hi))) hA
  obtain ⟨a, _, _, _, ha, -⟩ := hex
  exact ⟨(a, b), ha, va_Oof (hn _ h1) ha hA, vk_OFof ha (va_eqt (hn _ h2)) hA, vk_OFof ha hb hA, hT⟩
theorem str_all (hn : ∀ w ∈ nwd, w.before args s = true) (hA : ∀ a : Nat, a < s.heap.size → ¬ A a) : ∃ ak av : Nat → Nat, ∀ j, j < 9 → (tmS j).eval args s none [] s = some (.ref (ak j)) ∧ va_O "java/lang/String" (ak j) A s s.heap ∧ va_OF "java/lang/String" "coder" "B" (.int 0) (ak j) A s s.heap ∧ va_OF "java/lang/String" "value" "[B" (.ref (av j)) (ak j) A s s.heap ∧ va_T .byte (av j) (xs_tab.getD j []).length (fun i => .int ((xs_tab.getD j []).getD i 0)) A s s.heap := by
  have h0 : ∀ j : Nat, ∃ q : Nat × Nat, j < 9 → (tmS j).eval args s none [] s = some (.ref q.1) ∧ va_O "java/lang/String" q.1 A s s.heap ∧ va_OF "java/lang/String" "coder" "B" (.int 0) q.1 A s s.heap ∧ va_OF "java/lang/String" "value" "[B" (.ref q.2) q.1 A s s.heap ∧ va_T .byte q.2 (xs_tab.getD j []).length (fun i => .int ((xs_tab.getD j []).getD i 0)) A s s.heap := fun j => by
    by_cases hj : j < 9
    · obtain ⟨q, hq⟩ := str_at hn hA hj
      exact ⟨q, fun _ => hq⟩
    · exact ⟨(0, 0), fun h => absurd h hj⟩
  obtain ⟨ad, had⟩ := Classical.axiomOfChoice h0
  exact ⟨fun i => (ad i).1, fun i => (ad i).2, fun j hj => had j hj⟩
theorem ref_at (hts : ∀ w ∈ lw_tbl, w.before args s = true) (hn : ∀ w ∈ nwd, w.before args s = true) {ak : Nat → Nat} (hk : ∀ j, j < 9 → (tmS j).eval args s none [] s = some (.ref (ak j))) : ∀ q ∈ xs_ref, vk_R q.1 q.2.1 q.2.2.1 (ak q.2.2.2) s := fun q hq => by
  obtain ⟨h1, h2, h3⟩ := sw_5 q hq
  refine vk_R.of (A := args) (hts _ h1) ?_
  rcases h3 with h | h
  · rw [h]
    exact hk _ h2
  · exact va_eqR (hn _ h) (hk _ h2)
def exF (b sf : Nat) (st ak av : Nat → Nat) (k : Nat) : Nat := if k < 4 then st k else if k = 5 then sf else if k = 6 then b else if k < 40 then ak (k - 10) else av (k - 40)
theorem exF_k {b sf : Nat} {st ak av : Nat → Nat} {j : Nat} (hj : j < 9) : exF b sf st ak av (10 + j) = ak j := by
  unfold exF
  rw [if_neg (by omega), if_neg (by omega), if_neg (by omega), if_pos (by omega), show 10 + j - 10 = j by omega]
theorem exF_v {b sf : Nat} {st ak av : Nat → Nat} {j : Nat} : exF b sf st ak av (40 + j) = av j := by
  unfold exF
  rw [if_neg (by omega), if_neg (by omega), if_neg (by omega), if_neg (by omega), show 40 + j - 40 = j by omega]
end ST2
