theorem fl_9_12 : ∀ ci ∈ [9], xa_FL RX9 12 ci 4 := fun ci hc => by
  cases List.mem_singleton.mp hc
  exact ⟨RX9, TX9, 10, "CrossedFavours$VillageReader", rfl, by decide, uw_9, gws_at 200 (by decide +kernel) rfl, Or.inl rfl⟩
theorem fl_9_83 : ∀ ci ∈ [0], xa_FL RX9 83 ci 4 := fun ci hc => by
  cases List.mem_singleton.mp hc
  exact ⟨RX0, TX0, 9, "CrossedFavours$Board", rfl, by decide, uw_0, gws_at 167 (by decide +kernel) rfl, Or.inl rfl⟩
theorem fl_9_30 : ∀ ci ∈ [9], xa_FL RX9 30 ci 8 := fun ci hc => by
  cases List.mem_singleton.mp hc
  exact ⟨RX9, TX9, 10, "CrossedFavours$VillageReader", rfl, by decide, uw_9, gws_at 205 (by decide +kernel) rfl, Or.inl rfl⟩
theorem fl_9_33 : ∀ ci ∈ [9], xa_FL RX9 33 ci 9 := fun ci hc => by
  cases List.mem_singleton.mp hc
  exact ⟨RX9, TX9, 10, "CrossedFavours$VillageReader", rfl, by decide, uw_9, gws_at 206 (by decide +kernel) rfl, Or.inl rfl⟩
theorem ml_9_145 : Cond.methodLink RX9 145 yX0_mostBetweenTwo ∈ gws := gws_at 680 (by decide +kernel) rfl
theorem im_X0_mostBetweenTwo : Cond.instanceMethod yX0_mostBetweenTwo ∈ gws := gws_at 681 (by decide +kernel) rfl
theorem se_0_X0_mostBetweenTwo : ∀ ci ∈ [0], ∃ (C : String) (T : u_T) (N : Nat), xclasses[ci]? = some (C, T, N) ∧ Cond.selects C yX0_mostBetweenTwo yX0_mostBetweenTwo ∈ gws := fun ci hc => by
  cases List.mem_singleton.mp hc
  exact ⟨RX0, TX0, 9, rfl, gws_at 682 (by decide +kernel) rfl⟩
theorem fl_9_70 : ∀ ci ∈ [0], xa_FL RX9 70 ci 5 := fun ci hc => by
  cases List.mem_singleton.mp hc
  exact ⟨RX0, TX0, 9, "CrossedFavours$Board", rfl, by decide, uw_0, gws_at 170 (by decide +kernel) rfl, Or.inl rfl⟩
theorem fl_9_54 : ∀ ci ∈ [9], xa_FL RX9 54 ci 3 := fun ci hc => by
  cases List.mem_singleton.mp hc
  exact ⟨RX9, TX9, 10, "CrossedFavours$VillageReader", rfl, by decide, uw_9, gws_at 217 (by decide +kernel) rfl, Or.inr (gws_at 218 (by decide +kernel) rfl)⟩
theorem gs_9_118 : Cond.fieldLink RX9 118 "CrossedFavours$VillageReader" "LOWEST" "[I" ∈ gws := gws_at 645 (by decide +kernel) rfl
theorem gs_9_121 : Cond.fieldLink RX9 121 "CrossedFavours$VillageReader" "HIGHEST" "[I" ∈ gws := gws_at 647 (by decide +kernel) rfl
theorem gs_9_64 : Cond.fieldLink RX9 64 "CrossedFavours$VillageReader" "USUAL" "[I" ∈ gws := gws_at 572 (by decide +kernel) rfl
theorem fl_9_92 : ∀ ci ∈ [9], xa_FL RX9 92 ci 2 := fun ci hc => by
  cases List.mem_singleton.mp hc
  exact ⟨RX9, TX9, 10, "CrossedFavours$VillageReader", rfl, by decide, uw_9, gws_at 212 (by decide +kernel) rfl, Or.inr (gws_at 213 (by decide +kernel) rfl)⟩
theorem fp_9_92 : ∀ ci ∈ [9], xa_FP RX9 92 ci 2 (.int) false := fun ci hc => by
  cases List.mem_singleton.mp hc
  exact ⟨RX9, TX9, 10, "CrossedFavours$VillageReader", tyX9, rfl, by decide, uw_9, gws_at 212 (by decide +kernel) rfl, Or.inr (gws_at 213 (by decide +kernel) rfl), tyX9_ok, nmX9, tyX9_ok 2 (by decide), rfl, fun z => by cases z⟩
theorem fp_9_54 : ∀ ci ∈ [9], xa_FP RX9 54 ci 3 (.boolean) false := fun ci hc => by
  cases List.mem_singleton.mp hc
  exact ⟨RX9, TX9, 10, "CrossedFavours$VillageReader", tyX9, rfl, by decide, uw_9, gws_at 217 (by decide +kernel) rfl, Or.inr (gws_at 218 (by decide +kernel) rfl), tyX9_ok, nmX9, tyX9_ok 3 (by decide), rfl, fun z => by cases z⟩
theorem ml_9_109 : Cond.methodLink RX9 109 yJ0_length_8abf5 ∈ gws := gws_at 592 (by decide +kernel) rfl
theorem ml_9_114 : Cond.methodLink RX9 114 yJ0_charAt_5068e ∈ gws := gws_at 593 (by decide +kernel) rfl
theorem fl_9_18 : ∀ ci ∈ [9], xa_FL RX9 18 ci 5 := fun ci hc => by
  cases List.mem_singleton.mp hc
  exact ⟨RX9, TX9, 10, "CrossedFavours$VillageReader", rfl, by decide, uw_9, gws_at 202 (by decide +kernel) rfl, Or.inl rfl⟩
theorem sm2_9_X4_peek : Cond.sameMethod "CrossedFavours$VillageReader" "CrossedFavours$Reader" "peek" "()I" ∈ gws := gws_at 579 (by decide +kernel) rfl
theorem ml_9_73 : Cond.methodLink RX9 73 (⟨"CrossedFavours$VillageReader", "peek", "()I"⟩ : MethodName) ∈ gws := gws_at 578 (by decide +kernel) rfl
theorem se_9_X4_peek_9 : ∀ ci ∈ [9], ∃ (C : String) (T : u_T) (N : Nat), xclasses[ci]? = some (C, T, N) ∧ Cond.selects C (⟨"CrossedFavours$VillageReader", "peek", "()I"⟩ : MethodName) yX4_peek ∈ gws := fun ci hc => by
  cases List.mem_singleton.mp hc
  exact ⟨RX9, TX9, 10, rfl, gws_at 581 (by decide +kernel) rfl⟩
theorem ml_9_95 : Cond.methodLink RX9 95 yX9_itemOf ∈ gws := gws_at 588 (by decide +kernel) rfl
theorem sm_X9_itemOf : Cond.static yX9_itemOf ∈ gws := gws_at 589 (by decide +kernel) rfl
theorem sm2_9_X4_number : Cond.sameMethod "CrossedFavours$VillageReader" "CrossedFavours$Reader" "number" "(I)I" ∈ gws := gws_at 632 (by decide +kernel) rfl
theorem ml_9_99 : Cond.methodLink RX9 99 (⟨"CrossedFavours$VillageReader", "number", "(I)I"⟩ : MethodName) ∈ gws := gws_at 631 (by decide +kernel) rfl
theorem im_X4_number : Cond.instanceMethod yX4_number ∈ gws := gws_at 635 (by decide +kernel) rfl
theorem se_9_X4_number_9 : ∀ ci ∈ [9], ∃ (C : String) (T : u_T) (N : Nat), xclasses[ci]? = some (C, T, N) ∧ Cond.selects C (⟨"CrossedFavours$VillageReader", "number", "(I)I"⟩ : MethodName) yX4_number ∈ gws := fun ci hc => by
  cases List.mem_singleton.mp hc
  exact ⟨RX9, TX9, 10, rfl, gws_at 634 (by decide +kernel) rfl⟩
theorem ml_9_103 : Cond.methodLink RX9 103 yX9_bounded ∈ gws := gws_at 641 (by decide +kernel) rfl
theorem im_X9_bounded : Cond.instanceMethod yX9_bounded ∈ gws := gws_at 643 (by decide +kernel) rfl
theorem se_9_X9_bounded : ∀ ci ∈ [9], ∃ (C : String) (T : u_T) (N : Nat), xclasses[ci]? = some (C, T, N) ∧ Cond.selects C yX9_bounded yX9_bounded ∈ gws := fun ci hc => by
  cases List.mem_singleton.mp hc
  exact ⟨RX9, TX9, 10, rfl, gws_at 4 (by decide +kernel) rfl⟩
theorem fl_9_26 : ∀ ci ∈ [9], xa_FL RX9 26 ci 7 := fun ci hc => by
  cases List.mem_singleton.mp hc
  exact ⟨RX9, TX9, 10, "CrossedFavours$VillageReader", rfl, by decide, uw_9, gws_at 204 (by decide +kernel) rfl, Or.inl rfl⟩
theorem fp_9_26 : ∀ ci ∈ [9], xa_FP RX9 26 ci 7 (.int) false := fun ci hc => by
  cases List.mem_singleton.mp hc
  exact ⟨RX9, TX9, 10, "CrossedFavours$VillageReader", tyX9, rfl, by decide, uw_9, gws_at 204 (by decide +kernel) rfl, Or.inl rfl, tyX9_ok, nmX9, tyX9_ok 7 (by decide), rfl, fun z => by cases z⟩
theorem mw_9_133 : xa_mw RX9 133 Lib.Math.max.name Lib.Math.max.code 2 (some .int) := ⟨gws_at 661 (by decide +kernel) rfl, gws_at 562 (by decide +kernel) rfl, gws_at 123 (by decide +kernel) rfl, gws_at 563 (by decide +kernel) rfl⟩
theorem fp_9_30 : ∀ ci ∈ [9], xa_FP RX9 30 ci 8 (.int) false := fun ci hc => by
  cases List.mem_singleton.mp hc
  exact ⟨RX9, TX9, 10, "CrossedFavours$VillageReader", tyX9, rfl, by decide, uw_9, gws_at 205 (by decide +kernel) rfl, Or.inl rfl, tyX9_ok, nmX9, tyX9_ok 8 (by decide), rfl, fun z => by cases z⟩
theorem ml_9_138 : Cond.methodLink RX9 138 yX0_debt ∈ gws := gws_at 662 (by decide +kernel) rfl
theorem ml_9_141 : Cond.methodLink RX9 141 yX0_setDebt ∈ gws := gws_at 666 (by decide +kernel) rfl
theorem fp_9_33 : ∀ ci ∈ [9], xa_FP RX9 33 ci 9 (.boolean) false := fun ci hc => by
  cases List.mem_singleton.mp hc
  exact ⟨RX9, TX9, 10, "CrossedFavours$VillageReader", tyX9, rfl, by decide, uw_9, gws_at 206 (by decide +kernel) rfl, Or.inl rfl, tyX9_ok, nmX9, tyX9_ok 9 (by decide), rfl, fun z => by cases z⟩
theorem fl_9_124 : ∀ ci ∈ [0], xa_FL RX9 124 ci 1 := fun ci hc => by
  cases List.mem_singleton.mp hc
  exact ⟨RX0, TX0, 9, "CrossedFavours$Board", rfl, by decide, uw_0, gws_at 157 (by decide +kernel) rfl, Or.inl rfl⟩
theorem fl_9_127 : ∀ ci ∈ [0], xa_FL RX9 127 ci 2 := fun ci hc => by
  cases List.mem_singleton.mp hc
  exact ⟨RX0, TX0, 9, "CrossedFavours$Board", rfl, by decide, uw_0, gws_at 160 (by decide +kernel) rfl, Or.inl rfl⟩
theorem fl_9_130 : ∀ ci ∈ [0], xa_FL RX9 130 ci 6 := fun ci hc => by
  cases List.mem_singleton.mp hc
  exact ⟨RX0, TX0, 9, "CrossedFavours$Board", rfl, by decide, uw_0, gws_at 173 (by decide +kernel) rfl, Or.inl rfl⟩
theorem fp_9_130 : ∀ ci ∈ [0], xa_FP RX9 130 ci 6 (.int) false := fun ci hc => by
  cases List.mem_singleton.mp hc
  exact ⟨RX0, TX0, 9, "CrossedFavours$Board", tyX0, rfl, by decide, uw_0, gws_at 173 (by decide +kernel) rfl, Or.inl rfl, tyX0_ok, nmX0, tyX0_ok 6 (by decide), rfl, fun z => by cases z⟩
theorem fp_9_83 : ∀ ci ∈ [0], xa_FP RX9 83 ci 4 (.int) false := fun ci hc => by
  cases List.mem_singleton.mp hc
  exact ⟨RX0, TX0, 9, "CrossedFavours$Board", tyX0, rfl, by decide, uw_0, gws_at 167 (by decide +kernel) rfl, Or.inl rfl, tyX0_ok, nmX0, tyX0_ok 4 (by decide), rfl, fun z => by cases z⟩
theorem fp_9_67 : ∀ ci ∈ [0], xa_FP RX9 67 ci 7 (.int) false := fun ci hc => by
  cases List.mem_singleton.mp hc
  exact ⟨RX0, TX0, 9, "CrossedFavours$Board", tyX0, rfl, by decide, uw_0, gws_at 176 (by decide +kernel) rfl, Or.inl rfl, tyX0_ok, nmX0, tyX0_ok 7 (by decide), rfl, fun z => by cases z⟩
theorem fp_9_70 : ∀ ci ∈ [0], xa_FP RX9 70 ci 5 (.int) false := fun ci hc => by
  cases List.mem_singleton.mp hc
  exact ⟨RX0, TX0, 9, "CrossedFavours$Board", tyX0, rfl, by decide, uw_0, gws_at 170 (by decide +kernel) rfl, Or.inl rfl, tyX0_ok, nmX0, tyX0_ok 5 (by decide), rfl, fun z => by cases z⟩
theorem fp_9_22 : ∀ ci ∈ [9], xa_FP RX9 22 ci 6 (.boolean) false := fun ci hc => by
  cases List.mem_singleton.mp hc
  exact ⟨RX9, TX9, 10, "CrossedFavours$VillageReader", tyX9, rfl, by decide, uw_9, gws_at 203 (by decide +kernel) rfl, Or.inl rfl, tyX9_ok, nmX9, tyX9_ok 6 (by decide), rfl, fun z => by cases z⟩
theorem fl_9_22 : ∀ ci ∈ [9], xa_FL RX9 22 ci 6 := fun ci hc => by
  cases List.mem_singleton.mp hc
  exact ⟨RX9, TX9, 10, "CrossedFavours$VillageReader", rfl, by decide, uw_9, gws_at 203 (by decide +kernel) rfl, Or.inl rfl⟩
theorem ml_9_76 : Cond.methodLink RX9 76 yX9_items ∈ gws := gws_at 584 (by decide +kernel) rfl
theorem im_X9_items : Cond.instanceMethod yX9_items ∈ gws := gws_at 586 (by decide +kernel) rfl
theorem se_9_X9_items : ∀ ci ∈ [9], ∃ (C : String) (T : u_T) (N : Nat), xclasses[ci]? = some (C, T, N) ∧ Cond.selects C yX9_items yX9_items ∈ gws := fun ci hc => by
  cases List.mem_singleton.mp hc
  exact ⟨RX9, TX9, 10, rfl, gws_at 3 (by decide +kernel) rfl⟩
theorem ml_9_80 : Cond.methodLink RX9 80 yX9_tellRules ∈ gws := gws_at 649 (by decide +kernel) rfl
theorem im_X9_tellRules : Cond.instanceMethod yX9_tellRules ∈ gws := gws_at 651 (by decide +kernel) rfl
theorem se_9_X9_tellRules : ∀ ci ∈ [9], ∃ (C : String) (T : u_T) (N : Nat), xclasses[ci]? = some (C, T, N) ∧ Cond.selects C yX9_tellRules yX9_tellRules ∈ gws := fun ci hc => by
  cases List.mem_singleton.mp hc
  exact ⟨RX9, TX9, 10, rfl, gws_at 5 (by decide +kernel) rfl⟩
theorem ml_9_86 : Cond.methodLink RX9 86 yX9_tellHouse ∈ gws := gws_at 653 (by decide +kernel) rfl
theorem im_X9_tellHouse : Cond.instanceMethod yX9_tellHouse ∈ gws := gws_at 655 (by decide +kernel) rfl
theorem se_9_X9_tellHouse : ∀ ci ∈ [9], ∃ (C : String) (T : u_T) (N : Nat), xclasses[ci]? = some (C, T, N) ∧ Cond.selects C yX9_tellHouse yX9_tellHouse ∈ gws := fun ci hc => by
  cases List.mem_singleton.mp hc
  exact ⟨RX9, TX9, 10, rfl, gws_at 6 (by decide +kernel) rfl⟩
theorem ml_9_89 : Cond.methodLink RX9 89 yX9_tellFavours ∈ gws := gws_at 657 (by decide +kernel) rfl
theorem im_X9_tellFavours : Cond.instanceMethod yX9_tellFavours ∈ gws := gws_at 659 (by decide +kernel) rfl
theorem se_9_X9_tellFavours : ∀ ci ∈ [9], ∃ (C : String) (T : u_T) (N : Nat), xclasses[ci]? = some (C, T, N) ∧ Cond.selects C yX9_tellFavours yX9_tellFavours ∈ gws := fun ci hc => by
  cases List.mem_singleton.mp hc
  exact ⟨RX9, TX9, 10, rfl, gws_at 7 (by decide +kernel) rfl⟩
theorem ml_9_61 : Cond.methodLink RX9 61 yX0_clear ∈ gws := gws_at 568 (by decide +kernel) rfl
theorem im_X0_clear : Cond.instanceMethod yX0_clear ∈ gws := gws_at 569 (by decide +kernel) rfl
theorem se_0_X0_clear : ∀ ci ∈ [0], ∃ (C : String) (T : u_T) (N : Nat), xclasses[ci]? = some (C, T, N) ∧ Cond.selects C yX0_clear yX0_clear ∈ gws := fun ci hc => by
  cases List.mem_singleton.mp hc
  exact ⟨RX0, TX0, 9, rfl, gws_at 570 (by decide +kernel) rfl⟩
theorem sm2_9_X4_start : Cond.sameMethod "CrossedFavours$VillageReader" "CrossedFavours$Reader" "start" "([II)V" ∈ gws := gws_at 553 (by decide +kernel) rfl
theorem ml_9_36 : Cond.methodLink RX9 36 (⟨"CrossedFavours$VillageReader", "start", "([II)V"⟩ : MethodName) ∈ gws := gws_at 552 (by decide +kernel) rfl
theorem se_9_X4_start_9 : ∀ ci ∈ [9], ∃ (C : String) (T : u_T) (N : Nat), xclasses[ci]? = some (C, T, N) ∧ Cond.selects C (⟨"CrossedFavours$VillageReader", "start", "([II)V"⟩ : MethodName) yX4_start ∈ gws := fun ci hc => by
  cases List.mem_singleton.mp hc
  exact ⟨RX9, TX9, 10, rfl, gws_at 555 (by decide +kernel) rfl⟩
theorem ml_9_40 : Cond.methodLink RX9 40 yX9_forget ∈ gws := gws_at 564 (by decide +kernel) rfl
theorem im_X9_forget : Cond.instanceMethod yX9_forget ∈ gws := gws_at 566 (by decide +kernel) rfl
theorem se_9_X9_forget : ∀ ci ∈ [9], ∃ (C : String) (T : u_T) (N : Nat), xclasses[ci]? = some (C, T, N) ∧ Cond.selects C yX9_forget yX9_forget ∈ gws := fun ci hc => by
  cases List.mem_singleton.mp hc
  exact ⟨RX9, TX9, 10, rfl, gws_at 1 (by decide +kernel) rfl⟩
theorem ml_9_43 : Cond.methodLink RX9 43 yX9_clause ∈ gws := gws_at 574 (by decide +kernel) rfl
theorem im_X9_clause : Cond.instanceMethod yX9_clause ∈ gws := gws_at 576 (by decide +kernel) rfl
theorem se_9_X9_clause : ∀ ci ∈ [9], ∃ (C : String) (T : u_T) (N : Nat), xclasses[ci]? = some (C, T, N) ∧ Cond.selects C yX9_clause yX9_clause ∈ gws := fun ci hc => by
  cases List.mem_singleton.mp hc
  exact ⟨RX9, TX9, 10, rfl, gws_at 2 (by decide +kernel) rfl⟩
theorem sm2_9_X4_take : Cond.sameMethod "CrossedFavours$VillageReader" "CrossedFavours$Reader" "take" "(I)Z" ∈ gws := gws_at 671 (by decide +kernel) rfl
theorem ml_9_46 : Cond.methodLink RX9 46 (⟨"CrossedFavours$VillageReader", "take", "(I)Z"⟩ : MethodName) ∈ gws := gws_at 670 (by decide +kernel) rfl
theorem im_X4_take : Cond.instanceMethod yX4_take ∈ gws := gws_at 674 (by decide +kernel) rfl
theorem se_9_X4_take_9 : ∀ ci ∈ [9], ∃ (C : String) (T : u_T) (N : Nat), xclasses[ci]? = some (C, T, N) ∧ Cond.selects C (⟨"CrossedFavours$VillageReader", "take", "(I)Z"⟩ : MethodName) yX4_take ∈ gws := fun ci hc => by
  cases List.mem_singleton.mp hc
  exact ⟨RX9, TX9, 10, rfl, gws_at 673 (by decide +kernel) rfl⟩
theorem ml_9_50 : Cond.methodLink RX9 50 yX9_canStand ∈ gws := gws_at 676 (by decide +kernel) rfl
theorem im_X9_canStand : Cond.instanceMethod yX9_canStand ∈ gws := gws_at 678 (by decide +kernel) rfl
theorem se_9_X9_canStand : ∀ ci ∈ [9], ∃ (C : String) (T : u_T) (N : Nat), xclasses[ci]? = some (C, T, N) ∧ Cond.selects C yX9_canStand yX9_canStand ∈ gws := fun ci hc => by
  cases List.mem_singleton.mp hc
  exact ⟨RX9, TX9, 10, rfl, gws_at 8 (by decide +kernel) rfl⟩
theorem sm2_9_X4_wrongAt : Cond.sameMethod "CrossedFavours$VillageReader" "CrossedFavours$Reader" "wrongAt" "()I" ∈ gws := gws_at 686 (by decide +kernel) rfl
theorem ml_9_57 : Cond.methodLink RX9 57 (⟨"CrossedFavours$VillageReader", "wrongAt", "()I"⟩ : MethodName) ∈ gws := gws_at 685 (by decide +kernel) rfl
theorem se_9_X4_wrongAt_9 : ∀ ci ∈ [9], ∃ (C : String) (T : u_T) (N : Nat), xclasses[ci]? = some (C, T, N) ∧ Cond.selects C (⟨"CrossedFavours$VillageReader", "wrongAt", "()I"⟩ : MethodName) yX4_wrongAt ∈ gws := fun ci hc => by
  cases List.mem_singleton.mp hc
  exact ⟨RX9, TX9, 10, rfl, gws_at 688 (by decide +kernel) rfl⟩
theorem mn_9_3 : Cond.methodLinkNest RX9 3 yX4_init "CrossedFavours" ∈ xa_nest := xa_nest_at 145 (by decide +kernel)
theorem nw_9_9 : xa_NW RX9 9 0 [.null, .null, .null, .null, .int 0, .int 0, .int 0, .int 0, .int 0] := ⟨RX0, TX0, 9, tyX0, rfl, uw_0, tyX0_ok, gws_at 149 (by decide +kernel) rfl, gws_at 150 (by decide +kernel) rfl, gws_at 112 (by decide +kernel) rfl, rfl, xa_dflt (fun _ => rfl) (by decide +kernel)⟩
theorem mn_9_11 : Cond.methodLinkNest RX9 11 yX0_init "CrossedFavours" ∈ xa_nest := xa_nest_at 151 (by decide +kernel)
theorem fp_9_12 : ∀ ci ∈ [9], xa_FP RX9 12 ci 4 (.object "CrossedFavours$Board") true := fun ci hc => by
  cases List.mem_singleton.mp hc
  exact ⟨RX9, TX9, 10, "CrossedFavours$VillageReader", tyX9, rfl, by decide, uw_9, gws_at 200 (by decide +kernel) rfl, Or.inl rfl, tyX9_ok, nmX9, tyX9_ok 4 (by decide), rfl, fun _ => rfl⟩
theorem fp_9_18 : ∀ ci ∈ [9], xa_FP RX9 18 ci 5 (.array .int) true := fun ci hc => by
  cases List.mem_singleton.mp hc
  exact ⟨RX9, TX9, 10, "CrossedFavours$VillageReader", tyX9, rfl, by decide, uw_9, gws_at 202 (by decide +kernel) rfl, Or.inl rfl, tyX9_ok, nmX9, tyX9_ok 5 (by decide), rfl, fun _ => rfl⟩
