theorem sm2_2_X4_need : Cond.sameMethod "CrossedFavours$LawReader" "CrossedFavours$Reader" "need" "(I)V" ∈ gws := gws_at 703 (by decide +kernel) rfl
theorem ml_2_51 : Cond.methodLink RX2 51 (⟨"CrossedFavours$LawReader", "need", "(I)V"⟩ : MethodName) ∈ gws := gws_at 702 (by decide +kernel) rfl
theorem im_X4_need : Cond.instanceMethod yX4_need ∈ gws := gws_at 706 (by decide +kernel) rfl
theorem se_2_X4_need_2 : ∀ ci ∈ [2], ∃ (C : String) (T : u_T) (N : Nat), xclasses[ci]? = some (C, T, N) ∧ Cond.selects C (⟨"CrossedFavours$LawReader", "need", "(I)V"⟩ : MethodName) yX4_need ∈ gws := fun ci hc => by
  cases List.mem_singleton.mp hc
  exact ⟨RX2, TX2, 7, rfl, gws_at 705 (by decide +kernel) rfl⟩
theorem fl_2_45 : ∀ ci ∈ [2], xa_FL RX2 45 ci 3 := fun ci hc => by
  cases List.mem_singleton.mp hc
  exact ⟨RX2, TX2, 7, "CrossedFavours$LawReader", rfl, by decide, uw_2, gws_at 219 (by decide +kernel) rfl, Or.inr (gws_at 220 (by decide +kernel) rfl)⟩
theorem fl_2_82 : ∀ ci ∈ [2], xa_FL RX2 82 ci 2 := fun ci hc => by
  cases List.mem_singleton.mp hc
  exact ⟨RX2, TX2, 7, "CrossedFavours$LawReader", rfl, by decide, uw_2, gws_at 214 (by decide +kernel) rfl, Or.inr (gws_at 215 (by decide +kernel) rfl)⟩
theorem fp_2_82 : ∀ ci ∈ [2], xa_FP RX2 82 ci 2 (.int) false := fun ci hc => by
  cases List.mem_singleton.mp hc
  exact ⟨RX2, TX2, 7, "CrossedFavours$LawReader", tyX2, rfl, by decide, uw_2, gws_at 214 (by decide +kernel) rfl, Or.inr (gws_at 215 (by decide +kernel) rfl), tyX2_ok, nmX2, tyX2_ok 2 (by decide), rfl, fun z => by cases z⟩
theorem fp_2_45 : ∀ ci ∈ [2], xa_FP RX2 45 ci 3 (.boolean) false := fun ci hc => by
  cases List.mem_singleton.mp hc
  exact ⟨RX2, TX2, 7, "CrossedFavours$LawReader", tyX2, rfl, by decide, uw_2, gws_at 219 (by decide +kernel) rfl, Or.inr (gws_at 220 (by decide +kernel) rfl), tyX2_ok, nmX2, tyX2_ok 3 (by decide), rfl, fun z => by cases z⟩
theorem col_2_92 : Cond.constantLong RX2 92 (-1000000) ∈ gws := gws_at 753 (by decide +kernel) rfl
theorem col_2_94 : Cond.constantLong RX2 94 (1000000) ∈ gws := gws_at 754 (by decide +kernel) rfl
theorem mw_2_96 : xa_mw RX2 96 Lib.MathLoose.min_long.x Lib.MathLoose.min_long.code 4 (some .long) := ⟨gws_at 755 (by decide +kernel) rfl, gws_at 756 (by decide +kernel) rfl, gws_at 123 (by decide +kernel) rfl, gws_at 757 (by decide +kernel) rfl⟩
theorem mw_2_102 : xa_mw RX2 102 Lib.MathLoose.max_long.x Lib.MathLoose.max_long.code 4 (some .long) := ⟨gws_at 758 (by decide +kernel) rfl, gws_at 759 (by decide +kernel) rfl, gws_at 123 (by decide +kernel) rfl, gws_at 760 (by decide +kernel) rfl⟩
theorem ml_2_88 : Cond.methodLink RX2 88 yX2_held ∈ gws := gws_at 750 (by decide +kernel) rfl
theorem sm_X2_held : Cond.static yX2_held ∈ gws := gws_at 751 (by decide +kernel) rfl
theorem sm2_2_X4_peek : Cond.sameMethod "CrossedFavours$LawReader" "CrossedFavours$Reader" "peek" "()I" ∈ gws := gws_at 709 (by decide +kernel) rfl
theorem ml_2_42 : Cond.methodLink RX2 42 (⟨"CrossedFavours$LawReader", "peek", "()I"⟩ : MethodName) ∈ gws := gws_at 708 (by decide +kernel) rfl
theorem se_2_X4_peek_2 : ∀ ci ∈ [2], ∃ (C : String) (T : u_T) (N : Nat), xclasses[ci]? = some (C, T, N) ∧ Cond.selects C (⟨"CrossedFavours$LawReader", "peek", "()I"⟩ : MethodName) yX4_peek ∈ gws := fun ci hc => by
  cases List.mem_singleton.mp hc
  exact ⟨RX2, TX2, 7, rfl, gws_at 710 (by decide +kernel) rfl⟩
theorem ml_2_105 : Cond.methodLink RX2 105 yX2_goesIn ∈ gws := gws_at 719 (by decide +kernel) rfl
theorem im_X2_goesIn : Cond.instanceMethod yX2_goesIn ∈ gws := gws_at 721 (by decide +kernel) rfl
theorem se_2_X2_goesIn : ∀ ci ∈ [2], ∃ (C : String) (T : u_T) (N : Nat), xclasses[ci]? = some (C, T, N) ∧ Cond.selects C yX2_goesIn yX2_goesIn ∈ gws := fun ci hc => by
  cases List.mem_singleton.mp hc
  exact ⟨RX2, TX2, 7, rfl, gws_at 12 (by decide +kernel) rfl⟩
theorem ml_2_55 : Cond.methodLink RX2 55 yX2_part ∈ gws := gws_at 711 (by decide +kernel) rfl
theorem im_X2_part : Cond.instanceMethod yX2_part ∈ gws := gws_at 713 (by decide +kernel) rfl
theorem se_2_X2_part : ∀ ci ∈ [2], ∃ (C : String) (T : u_T) (N : Nat), xclasses[ci]? = some (C, T, N) ∧ Cond.selects C yX2_part yX2_part ∈ gws := fun ci hc => by
  cases List.mem_singleton.mp hc
  exact ⟨RX2, TX2, 7, rfl, gws_at 10 (by decide +kernel) rfl⟩
theorem ml_2_108 : Cond.methodLink RX2 108 yX2_closed ∈ gws := gws_at 723 (by decide +kernel) rfl
theorem im_X2_closed : Cond.instanceMethod yX2_closed ∈ gws := gws_at 725 (by decide +kernel) rfl
theorem se_2_X2_closed : ∀ ci ∈ [2], ∃ (C : String) (T : u_T) (N : Nat), xclasses[ci]? = some (C, T, N) ∧ Cond.selects C yX2_closed yX2_closed ∈ gws := fun ci hc => by
  cases List.mem_singleton.mp hc
  exact ⟨RX2, TX2, 7, rfl, gws_at 13 (by decide +kernel) rfl⟩
theorem fl_2_19 : ∀ ci ∈ [2], xa_FL RX2 19 ci 4 := fun ci hc => by
  cases List.mem_singleton.mp hc
  exact ⟨RX2, TX2, 7, "CrossedFavours$LawReader", rfl, by decide, uw_2, gws_at 261 (by decide +kernel) rfl, Or.inl rfl⟩
theorem sm2_2_X4_number : Cond.sameMethod "CrossedFavours$LawReader" "CrossedFavours$Reader" "number" "(I)I" ∈ gws := gws_at 740 (by decide +kernel) rfl
theorem ml_2_111 : Cond.methodLink RX2 111 (⟨"CrossedFavours$LawReader", "number", "(I)I"⟩ : MethodName) ∈ gws := gws_at 739 (by decide +kernel) rfl
theorem se_2_X4_number_2 : ∀ ci ∈ [2], ∃ (C : String) (T : u_T) (N : Nat), xclasses[ci]? = some (C, T, N) ∧ Cond.selects C (⟨"CrossedFavours$LawReader", "number", "(I)I"⟩ : MethodName) yX4_number ∈ gws := fun ci hc => by
  cases List.mem_singleton.mp hc
  exact ⟨RX2, TX2, 7, rfl, gws_at 741 (by decide +kernel) rfl⟩
theorem ml_2_78 : Cond.methodLink RX2 78 yJ0_charAt_5068e ∈ gws := gws_at 738 (by decide +kernel) rfl
theorem ml_2_59 : Cond.methodLink RX2 59 yX2_isComparison ∈ gws := gws_at 731 (by decide +kernel) rfl
theorem sm_X2_isComparison : Cond.static yX2_isComparison ∈ gws := gws_at 732 (by decide +kernel) rfl
theorem ml_2_65 : Cond.methodLink RX2 65 yX2_row ∈ gws := gws_at 742 (by decide +kernel) rfl
theorem im_X2_row : Cond.instanceMethod yX2_row ∈ gws := gws_at 744 (by decide +kernel) rfl
theorem se_2_X2_row : ∀ ci ∈ [2], ∃ (C : String) (T : u_T) (N : Nat), xclasses[ci]? = some (C, T, N) ∧ Cond.selects C yX2_row yX2_row ∈ gws := fun ci hc => by
  cases List.mem_singleton.mp hc
  exact ⟨RX2, TX2, 7, rfl, gws_at 16 (by decide +kernel) rfl⟩
theorem ml_2_73 : Cond.methodLink RX2 73 yX2_atom ∈ gws := gws_at 734 (by decide +kernel) rfl
theorem im_X2_atom : Cond.instanceMethod yX2_atom ∈ gws := gws_at 736 (by decide +kernel) rfl
theorem se_2_X2_atom : ∀ ci ∈ [2], ∃ (C : String) (T : u_T) (N : Nat), xclasses[ci]? = some (C, T, N) ∧ Cond.selects C yX2_atom yX2_atom ∈ gws := fun ci hc => by
  cases List.mem_singleton.mp hc
  exact ⟨RX2, TX2, 7, rfl, gws_at 15 (by decide +kernel) rfl⟩
theorem ml_2_69 : Cond.methodLink RX2 69 yX2_unit ∈ gws := gws_at 715 (by decide +kernel) rfl
theorem im_X2_unit : Cond.instanceMethod yX2_unit ∈ gws := gws_at 717 (by decide +kernel) rfl
theorem se_2_X2_unit : ∀ ci ∈ [2], ∃ (C : String) (T : u_T) (N : Nat), xclasses[ci]? = some (C, T, N) ∧ Cond.selects C yX2_unit yX2_unit ∈ gws := fun ci hc => by
  cases List.mem_singleton.mp hc
  exact ⟨RX2, TX2, 7, rfl, gws_at 11 (by decide +kernel) rfl⟩
theorem ml_2_85 : Cond.methodLink RX2 85 yX2_joined ∈ gws := gws_at 747 (by decide +kernel) rfl
theorem sm_X2_joined : Cond.static yX2_joined ∈ gws := gws_at 748 (by decide +kernel) rfl
theorem ml_2_62 : Cond.methodLink RX2 62 yX2_compared ∈ gws := gws_at 727 (by decide +kernel) rfl
theorem im_X2_compared : Cond.instanceMethod yX2_compared ∈ gws := gws_at 729 (by decide +kernel) rfl
theorem se_2_X2_compared : ∀ ci ∈ [2], ∃ (C : String) (T : u_T) (N : Nat), xclasses[ci]? = some (C, T, N) ∧ Cond.selects C yX2_compared yX2_compared ∈ gws := fun ci hc => by
  cases List.mem_singleton.mp hc
  exact ⟨RX2, TX2, 7, rfl, gws_at 14 (by decide +kernel) rfl⟩
theorem fl_2_27 : ∀ ci ∈ [2], xa_FL RX2 27 ci 6 := fun ci hc => by
  cases List.mem_singleton.mp hc
  exact ⟨RX2, TX2, 7, "CrossedFavours$LawReader", rfl, by decide, uw_2, gws_at 265 (by decide +kernel) rfl, Or.inl rfl⟩
theorem fp_2_27 : ∀ ci ∈ [2], xa_FP RX2 27 ci 6 (.boolean) false := fun ci hc => by
  cases List.mem_singleton.mp hc
  exact ⟨RX2, TX2, 7, "CrossedFavours$LawReader", tyX2, rfl, by decide, uw_2, gws_at 265 (by decide +kernel) rfl, Or.inl rfl, tyX2_ok, nmX2, tyX2_ok 6 (by decide), rfl, fun z => by cases z⟩
theorem fp_2_23 : ∀ ci ∈ [2], xa_FP RX2 23 ci 5 (.int) false := fun ci hc => by
  cases List.mem_singleton.mp hc
  exact ⟨RX2, TX2, 7, "CrossedFavours$LawReader", tyX2, rfl, by decide, uw_2, gws_at 263 (by decide +kernel) rfl, Or.inl rfl, tyX2_ok, nmX2, tyX2_ok 5 (by decide), rfl, fun z => by cases z⟩
theorem sm2_2_X4_start : Cond.sameMethod "CrossedFavours$LawReader" "CrossedFavours$Reader" "start" "([II)V" ∈ gws := gws_at 696 (by decide +kernel) rfl
theorem ml_2_31 : Cond.methodLink RX2 31 (⟨"CrossedFavours$LawReader", "start", "([II)V"⟩ : MethodName) ∈ gws := gws_at 695 (by decide +kernel) rfl
theorem se_2_X4_start_2 : ∀ ci ∈ [2], ∃ (C : String) (T : u_T) (N : Nat), xclasses[ci]? = some (C, T, N) ∧ Cond.selects C (⟨"CrossedFavours$LawReader", "start", "([II)V"⟩ : MethodName) yX4_start ∈ gws := fun ci hc => by
  cases List.mem_singleton.mp hc
  exact ⟨RX2, TX2, 7, rfl, gws_at 697 (by decide +kernel) rfl⟩
theorem ml_2_35 : Cond.methodLink RX2 35 yX2_clause ∈ gws := gws_at 698 (by decide +kernel) rfl
theorem im_X2_clause : Cond.instanceMethod yX2_clause ∈ gws := gws_at 700 (by decide +kernel) rfl
theorem se_2_X2_clause : ∀ ci ∈ [2], ∃ (C : String) (T : u_T) (N : Nat), xclasses[ci]? = some (C, T, N) ∧ Cond.selects C yX2_clause yX2_clause ∈ gws := fun ci hc => by
  cases List.mem_singleton.mp hc
  exact ⟨RX2, TX2, 7, rfl, gws_at 9 (by decide +kernel) rfl⟩
theorem sm2_2_X4_take : Cond.sameMethod "CrossedFavours$LawReader" "CrossedFavours$Reader" "take" "(I)Z" ∈ gws := gws_at 762 (by decide +kernel) rfl
theorem ml_2_38 : Cond.methodLink RX2 38 (⟨"CrossedFavours$LawReader", "take", "(I)Z"⟩ : MethodName) ∈ gws := gws_at 761 (by decide +kernel) rfl
theorem se_2_X4_take_2 : ∀ ci ∈ [2], ∃ (C : String) (T : u_T) (N : Nat), xclasses[ci]? = some (C, T, N) ∧ Cond.selects C (⟨"CrossedFavours$LawReader", "take", "(I)Z"⟩ : MethodName) yX4_take ∈ gws := fun ci hc => by
  cases List.mem_singleton.mp hc
  exact ⟨RX2, TX2, 7, rfl, gws_at 763 (by decide +kernel) rfl⟩
theorem sm2_2_X4_wrongAt : Cond.sameMethod "CrossedFavours$LawReader" "CrossedFavours$Reader" "wrongAt" "()I" ∈ gws := gws_at 765 (by decide +kernel) rfl
theorem ml_2_48 : Cond.methodLink RX2 48 (⟨"CrossedFavours$LawReader", "wrongAt", "()I"⟩ : MethodName) ∈ gws := gws_at 764 (by decide +kernel) rfl
theorem se_2_X4_wrongAt_2 : ∀ ci ∈ [2], ∃ (C : String) (T : u_T) (N : Nat), xclasses[ci]? = some (C, T, N) ∧ Cond.selects C (⟨"CrossedFavours$LawReader", "wrongAt", "()I"⟩ : MethodName) yX4_wrongAt ∈ gws := fun ci hc => by
  cases List.mem_singleton.mp hc
  exact ⟨RX2, TX2, 7, rfl, gws_at 766 (by decide +kernel) rfl⟩
theorem mn_2_3 : Cond.methodLinkNest RX2 3 yX4_init "CrossedFavours" ∈ xa_nest := xa_nest_at 249 (by decide +kernel)
theorem ml_2_13 : Cond.methodLink RX2 13 yJ0_length_8abf5 ∈ gws := gws_at 251 (by decide +kernel) rfl
theorem fp_2_19 : ∀ ci ∈ [2], xa_FP RX2 19 ci 4 (.array .int) true := fun ci hc => by
  cases List.mem_singleton.mp hc
  exact ⟨RX2, TX2, 7, "CrossedFavours$LawReader", tyX2, rfl, by decide, uw_2, gws_at 261 (by decide +kernel) rfl, Or.inl rfl, tyX2_ok, nmX2, tyX2_ok 4 (by decide), rfl, fun _ => rfl⟩
