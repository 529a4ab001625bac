theorem col_10_104 : Cond.constantLong RX10 104 (31) ∈ gws := gws_at 1059 (by decide +kernel) rfl
theorem col_10_106 : Cond.constantLong RX10 106 (-7046029254386353131) ∈ gws := gws_at 1060 (by decide +kernel) rfl
theorem fl_10_24 : ∀ ci ∈ [10], xa_FL RX10 24 ci 3 := fun ci hc => by
  cases List.mem_singleton.mp hc
  exact ⟨RX10, TX10, 11, "CrossedFavours$Walk", rfl, by decide, uw_10, gws_at 414 (by decide +kernel) rfl, Or.inl rfl⟩
theorem fl_10_28 : ∀ ci ∈ [10], xa_FL RX10 28 ci 4 := fun ci hc => by
  cases List.mem_singleton.mp hc
  exact ⟨RX10, TX10, 11, "CrossedFavours$Walk", rfl, by decide, uw_10, gws_at 415 (by decide +kernel) rfl, Or.inl rfl⟩
theorem fl_10_17 : ∀ ci ∈ [10], xa_FL RX10 17 ci 1 := fun ci hc => by
  cases List.mem_singleton.mp hc
  exact ⟨RX10, TX10, 11, "CrossedFavours$Walk", rfl, by decide, uw_10, gws_at 412 (by decide +kernel) rfl, Or.inl rfl⟩
theorem fl_10_21 : ∀ ci ∈ [10], xa_FL RX10 21 ci 2 := fun ci hc => by
  cases List.mem_singleton.mp hc
  exact ⟨RX10, TX10, 11, "CrossedFavours$Walk", rfl, by decide, uw_10, gws_at 413 (by decide +kernel) rfl, Or.inl rfl⟩
theorem fl_10_32 : ∀ ci ∈ [10], xa_FL RX10 32 ci 5 := fun ci hc => by
  cases List.mem_singleton.mp hc
  exact ⟨RX10, TX10, 11, "CrossedFavours$Walk", rfl, by decide, uw_10, gws_at 416 (by decide +kernel) rfl, Or.inl rfl⟩
theorem fp_10_32 : ∀ ci ∈ [10], xa_FP RX10 32 ci 5 (.int) false := fun ci hc => by
  cases List.mem_singleton.mp hc
  exact ⟨RX10, TX10, 11, "CrossedFavours$Walk", tyX10, rfl, by decide, uw_10, gws_at 416 (by decide +kernel) rfl, Or.inl rfl, tyX10_ok, nmX10, tyX10_ok 5 (by decide), rfl, fun z => by cases z⟩
theorem ml_10_100 : Cond.methodLink RX10 100 yX10_fillIn ∈ gws := gws_at 1055 (by decide +kernel) rfl
theorem im_X10_fillIn : Cond.instanceMethod yX10_fillIn ∈ gws := gws_at 1057 (by decide +kernel) rfl
theorem se_10_X10_fillIn : ∀ ci ∈ [10], ∃ (C : String) (T : u_T) (N : Nat), xclasses[ci]? = some (C, T, N) ∧ Cond.selects C yX10_fillIn yX10_fillIn ∈ gws := fun ci hc => by
  cases List.mem_singleton.mp hc
  exact ⟨RX10, TX10, 11, rfl, gws_at 33 (by decide +kernel) rfl⟩
theorem ml_10_97 : Cond.methodLink RX10 97 yX0_debt ∈ gws := gws_at 1054 (by decide +kernel) rfl
theorem oi_10_3 : Cond.methodLink RX10 3 objectInit ∈ gws ∧ Cond.instanceMethod objectInit ∈ gws ∧ Cond.code objectInit ⟨#[0xb1]⟩ 1 none ∈ gws := ⟨gws_at 408 (by decide +kernel) rfl, gws_at 138 (by decide +kernel) rfl, gws_at 139 (by decide +kernel) rfl⟩
theorem kl_10_9 : Cond.classLink RX10 9 "CrossedFavours$Board" ∈ gws := gws_at 409 (by decide +kernel) rfl
theorem fp_10_11 : ∀ ci ∈ [10], xa_FP RX10 11 ci 0 (.array (.object "CrossedFavours$Board")) true := fun ci hc => by
  cases List.mem_singleton.mp hc
  exact ⟨RX10, TX10, 11, "CrossedFavours$Walk", tyX10, rfl, by decide, uw_10, gws_at 411 (by decide +kernel) rfl, Or.inl rfl, tyX10_ok, nmX10, tyX10_ok 0 (by decide), rfl, fun _ => rfl⟩
theorem ac_long : Cond.arrayClass .long ∈ gws := gws_at 449 (by decide +kernel) rfl
theorem fp_10_17 : ∀ ci ∈ [10], xa_FP RX10 17 ci 1 (.array .long) true := fun ci hc => by
  cases List.mem_singleton.mp hc
  exact ⟨RX10, TX10, 11, "CrossedFavours$Walk", tyX10, rfl, by decide, uw_10, gws_at 412 (by decide +kernel) rfl, Or.inl rfl, tyX10_ok, nmX10, tyX10_ok 1 (by decide), rfl, fun _ => rfl⟩
theorem fp_10_21 : ∀ ci ∈ [10], xa_FP RX10 21 ci 2 (.array .long) true := fun ci hc => by
  cases List.mem_singleton.mp hc
  exact ⟨RX10, TX10, 11, "CrossedFavours$Walk", tyX10, rfl, by decide, uw_10, gws_at 413 (by decide +kernel) rfl, Or.inl rfl, tyX10_ok, nmX10, tyX10_ok 2 (by decide), rfl, fun _ => rfl⟩
theorem fp_10_24 : ∀ ci ∈ [10], xa_FP RX10 24 ci 3 (.array .int) true := fun ci hc => by
  cases List.mem_singleton.mp hc
  exact ⟨RX10, TX10, 11, "CrossedFavours$Walk", tyX10, rfl, by decide, uw_10, gws_at 414 (by decide +kernel) rfl, Or.inl rfl, tyX10_ok, nmX10, tyX10_ok 3 (by decide), rfl, fun _ => rfl⟩
theorem fp_10_28 : ∀ ci ∈ [10], xa_FP RX10 28 ci 4 (.int) false := fun ci hc => by
  cases List.mem_singleton.mp hc
  exact ⟨RX10, TX10, 11, "CrossedFavours$Walk", tyX10, rfl, by decide, uw_10, gws_at 415 (by decide +kernel) rfl, Or.inl rfl, tyX10_ok, nmX10, tyX10_ok 4 (by decide), rfl, fun z => by cases z⟩
theorem fp_10_35 : ∀ ci ∈ [10], xa_FP RX10 35 ci 6 (.int) false := fun ci hc => by
  cases List.mem_singleton.mp hc
  exact ⟨RX10, TX10, 11, "CrossedFavours$Walk", tyX10, rfl, by decide, uw_10, gws_at 418 (by decide +kernel) rfl, Or.inl rfl, tyX10_ok, nmX10, tyX10_ok 6 (by decide), rfl, fun z => by cases z⟩
theorem fp_10_38 : ∀ ci ∈ [10], xa_FP RX10 38 ci 7 (.int) false := fun ci hc => by
  cases List.mem_singleton.mp hc
  exact ⟨RX10, TX10, 11, "CrossedFavours$Walk", tyX10, rfl, by decide, uw_10, gws_at 419 (by decide +kernel) rfl, Or.inl rfl, tyX10_ok, nmX10, tyX10_ok 7 (by decide), rfl, fun z => by cases z⟩
theorem fp_10_41 : ∀ ci ∈ [10], xa_FP RX10 41 ci 8 (.int) false := fun ci hc => by
  cases List.mem_singleton.mp hc
  exact ⟨RX10, TX10, 11, "CrossedFavours$Walk", tyX10, rfl, by decide, uw_10, gws_at 420 (by decide +kernel) rfl, Or.inl rfl, tyX10_ok, nmX10, tyX10_ok 8 (by decide), rfl, fun z => by cases z⟩
theorem fp_10_44 : ∀ ci ∈ [10], xa_FP RX10 44 ci 9 (.int) false := fun ci hc => by
  cases List.mem_singleton.mp hc
  exact ⟨RX10, TX10, 11, "CrossedFavours$Walk", tyX10, rfl, by decide, uw_10, gws_at 422 (by decide +kernel) rfl, Or.inl rfl, tyX10_ok, nmX10, tyX10_ok 9 (by decide), rfl, fun z => by cases z⟩
theorem fp_10_47 : ∀ ci ∈ [10], xa_FP RX10 47 ci 10 (.int) false := fun ci hc => by
  cases List.mem_singleton.mp hc
  exact ⟨RX10, TX10, 11, "CrossedFavours$Walk", tyX10, rfl, by decide, uw_10, gws_at 424 (by decide +kernel) rfl, Or.inl rfl, tyX10_ok, nmX10, tyX10_ok 10 (by decide), rfl, fun z => by cases z⟩
theorem fl_10_11 : ∀ ci ∈ [10], xa_FL RX10 11 ci 0 := fun ci hc => by
  cases List.mem_singleton.mp hc
  exact ⟨RX10, TX10, 11, "CrossedFavours$Walk", rfl, by decide, uw_10, gws_at 411 (by decide +kernel) rfl, Or.inl rfl⟩
theorem nw_10_9 : xa_NW RX10 9 0 [.null, .null, .null, .null, .int 0, .int 0, .int 0, .int 0, .int 0] := ⟨RX0, TX0, 9, tyX0, rfl, uw_0, tyX0_ok, gws_at 409 (by decide +kernel) rfl, gws_at 150 (by decide +kernel) rfl, gws_at 112 (by decide +kernel) rfl, rfl, xa_dflt (fun _ => rfl) (by decide +kernel)⟩
theorem mn_10_50 : Cond.methodLinkNest RX10 50 yX0_init "CrossedFavours" ∈ xa_nest := xa_nest_at 410 (by decide +kernel)
theorem fl_10_38 : ∀ ci ∈ [10], xa_FL RX10 38 ci 7 := fun ci hc => by
  cases List.mem_singleton.mp hc
  exact ⟨RX10, TX10, 11, "CrossedFavours$Walk", rfl, by decide, uw_10, gws_at 419 (by decide +kernel) rfl, Or.inl rfl⟩
theorem ml_10_90 : Cond.methodLink RX10 90 yX0_favours ∈ gws := gws_at 1061 (by decide +kernel) rfl
theorem im_X0_favours : Cond.instanceMethod yX0_favours ∈ gws := gws_at 912 (by decide +kernel) rfl
theorem se_0_X0_favours : ∀ ci ∈ [0], ∃ (C : String) (T : u_T) (N : Nat), xclasses[ci]? = some (C, T, N) ∧ Cond.selects C yX0_favours yX0_favours ∈ gws := fun ci hc => by
  cases List.mem_singleton.mp hc
  exact ⟨RX0, TX0, 9, rfl, gws_at 913 (by decide +kernel) rfl⟩
theorem ml_10_94 : Cond.methodLink RX10 94 yX0_levels ∈ gws := gws_at 1062 (by decide +kernel) rfl
theorem ml_10_87 : Cond.methodLink RX10 87 yX10_addTable ∈ gws := gws_at 1050 (by decide +kernel) rfl
theorem im_X10_addTable : Cond.instanceMethod yX10_addTable ∈ gws := gws_at 1052 (by decide +kernel) rfl
theorem se_10_X10_addTable : ∀ ci ∈ [10], ∃ (C : String) (T : u_T) (N : Nat), xclasses[ci]? = some (C, T, N) ∧ Cond.selects C yX10_addTable yX10_addTable ∈ gws := fun ci hc => by
  cases List.mem_singleton.mp hc
  exact ⟨RX10, TX10, 11, rfl, gws_at 32 (by decide +kernel) rfl⟩
theorem fl_10_41 : ∀ ci ∈ [10], xa_FL RX10 41 ci 8 := fun ci hc => by
  cases List.mem_singleton.mp hc
  exact ⟨RX10, TX10, 11, "CrossedFavours$Walk", rfl, by decide, uw_10, gws_at 420 (by decide +kernel) rfl, Or.inl rfl⟩
theorem fl_10_44 : ∀ ci ∈ [10], xa_FL RX10 44 ci 9 := fun ci hc => by
  cases List.mem_singleton.mp hc
  exact ⟨RX10, TX10, 11, "CrossedFavours$Walk", rfl, by decide, uw_10, gws_at 422 (by decide +kernel) rfl, Or.inl rfl⟩
theorem ml_10_69 : Cond.methodLink RX10 69 yX10_weigh ∈ gws := gws_at 1046 (by decide +kernel) rfl
theorem im_X10_weigh : Cond.instanceMethod yX10_weigh ∈ gws := gws_at 1048 (by decide +kernel) rfl
theorem se_10_X10_weigh : ∀ ci ∈ [10], ∃ (C : String) (T : u_T) (N : Nat), xclasses[ci]? = some (C, T, N) ∧ Cond.selects C yX10_weigh yX10_weigh ∈ gws := fun ci hc => by
  cases List.mem_singleton.mp hc
  exact ⟨RX10, TX10, 11, rfl, gws_at 31 (by decide +kernel) rfl⟩
theorem fl_10_35 : ∀ ci ∈ [10], xa_FL RX10 35 ci 6 := fun ci hc => by
  cases List.mem_singleton.mp hc
  exact ⟨RX10, TX10, 11, "CrossedFavours$Walk", rfl, by decide, uw_10, gws_at 418 (by decide +kernel) rfl, Or.inl rfl⟩
theorem fl_10_73 : ∀ ci ∈ [0], xa_FL RX10 73 ci 4 := fun ci hc => by
  cases List.mem_singleton.mp hc
  exact ⟨RX0, TX0, 9, "CrossedFavours$Board", rfl, by decide, uw_0, gws_at 166 (by decide +kernel) rfl, Or.inl rfl⟩
theorem ml_10_76 : Cond.methodLink RX10 76 yX0_canTurn ∈ gws := gws_at 1063 (by decide +kernel) rfl
theorem ml_10_61 : Cond.methodLink RX10 61 yX0_become ∈ gws := gws_at 1041 (by decide +kernel) rfl
theorem ml_10_80 : Cond.methodLink RX10 80 yX0_renewWorth ∈ gws := gws_at 1064 (by decide +kernel) rfl
theorem ml_10_84 : Cond.methodLink RX10 84 yX0_turnDebts ∈ gws := gws_at 1065 (by decide +kernel) rfl
theorem ml_10_65 : Cond.methodLink RX10 65 yX10_visit ∈ gws := gws_at 1042 (by decide +kernel) rfl
theorem im_X10_visit : Cond.instanceMethod yX10_visit ∈ gws := gws_at 1044 (by decide +kernel) rfl
theorem se_10_X10_visit : ∀ ci ∈ [10], ∃ (C : String) (T : u_T) (N : Nat), xclasses[ci]? = some (C, T, N) ∧ Cond.selects C yX10_visit yX10_visit ∈ gws := fun ci hc => by
  cases List.mem_singleton.mp hc
  exact ⟨RX10, TX10, 11, rfl, gws_at 30 (by decide +kernel) rfl⟩
theorem mw_10_51 : xa_mw RX10 51 Lib.Math.min.name Lib.Math.min.code 2 (some .int) := ⟨gws_at 1038 (by decide +kernel) rfl, gws_at 559 (by decide +kernel) rfl, gws_at 123 (by decide +kernel) rfl, gws_at 560 (by decide +kernel) rfl⟩
theorem mw_10_57 : xa_mw RX10 57 Lib.Math.max.name Lib.Math.max.code 2 (some .int) := ⟨gws_at 1039 (by decide +kernel) rfl, gws_at 562 (by decide +kernel) rfl, gws_at 123 (by decide +kernel) rfl, gws_at 563 (by decide +kernel) rfl⟩
theorem co_10_60 : Cond.constant RX10 60 (1000000) ∈ gws := gws_at 1040 (by decide +kernel) rfl
