theorem oi_7_3 : Cond.methodLink RX7 3 objectInit ∈ gws ∧ Cond.instanceMethod objectInit ∈ gws ∧ Cond.code objectInit ⟨#[0xb1]⟩ 1 none ∈ gws := ⟨gws_at 455 (by decide +kernel) rfl, gws_at 138 (by decide +kernel) rfl, gws_at 139 (by decide +kernel) rfl⟩
theorem kl_7_9 : Cond.classLink RX7 9 "CrossedFavours$Board" ∈ gws := gws_at 456 (by decide +kernel) rfl
theorem fp_7_11 : ∀ ci ∈ [7], xa_FP RX7 11 ci 0 (.array (.object "CrossedFavours$Board")) true := fun ci hc => by
  cases List.mem_singleton.mp hc
  exact ⟨RX7, TX7, 4, "CrossedFavours$Slips", tyX7, rfl, by decide, uw_7, gws_at 458 (by decide +kernel) rfl, Or.inl rfl, tyX7_ok, nmX7, tyX7_ok 0 (by decide), rfl, fun _ => rfl⟩
theorem fp_7_17 : ∀ ci ∈ [7], xa_FP RX7 17 ci 1 (.array .int) false := fun ci hc => by
  cases List.mem_singleton.mp hc
  exact ⟨RX7, TX7, 4, "CrossedFavours$Slips", tyX7, rfl, by decide, uw_7, gws_at 459 (by decide +kernel) rfl, Or.inl rfl, tyX7_ok, nmX7, tyX7_ok 1 (by decide), rfl, fun z => by cases z⟩
theorem fp_7_21 : ∀ ci ∈ [7], xa_FP RX7 21 ci 2 (.int) false := fun ci hc => by
  cases List.mem_singleton.mp hc
  exact ⟨RX7, TX7, 4, "CrossedFavours$Slips", tyX7, rfl, by decide, uw_7, gws_at 460 (by decide +kernel) rfl, Or.inl rfl, tyX7_ok, nmX7, tyX7_ok 2 (by decide), rfl, fun z => by cases z⟩
theorem fp_7_25 : ∀ ci ∈ [7], xa_FP RX7 25 ci 3 (.int) false := fun ci hc => by
  cases List.mem_singleton.mp hc
  exact ⟨RX7, TX7, 4, "CrossedFavours$Slips", tyX7, rfl, by decide, uw_7, gws_at 461 (by decide +kernel) rfl, Or.inl rfl, tyX7_ok, nmX7, tyX7_ok 3 (by decide), rfl, fun z => by cases z⟩
theorem fl_7_11 : ∀ ci ∈ [7], xa_FL RX7 11 ci 0 := fun ci hc => by
  cases List.mem_singleton.mp hc
  exact ⟨RX7, TX7, 4, "CrossedFavours$Slips", rfl, by decide, uw_7, gws_at 458 (by decide +kernel) rfl, Or.inl rfl⟩
theorem nw_7_9 : xa_NW RX7 9 0 [.null, .null, .null, .null, .int 0, .int 0, .int 0, .int 0, .int 0] := ⟨RX0, TX0, 9, tyX0, rfl, uw_0, tyX0_ok, gws_at 456 (by decide +kernel) rfl, gws_at 150 (by decide +kernel) rfl, gws_at 112 (by decide +kernel) rfl, rfl, xa_dflt (fun _ => rfl) (by decide +kernel)⟩
theorem mn_7_28 : Cond.methodLinkNest RX7 28 yX0_init "CrossedFavours" ∈ xa_nest := xa_nest_at 457 (by decide +kernel)
theorem ml_7_38 : Cond.methodLink RX7 38 yX0_become ∈ gws := gws_at 1144 (by decide +kernel) rfl
theorem ml_7_65 : Cond.methodLink RX7 65 yX0_canTurn ∈ gws := gws_at 1156 (by decide +kernel) rfl
theorem ml_7_68 : Cond.methodLink RX7 68 yX0_turnOver ∈ gws := gws_at 1157 (by decide +kernel) rfl
theorem ml_7_44 : Cond.methodLink RX7 44 yX7_quiet ∈ gws := gws_at 1146 (by decide +kernel) rfl
theorem im_X7_quiet : Cond.instanceMethod yX7_quiet ∈ gws := gws_at 1148 (by decide +kernel) rfl
theorem se_7_X7_quiet : ∀ ci ∈ [7], ∃ (C : String) (T : u_T) (N : Nat), xclasses[ci]? = some (C, T, N) ∧ Cond.selects C yX7_quiet yX7_quiet ∈ gws := fun ci hc => by
  cases List.mem_singleton.mp hc
  exact ⟨RX7, TX7, 4, rfl, gws_at 37 (by decide +kernel) rfl⟩
theorem fl_7_21 : ∀ ci ∈ [7], xa_FL RX7 21 ci 2 := fun ci hc => by
  cases List.mem_singleton.mp hc
  exact ⟨RX7, TX7, 4, "CrossedFavours$Slips", rfl, by decide, uw_7, gws_at 460 (by decide +kernel) rfl, Or.inl rfl⟩
theorem fl_7_17 : ∀ ci ∈ [7], xa_FL RX7 17 ci 1 := fun ci hc => by
  cases List.mem_singleton.mp hc
  exact ⟨RX7, TX7, 4, "CrossedFavours$Slips", rfl, by decide, uw_7, gws_at 459 (by decide +kernel) rfl, Or.inl rfl⟩
theorem fl_7_25 : ∀ ci ∈ [7], xa_FL RX7 25 ci 3 := fun ci hc => by
  cases List.mem_singleton.mp hc
  exact ⟨RX7, TX7, 4, "CrossedFavours$Slips", rfl, by decide, uw_7, gws_at 461 (by decide +kernel) rfl, Or.inl rfl⟩
theorem col_7_52 : Cond.constantLong RX7 52 (100) ∈ gws := gws_at 1151 (by decide +kernel) rfl
theorem fl_7_54 : ∀ ci ∈ [0], xa_FL RX7 54 ci 4 := fun ci hc => by
  cases List.mem_singleton.mp hc
  exact ⟨RX0, TX0, 9, "CrossedFavours$Board", rfl, by decide, uw_0, gws_at 165 (by decide +kernel) rfl, Or.inl rfl⟩
theorem ml_7_48 : Cond.methodLink RX7 48 yX0_levels ∈ gws := gws_at 1150 (by decide +kernel) rfl
theorem im_X0_levels : Cond.instanceMethod yX0_levels ∈ gws := gws_at 916 (by decide +kernel) rfl
theorem se_0_X0_levels : ∀ ci ∈ [0], ∃ (C : String) (T : u_T) (N : Nat), xclasses[ci]? = some (C, T, N) ∧ Cond.selects C yX0_levels yX0_levels ∈ gws := fun ci hc => by
  cases List.mem_singleton.mp hc
  exact ⟨RX0, TX0, 9, rfl, gws_at 917 (by decide +kernel) rfl⟩
theorem ml_7_57 : Cond.methodLink RX7 57 yX7_branch ∈ gws := gws_at 1152 (by decide +kernel) rfl
theorem im_X7_branch : Cond.instanceMethod yX7_branch ∈ gws := gws_at 1154 (by decide +kernel) rfl
theorem se_7_X7_branch : ∀ ci ∈ [7], ∃ (C : String) (T : u_T) (N : Nat), xclasses[ci]? = some (C, T, N) ∧ Cond.selects C yX7_branch yX7_branch ∈ gws := fun ci hc => by
  cases List.mem_singleton.mp hc
  exact ⟨RX7, TX7, 4, rfl, gws_at 38 (by decide +kernel) rfl⟩
theorem ml_7_61 : Cond.methodLink RX7 61 yX0_has ∈ gws := gws_at 1158 (by decide +kernel) rfl
theorem mw_7_29 : xa_mw RX7 29 Lib.Math.min.name Lib.Math.min.code 2 (some .int) := ⟨gws_at 1142 (by decide +kernel) rfl, gws_at 559 (by decide +kernel) rfl, gws_at 123 (by decide +kernel) rfl, gws_at 560 (by decide +kernel) rfl⟩
theorem mw_7_35 : xa_mw RX7 35 Lib.Math.max.name Lib.Math.max.code 2 (some .int) := ⟨gws_at 1143 (by decide +kernel) rfl, gws_at 562 (by decide +kernel) rfl, gws_at 123 (by decide +kernel) rfl, gws_at 563 (by decide +kernel) rfl⟩
theorem col_7_42 : Cond.constantLong RX7 42 (1000000000) ∈ gws := gws_at 1145 (by decide +kernel) rfl
