theorem fp_3_29 : ∀ ci ∈ [3], xa_FP RX3 29 ci 3 (.int) false := fun ci hc => by
  cases List.mem_singleton.mp hc
  exact ⟨RX3, TX3, 6, "CrossedFavours$Memory", tyX3, rfl, by decide, uw_3, gws_at 353 (by decide +kernel) rfl, Or.inl rfl, tyX3_ok, nmX3, tyX3_ok 3 (by decide), rfl, fun z => by cases z⟩
theorem fp_3_33 : ∀ ci ∈ [3], xa_FP RX3 33 ci 4 (.int) false := fun ci hc => by
  cases List.mem_singleton.mp hc
  exact ⟨RX3, TX3, 6, "CrossedFavours$Memory", tyX3, rfl, by decide, uw_3, gws_at 354 (by decide +kernel) rfl, Or.inl rfl, tyX3_ok, nmX3, tyX3_ok 4 (by decide), rfl, fun z => by cases z⟩
theorem fl_3_36 : ∀ ci ∈ [3], xa_FL RX3 36 ci 5 := fun ci hc => by
  cases List.mem_singleton.mp hc
  exact ⟨RX3, TX3, 6, "CrossedFavours$Memory", rfl, by decide, uw_3, gws_at 356 (by decide +kernel) rfl, Or.inl rfl⟩
theorem fl_3_18 : ∀ ci ∈ [3], xa_FL RX3 18 ci 1 := fun ci hc => by
  cases List.mem_singleton.mp hc
  exact ⟨RX3, TX3, 6, "CrossedFavours$Memory", rfl, by decide, uw_3, gws_at 351 (by decide +kernel) rfl, Or.inl rfl⟩
theorem ml_3_40 : Cond.methodLink RX3 40 yX0_become ∈ gws := gws_at 885 (by decide +kernel) rfl
theorem im_X0_become : Cond.instanceMethod yX0_become ∈ gws := gws_at 792 (by decide +kernel) rfl
theorem se_0_X0_become : ∀ ci ∈ [0], ∃ (C : String) (T : u_T) (N : Nat), xclasses[ci]? = some (C, T, N) ∧ Cond.selects C yX0_become yX0_become ∈ gws := fun ci hc => by
  cases List.mem_singleton.mp hc
  exact ⟨RX0, TX0, 9, rfl, gws_at 793 (by decide +kernel) rfl⟩
theorem fl_3_25 : ∀ ci ∈ [3], xa_FL RX3 25 ci 2 := fun ci hc => by
  cases List.mem_singleton.mp hc
  exact ⟨RX3, TX3, 6, "CrossedFavours$Memory", rfl, by decide, uw_3, gws_at 352 (by decide +kernel) rfl, Or.inl rfl⟩
theorem ml_3_50 : Cond.methodLink RX3 50 yX1_become ∈ gws := gws_at 1196 (by decide +kernel) rfl
theorem im_X1_become : Cond.instanceMethod yX1_become ∈ gws := gws_at 1197 (by decide +kernel) rfl
theorem se_1_X1_become : ∀ ci ∈ [1], ∃ (C : String) (T : u_T) (N : Nat), xclasses[ci]? = some (C, T, N) ∧ Cond.selects C yX1_become yX1_become ∈ gws := fun ci hc => by
  cases List.mem_singleton.mp hc
  exact ⟨RX1, TX1, 3, rfl, gws_at 1198 (by decide +kernel) rfl⟩
theorem ml_3_53 : Cond.methodLink RX3 53 yX3_forgetActs ∈ gws := gws_at 1209 (by decide +kernel) rfl
theorem im_X3_forgetActs : Cond.instanceMethod yX3_forgetActs ∈ gws := gws_at 799 (by decide +kernel) rfl
theorem se_3_X3_forgetActs : ∀ ci ∈ [3], ∃ (C : String) (T : u_T) (N : Nat), xclasses[ci]? = some (C, T, N) ∧ Cond.selects C yX3_forgetActs yX3_forgetActs ∈ gws := fun ci hc => by
  cases List.mem_singleton.mp hc
  exact ⟨RX3, TX3, 6, rfl, gws_at 800 (by decide +kernel) rfl⟩
theorem fl_3_11 : ∀ ci ∈ [3], xa_FL RX3 11 ci 0 := fun ci hc => by
  cases List.mem_singleton.mp hc
  exact ⟨RX3, TX3, 6, "CrossedFavours$Memory", rfl, by decide, uw_3, gws_at 350 (by decide +kernel) rfl, Or.inl rfl⟩
theorem fl_3_29 : ∀ ci ∈ [3], xa_FL RX3 29 ci 3 := fun ci hc => by
  cases List.mem_singleton.mp hc
  exact ⟨RX3, TX3, 6, "CrossedFavours$Memory", rfl, by decide, uw_3, gws_at 353 (by decide +kernel) rfl, Or.inl rfl⟩
theorem fl_3_33 : ∀ ci ∈ [3], xa_FL RX3 33 ci 4 := fun ci hc => by
  cases List.mem_singleton.mp hc
  exact ⟨RX3, TX3, 6, "CrossedFavours$Memory", rfl, by decide, uw_3, gws_at 354 (by decide +kernel) rfl, Or.inl rfl⟩
theorem mw_3_44 : xa_mw RX3 44 Lib.Math.min.name Lib.Math.min.code 2 (some .int) := ⟨gws_at 886 (by decide +kernel) rfl, gws_at 559 (by decide +kernel) rfl, gws_at 123 (by decide +kernel) rfl, gws_at 560 (by decide +kernel) rfl⟩
theorem fp_3_36 : ∀ ci ∈ [3], xa_FP RX3 36 ci 5 (.boolean) false := fun ci hc => by
  cases List.mem_singleton.mp hc
  exact ⟨RX3, TX3, 6, "CrossedFavours$Memory", tyX3, rfl, by decide, uw_3, gws_at 356 (by decide +kernel) rfl, Or.inl rfl, tyX3_ok, nmX3, tyX3_ok 5 (by decide), rfl, fun z => by cases z⟩
theorem oi_3_3 : Cond.methodLink RX3 3 objectInit ∈ gws ∧ Cond.instanceMethod objectInit ∈ gws ∧ Cond.code objectInit ⟨#[0xb1]⟩ 1 none ∈ gws := ⟨gws_at 344 (by decide +kernel) rfl, gws_at 138 (by decide +kernel) rfl, gws_at 139 (by decide +kernel) rfl⟩
theorem kl_3_9 : Cond.classLink RX3 9 "CrossedFavours$Board" ∈ gws := gws_at 345 (by decide +kernel) rfl
theorem fp_3_11 : ∀ ci ∈ [3], xa_FP RX3 11 ci 0 (.array (.object "CrossedFavours$Board")) true := fun ci hc => by
  cases List.mem_singleton.mp hc
  exact ⟨RX3, TX3, 6, "CrossedFavours$Memory", tyX3, rfl, by decide, uw_3, gws_at 350 (by decide +kernel) rfl, Or.inl rfl, tyX3_ok, nmX3, tyX3_ok 0 (by decide), rfl, fun _ => rfl⟩
theorem nw_3_9 : xa_NW RX3 9 0 [.null, .null, .null, .null, .int 0, .int 0, .int 0, .int 0, .int 0] := ⟨RX0, TX0, 9, tyX0, rfl, uw_0, tyX0_ok, gws_at 345 (by decide +kernel) rfl, gws_at 150 (by decide +kernel) rfl, gws_at 112 (by decide +kernel) rfl, rfl, xa_dflt (fun _ => rfl) (by decide +kernel)⟩
theorem mn_3_17 : Cond.methodLinkNest RX3 17 yX0_init "CrossedFavours" ∈ xa_nest := xa_nest_at 347 (by decide +kernel)
theorem im_X0_init : Cond.instanceMethod yX0_init ∈ gws := gws_at 152 (by decide +kernel) rfl
theorem fp_3_18 : ∀ ci ∈ [3], xa_FP RX3 18 ci 1 (.object "CrossedFavours$Board") true := fun ci hc => by
  cases List.mem_singleton.mp hc
  exact ⟨RX3, TX3, 6, "CrossedFavours$Memory", tyX3, rfl, by decide, uw_3, gws_at 351 (by decide +kernel) rfl, Or.inl rfl, tyX3_ok, nmX3, tyX3_ok 1 (by decide), rfl, fun _ => rfl⟩
theorem nw_3_22 : xa_NW RX3 22 1 [.null, .null, .null] := ⟨RX1, TX1, 3, tyX1, rfl, uw_1, tyX1_ok, gws_at 348 (by decide +kernel) rfl, gws_at 324 (by decide +kernel) rfl, gws_at 117 (by decide +kernel) rfl, rfl, xa_dflt (fun _ => rfl) (by decide +kernel)⟩
theorem mn_3_24 : Cond.methodLinkNest RX3 24 yX1_init "CrossedFavours" ∈ xa_nest := xa_nest_at 349 (by decide +kernel)
theorem im_X1_init : Cond.instanceMethod yX1_init ∈ gws := gws_at 326 (by decide +kernel) rfl
theorem fp_3_25 : ∀ ci ∈ [3], xa_FP RX3 25 ci 2 (.object "CrossedFavours$Chronicle") true := fun ci hc => by
  cases List.mem_singleton.mp hc
  exact ⟨RX3, TX3, 6, "CrossedFavours$Memory", tyX3, rfl, by decide, uw_3, gws_at 352 (by decide +kernel) rfl, Or.inl rfl, tyX3_ok, nmX3, tyX3_ok 2 (by decide), rfl, fun _ => rfl⟩
