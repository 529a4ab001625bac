theorem fl_4_22 : ∀ ci ∈ [2, 8, 9], xa_FL RX4 22 ci 3 := fun ci hc => by
  simp only [List.mem_cons, List.not_mem_nil, or_false] at hc
  rcases hc with rfl | rfl | rfl
  · exact ⟨RX2, TX2, 7, "CrossedFavours$Reader", rfl, by decide, uw_2, gws_at 216 (by decide +kernel) rfl, Or.inl rfl⟩
  · exact ⟨RX8, TX8, 6, "CrossedFavours$Reader", rfl, by decide, uw_8, gws_at 216 (by decide +kernel) rfl, Or.inl rfl⟩
  · exact ⟨RX9, TX9, 10, "CrossedFavours$Reader", rfl, by decide, uw_9, gws_at 216 (by decide +kernel) rfl, Or.inl rfl⟩
theorem fl_4_19 : ∀ ci ∈ [2, 8, 9], xa_FL RX4 19 ci 2 := fun ci hc => by
  simp only [List.mem_cons, List.not_mem_nil, or_false] at hc
  rcases hc with rfl | rfl | rfl
  · exact ⟨RX2, TX2, 7, "CrossedFavours$Reader", rfl, by decide, uw_2, gws_at 209 (by decide +kernel) rfl, Or.inl rfl⟩
  · exact ⟨RX8, TX8, 6, "CrossedFavours$Reader", rfl, by decide, uw_8, gws_at 209 (by decide +kernel) rfl, Or.inl rfl⟩
  · exact ⟨RX9, TX9, 10, "CrossedFavours$Reader", rfl, by decide, uw_9, gws_at 209 (by decide +kernel) rfl, Or.inl rfl⟩
theorem fl_4_15 : ∀ ci ∈ [2, 8, 9], xa_FL RX4 15 ci 1 := fun ci hc => by
  simp only [List.mem_cons, List.not_mem_nil, or_false] at hc
  rcases hc with rfl | rfl | rfl
  · exact ⟨RX2, TX2, 7, "CrossedFavours$Reader", rfl, by decide, uw_2, gws_at 208 (by decide +kernel) rfl, Or.inl rfl⟩
  · exact ⟨RX8, TX8, 6, "CrossedFavours$Reader", rfl, by decide, uw_8, gws_at 208 (by decide +kernel) rfl, Or.inl rfl⟩
  · exact ⟨RX9, TX9, 10, "CrossedFavours$Reader", rfl, by decide, uw_9, gws_at 208 (by decide +kernel) rfl, Or.inl rfl⟩
theorem fl_4_9 : ∀ ci ∈ [2, 8, 9], xa_FL RX4 9 ci 0 := fun ci hc => by
  simp only [List.mem_cons, List.not_mem_nil, or_false] at hc
  rcases hc with rfl | rfl | rfl
  · exact ⟨RX2, TX2, 7, "CrossedFavours$Reader", rfl, by decide, uw_2, gws_at 207 (by decide +kernel) rfl, Or.inl rfl⟩
  · exact ⟨RX8, TX8, 6, "CrossedFavours$Reader", rfl, by decide, uw_8, gws_at 207 (by decide +kernel) rfl, Or.inl rfl⟩
  · exact ⟨RX9, TX9, 10, "CrossedFavours$Reader", rfl, by decide, uw_9, gws_at 207 (by decide +kernel) rfl, Or.inl rfl⟩
theorem fp_4_19 : ∀ ci ∈ [2, 8, 9], xa_FP RX4 19 ci 2 (.int) false := fun ci hc => by
  simp only [List.mem_cons, List.not_mem_nil, or_false] at hc
  rcases hc with rfl | rfl | rfl
  · exact ⟨RX2, TX2, 7, "CrossedFavours$Reader", tyX2, rfl, by decide, uw_2, gws_at 209 (by decide +kernel) rfl, Or.inl rfl, tyX2_ok, nmX2, tyX2_ok 2 (by decide), rfl, fun z => by cases z⟩
  · exact ⟨RX8, TX8, 6, "CrossedFavours$Reader", tyX8, rfl, by decide, uw_8, gws_at 209 (by decide +kernel) rfl, Or.inl rfl, tyX8_ok, nmX8, tyX8_ok 2 (by decide), rfl, fun z => by cases z⟩
  · exact ⟨RX9, TX9, 10, "CrossedFavours$Reader", tyX9, rfl, by decide, uw_9, gws_at 209 (by decide +kernel) rfl, Or.inl rfl, tyX9_ok, nmX9, tyX9_ok 2 (by decide), rfl, fun z => by cases z⟩
theorem sm2_4_X4_peek : Cond.sameMethod "CrossedFavours$Reader" "CrossedFavours$Reader" "peek" "()I" ∈ gws := gws_at 1964 (by decide +kernel) rfl
theorem ml_4_35 : Cond.methodLink RX4 35 yX4_peek ∈ gws := gws_at 637 (by decide +kernel) rfl
theorem im_X4_peek : Cond.instanceMethod yX4_peek ∈ gws := gws_at 582 (by decide +kernel) rfl
theorem se_2_8_9_X4_peek : ∀ ci ∈ [2, 8, 9], ∃ (C : String) (T : u_T) (N : Nat), xclasses[ci]? = some (C, T, N) ∧ Cond.selects C yX4_peek yX4_peek ∈ gws := fun ci hc => by
  simp only [List.mem_cons, List.not_mem_nil, or_false] at hc
  rcases hc with rfl | rfl | rfl
  · exact ⟨RX2, TX2, 7, rfl, gws_at 1965 (by decide +kernel) rfl⟩
  · exact ⟨RX8, TX8, 6, rfl, gws_at 1966 (by decide +kernel) rfl⟩
  · exact ⟨RX9, TX9, 10, rfl, gws_at 1967 (by decide +kernel) rfl⟩
theorem fp_4_22 : ∀ ci ∈ [2, 8, 9], xa_FP RX4 22 ci 3 (.boolean) false := fun ci hc => by
  simp only [List.mem_cons, List.not_mem_nil, or_false] at hc
  rcases hc with rfl | rfl | rfl
  · exact ⟨RX2, TX2, 7, "CrossedFavours$Reader", tyX2, rfl, by decide, uw_2, gws_at 216 (by decide +kernel) rfl, Or.inl rfl, tyX2_ok, nmX2, tyX2_ok 3 (by decide), rfl, fun z => by cases z⟩
  · exact ⟨RX8, TX8, 6, "CrossedFavours$Reader", tyX8, rfl, by decide, uw_8, gws_at 216 (by decide +kernel) rfl, Or.inl rfl, tyX8_ok, nmX8, tyX8_ok 3 (by decide), rfl, fun z => by cases z⟩
  · exact ⟨RX9, TX9, 10, "CrossedFavours$Reader", tyX9, rfl, by decide, uw_9, gws_at 216 (by decide +kernel) rfl, Or.inl rfl, tyX9_ok, nmX9, tyX9_ok 3 (by decide), rfl, fun z => by cases z⟩
theorem ml_4_39 : Cond.methodLink RX4 39 yX4_isDigit ∈ gws := gws_at 638 (by decide +kernel) rfl
theorem sm_X4_isDigit : Cond.static yX4_isDigit ∈ gws := gws_at 639 (by decide +kernel) rfl
theorem fp_4_9 : ∀ ci ∈ [2, 8, 9], xa_FP RX4 9 ci 0 (.array .int) false := fun ci hc => by
  simp only [List.mem_cons, List.not_mem_nil, or_false] at hc
  rcases hc with rfl | rfl | rfl
  · exact ⟨RX2, TX2, 7, "CrossedFavours$Reader", tyX2, rfl, by decide, uw_2, gws_at 207 (by decide +kernel) rfl, Or.inl rfl, tyX2_ok, nmX2, tyX2_ok 0 (by decide), rfl, fun z => by cases z⟩
  · exact ⟨RX8, TX8, 6, "CrossedFavours$Reader", tyX8, rfl, by decide, uw_8, gws_at 207 (by decide +kernel) rfl, Or.inl rfl, tyX8_ok, nmX8, tyX8_ok 0 (by decide), rfl, fun z => by cases z⟩
  · exact ⟨RX9, TX9, 10, "CrossedFavours$Reader", tyX9, rfl, by decide, uw_9, gws_at 207 (by decide +kernel) rfl, Or.inl rfl, tyX9_ok, nmX9, tyX9_ok 0 (by decide), rfl, fun z => by cases z⟩
theorem mw_4_26 : xa_mw RX4 26 Lib.Math.min.name Lib.Math.min.code 2 (some .int) := ⟨gws_at 558 (by decide +kernel) rfl, gws_at 559 (by decide +kernel) rfl, gws_at 123 (by decide +kernel) rfl, gws_at 560 (by decide +kernel) rfl⟩
theorem mw_4_32 : xa_mw RX4 32 Lib.Math.max.name Lib.Math.max.code 2 (some .int) := ⟨gws_at 561 (by decide +kernel) rfl, gws_at 562 (by decide +kernel) rfl, gws_at 123 (by decide +kernel) rfl, gws_at 563 (by decide +kernel) rfl⟩
theorem fp_4_15 : ∀ ci ∈ [2, 8, 9], xa_FP RX4 15 ci 1 (.int) false := fun ci hc => by
  simp only [List.mem_cons, List.not_mem_nil, or_false] at hc
  rcases hc with rfl | rfl | rfl
  · exact ⟨RX2, TX2, 7, "CrossedFavours$Reader", tyX2, rfl, by decide, uw_2, gws_at 208 (by decide +kernel) rfl, Or.inl rfl, tyX2_ok, nmX2, tyX2_ok 1 (by decide), rfl, fun z => by cases z⟩
  · exact ⟨RX8, TX8, 6, "CrossedFavours$Reader", tyX8, rfl, by decide, uw_8, gws_at 208 (by decide +kernel) rfl, Or.inl rfl, tyX8_ok, nmX8, tyX8_ok 1 (by decide), rfl, fun z => by cases z⟩
  · exact ⟨RX9, TX9, 10, "CrossedFavours$Reader", tyX9, rfl, by decide, uw_9, gws_at 208 (by decide +kernel) rfl, Or.inl rfl, tyX9_ok, nmX9, tyX9_ok 1 (by decide), rfl, fun z => by cases z⟩
theorem oi_4_3 : Cond.methodLink RX4 3 objectInit ∈ gws ∧ Cond.instanceMethod objectInit ∈ gws ∧ Cond.code objectInit ⟨#[0xb1]⟩ 1 none ∈ gws := ⟨gws_at 148 (by decide +kernel) rfl, gws_at 138 (by decide +kernel) rfl, gws_at 139 (by decide +kernel) rfl⟩
