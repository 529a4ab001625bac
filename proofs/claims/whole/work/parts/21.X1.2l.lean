theorem fl_1_11 : ∀ ci ∈ [1], xa_FL RX1 11 ci 0 := fun ci hc => by
  cases List.mem_singleton.mp hc
  exact ⟨RX1, TX1, 3, "CrossedFavours$Chronicle", rfl, by decide, uw_1, gws_at 329 (by decide +kernel) rfl, Or.inl rfl⟩
theorem cw_1_21 : Cond.methodLink RX1 21 arraycopyName ∈ gws ∧ Cond.native arraycopyName ∈ gws ∧ Cond.static arraycopyName ∈ gws ∧ Cond.initialized "java/lang/System" ∈ gws := ⟨gws_at 1200 (by decide +kernel) rfl, gws_at 797 (by decide +kernel) rfl, gws_at 796 (by decide +kernel) rfl, gws_at 127 (by decide +kernel) rfl⟩
theorem fl_1_15 : ∀ ci ∈ [1], xa_FL RX1 15 ci 1 := fun ci hc => by
  cases List.mem_singleton.mp hc
  exact ⟨RX1, TX1, 3, "CrossedFavours$Chronicle", rfl, by decide, uw_1, gws_at 330 (by decide +kernel) rfl, Or.inl rfl⟩
theorem fl_1_18 : ∀ ci ∈ [1], xa_FL RX1 18 ci 2 := fun ci hc => by
  cases List.mem_singleton.mp hc
  exact ⟨RX1, TX1, 3, "CrossedFavours$Chronicle", rfl, by decide, uw_1, gws_at 331 (by decide +kernel) rfl, Or.inl rfl⟩
theorem oi_1_3 : Cond.methodLink RX1 3 objectInit ∈ gws ∧ Cond.instanceMethod objectInit ∈ gws ∧ Cond.code objectInit ⟨#[0xb1]⟩ 1 none ∈ gws := ⟨gws_at 328 (by decide +kernel) rfl, gws_at 138 (by decide +kernel) rfl, gws_at 139 (by decide +kernel) rfl⟩
theorem fp_1_11 : ∀ ci ∈ [1], xa_FP RX1 11 ci 0 (.array .int) true := fun ci hc => by
  cases List.mem_singleton.mp hc
  exact ⟨RX1, TX1, 3, "CrossedFavours$Chronicle", tyX1, rfl, by decide, uw_1, gws_at 329 (by decide +kernel) rfl, Or.inl rfl, tyX1_ok, nmX1, tyX1_ok 0 (by decide), rfl, fun _ => rfl⟩
theorem fp_1_15 : ∀ ci ∈ [1], xa_FP RX1 15 ci 1 (.array .int) true := fun ci hc => by
  cases List.mem_singleton.mp hc
  exact ⟨RX1, TX1, 3, "CrossedFavours$Chronicle", tyX1, rfl, by decide, uw_1, gws_at 330 (by decide +kernel) rfl, Or.inl rfl, tyX1_ok, nmX1, tyX1_ok 1 (by decide), rfl, fun _ => rfl⟩
theorem fp_1_18 : ∀ ci ∈ [1], xa_FP RX1 18 ci 2 (.array .int) true := fun ci hc => by
  cases List.mem_singleton.mp hc
  exact ⟨RX1, TX1, 3, "CrossedFavours$Chronicle", tyX1, rfl, by decide, uw_1, gws_at 331 (by decide +kernel) rfl, Or.inl rfl, tyX1_ok, nmX1, tyX1_ok 2 (by decide), rfl, fun _ => rfl⟩
