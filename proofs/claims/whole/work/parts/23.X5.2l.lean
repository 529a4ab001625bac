theorem fl_5_15 : ∀ ci ∈ [5], xa_FL RX5 15 ci 3 := fun ci hc => by
  cases List.mem_singleton.mp hc
  exact ⟨RX5, TX5, 4, "CrossedFavours$Shelf", rfl, by decide, uw_5, gws_at 310 (by decide +kernel) rfl, Or.inl rfl⟩
theorem oi_5_3 : Cond.methodLink RX5 3 objectInit ∈ gws ∧ Cond.instanceMethod objectInit ∈ gws ∧ Cond.code objectInit ⟨#[0xb1]⟩ 1 none ∈ gws := ⟨gws_at 302 (by decide +kernel) rfl, gws_at 138 (by decide +kernel) rfl, gws_at 139 (by decide +kernel) rfl⟩
theorem fp_5_9 : ∀ ci ∈ [5], xa_FP RX5 9 ci 1 (.array .int) true := fun ci hc => by
  cases List.mem_singleton.mp hc
  exact ⟨RX5, TX5, 4, "CrossedFavours$Shelf", tyX5, rfl, by decide, uw_5, gws_at 307 (by decide +kernel) rfl, Or.inl rfl, tyX5_ok, nmX5, tyX5_ok 1 (by decide), rfl, fun _ => rfl⟩
theorem fp_5_15 : ∀ ci ∈ [5], xa_FP RX5 15 ci 3 (.int) false := fun ci hc => by
  cases List.mem_singleton.mp hc
  exact ⟨RX5, TX5, 4, "CrossedFavours$Shelf", tyX5, rfl, by decide, uw_5, gws_at 310 (by decide +kernel) rfl, Or.inl rfl, tyX5_ok, nmX5, tyX5_ok 3 (by decide), rfl, fun z => by cases z⟩
theorem fp_5_19 : ∀ ci ∈ [5], xa_FP RX5 19 ci 2 (.int) true := fun ci hc => by
  cases List.mem_singleton.mp hc
  exact ⟨RX5, TX5, 4, "CrossedFavours$Shelf", tyX5, rfl, by decide, uw_5, gws_at 309 (by decide +kernel) rfl, Or.inl rfl, tyX5_ok, nmX5, tyX5_ok 2 (by decide), rfl, fun _ => rfl⟩
theorem kl_5_22 : Cond.classLink RX5 22 "[[I" ∈ gws := gws_at 303 (by decide +kernel) rfl
theorem fp_5_24 : ∀ ci ∈ [5], xa_FP RX5 24 ci 0 (.array (.array .int)) true := fun ci hc => by
  cases List.mem_singleton.mp hc
  exact ⟨RX5, TX5, 4, "CrossedFavours$Shelf", tyX5, rfl, by decide, uw_5, gws_at 305 (by decide +kernel) rfl, Or.inl rfl, tyX5_ok, nmX5, tyX5_ok 0 (by decide), rfl, fun _ => rfl⟩
theorem fl_5_19 : ∀ ci ∈ [5], xa_FL RX5 19 ci 2 := fun ci hc => by
  cases List.mem_singleton.mp hc
  exact ⟨RX5, TX5, 4, "CrossedFavours$Shelf", rfl, by decide, uw_5, gws_at 309 (by decide +kernel) rfl, Or.inl rfl⟩
theorem fl_5_24 : ∀ ci ∈ [5], xa_FL RX5 24 ci 0 := fun ci hc => by
  cases List.mem_singleton.mp hc
  exact ⟨RX5, TX5, 4, "CrossedFavours$Shelf", rfl, by decide, uw_5, gws_at 305 (by decide +kernel) rfl, Or.inl rfl⟩
theorem cw_5_27 : Cond.methodLink RX5 27 arraycopyName ∈ gws ∧ Cond.native arraycopyName ∈ gws ∧ Cond.static arraycopyName ∈ gws ∧ Cond.initialized "java/lang/System" ∈ gws := ⟨gws_at 806 (by decide +kernel) rfl, gws_at 797 (by decide +kernel) rfl, gws_at 796 (by decide +kernel) rfl, gws_at 127 (by decide +kernel) rfl⟩
theorem fl_5_9 : ∀ ci ∈ [5], xa_FL RX5 9 ci 1 := fun ci hc => by
  cases List.mem_singleton.mp hc
  exact ⟨RX5, TX5, 4, "CrossedFavours$Shelf", rfl, by decide, uw_5, gws_at 307 (by decide +kernel) rfl, Or.inl rfl⟩
