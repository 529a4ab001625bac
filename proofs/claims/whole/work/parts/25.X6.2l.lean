theorem fl_6_33 : ∀ ci ∈ [6], xa_FL RX6 33 ci 6 := fun ci hc => by
  cases List.mem_singleton.mp hc
  exact ⟨RX6, TX6, 7, "CrossedFavours$Sightings", rfl, by decide, uw_6, gws_at 385 (by decide +kernel) rfl, Or.inl rfl⟩
theorem fl_6_18 : ∀ ci ∈ [6], xa_FL RX6 18 ci 2 := fun ci hc => by
  cases List.mem_singleton.mp hc
  exact ⟨RX6, TX6, 7, "CrossedFavours$Sightings", rfl, by decide, uw_6, gws_at 380 (by decide +kernel) rfl, Or.inl rfl⟩
theorem fl_6_9 : ∀ ci ∈ [6], xa_FL RX6 9 ci 0 := fun ci hc => by
  cases List.mem_singleton.mp hc
  exact ⟨RX6, TX6, 7, "CrossedFavours$Sightings", rfl, by decide, uw_6, gws_at 378 (by decide +kernel) rfl, Or.inl rfl⟩
theorem fl_6_15 : ∀ ci ∈ [6], xa_FL RX6 15 ci 1 := fun ci hc => by
  cases List.mem_singleton.mp hc
  exact ⟨RX6, TX6, 7, "CrossedFavours$Sightings", rfl, by decide, uw_6, gws_at 379 (by decide +kernel) rfl, Or.inl rfl⟩
theorem ml_6_37 : Cond.methodLink RX6 37 yX0_debt ∈ gws := gws_at 1106 (by decide +kernel) rfl
theorem fl_6_21 : ∀ ci ∈ [6], xa_FL RX6 21 ci 3 := fun ci hc => by
  cases List.mem_singleton.mp hc
  exact ⟨RX6, TX6, 7, "CrossedFavours$Sightings", rfl, by decide, uw_6, gws_at 381 (by decide +kernel) rfl, Or.inl rfl⟩
theorem fl_6_24 : ∀ ci ∈ [6], xa_FL RX6 24 ci 4 := fun ci hc => by
  cases List.mem_singleton.mp hc
  exact ⟨RX6, TX6, 7, "CrossedFavours$Sightings", rfl, by decide, uw_6, gws_at 382 (by decide +kernel) rfl, Or.inl rfl⟩
theorem mw_6_43 : xa_mw RX6 43 Lib.Math.max.name Lib.Math.max.code 2 (some .int) := ⟨gws_at 1120 (by decide +kernel) rfl, gws_at 562 (by decide +kernel) rfl, gws_at 123 (by decide +kernel) rfl, gws_at 563 (by decide +kernel) rfl⟩
theorem fl_6_30 : ∀ ci ∈ [6], xa_FL RX6 30 ci 5 := fun ci hc => by
  cases List.mem_singleton.mp hc
  exact ⟨RX6, TX6, 7, "CrossedFavours$Sightings", rfl, by decide, uw_6, gws_at 383 (by decide +kernel) rfl, Or.inl rfl⟩
theorem oi_6_3 : Cond.methodLink RX6 3 objectInit ∈ gws ∧ Cond.instanceMethod objectInit ∈ gws ∧ Cond.code objectInit ⟨#[0xb1]⟩ 1 none ∈ gws := ⟨gws_at 376 (by decide +kernel) rfl, gws_at 138 (by decide +kernel) rfl, gws_at 139 (by decide +kernel) rfl⟩
theorem fp_6_9 : ∀ ci ∈ [6], xa_FP RX6 9 ci 0 (.array .int) true := fun ci hc => by
  cases List.mem_singleton.mp hc
  exact ⟨RX6, TX6, 7, "CrossedFavours$Sightings", tyX6, rfl, by decide, uw_6, gws_at 378 (by decide +kernel) rfl, Or.inl rfl, tyX6_ok, nmX6, tyX6_ok 0 (by decide), rfl, fun _ => rfl⟩
theorem fp_6_15 : ∀ ci ∈ [6], xa_FP RX6 15 ci 1 (.array .int) true := fun ci hc => by
  cases List.mem_singleton.mp hc
  exact ⟨RX6, TX6, 7, "CrossedFavours$Sightings", tyX6, rfl, by decide, uw_6, gws_at 379 (by decide +kernel) rfl, Or.inl rfl, tyX6_ok, nmX6, tyX6_ok 1 (by decide), rfl, fun _ => rfl⟩
theorem fp_6_18 : ∀ ci ∈ [6], xa_FP RX6 18 ci 2 (.array .int) true := fun ci hc => by
  cases List.mem_singleton.mp hc
  exact ⟨RX6, TX6, 7, "CrossedFavours$Sightings", tyX6, rfl, by decide, uw_6, gws_at 380 (by decide +kernel) rfl, Or.inl rfl, tyX6_ok, nmX6, tyX6_ok 2 (by decide), rfl, fun _ => rfl⟩
theorem fp_6_21 : ∀ ci ∈ [6], xa_FP RX6 21 ci 3 (.array .int) true := fun ci hc => by
  cases List.mem_singleton.mp hc
  exact ⟨RX6, TX6, 7, "CrossedFavours$Sightings", tyX6, rfl, by decide, uw_6, gws_at 381 (by decide +kernel) rfl, Or.inl rfl, tyX6_ok, nmX6, tyX6_ok 3 (by decide), rfl, fun _ => rfl⟩
theorem ac_boolean : Cond.arrayClass .boolean ∈ gws := gws_at 402 (by decide +kernel) rfl
theorem fp_6_24 : ∀ ci ∈ [6], xa_FP RX6 24 ci 4 (.array .boolean) true := fun ci hc => by
  cases List.mem_singleton.mp hc
  exact ⟨RX6, TX6, 7, "CrossedFavours$Sightings", tyX6, rfl, by decide, uw_6, gws_at 382 (by decide +kernel) rfl, Or.inl rfl, tyX6_ok, nmX6, tyX6_ok 4 (by decide), rfl, fun _ => rfl⟩
theorem kl_6_28 : Cond.classLink RX6 28 "[[I" ∈ gws := gws_at 377 (by decide +kernel) rfl
theorem fp_6_30 : ∀ ci ∈ [6], xa_FP RX6 30 ci 5 (.array (.array .int)) true := fun ci hc => by
  cases List.mem_singleton.mp hc
  exact ⟨RX6, TX6, 7, "CrossedFavours$Sightings", tyX6, rfl, by decide, uw_6, gws_at 383 (by decide +kernel) rfl, Or.inl rfl, tyX6_ok, nmX6, tyX6_ok 5 (by decide), rfl, fun _ => rfl⟩
theorem fp_6_33 : ∀ ci ∈ [6], xa_FP RX6 33 ci 6 (.int) false := fun ci hc => by
  cases List.mem_singleton.mp hc
  exact ⟨RX6, TX6, 7, "CrossedFavours$Sightings", tyX6, rfl, by decide, uw_6, gws_at 385 (by decide +kernel) rfl, Or.inl rfl, tyX6_ok, nmX6, tyX6_ok 6 (by decide), rfl, fun z => by cases z⟩
