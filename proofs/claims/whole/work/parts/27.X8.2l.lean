theorem sm2_8_X4_start : Cond.sameMethod "CrossedFavours$SongReader" "CrossedFavours$Reader" "start" "([II)V" ∈ gws := gws_at 772 (by decide +kernel) rfl
theorem ml_8_19 : Cond.methodLink RX8 19 (⟨"CrossedFavours$SongReader", "start", "([II)V"⟩ : MethodName) ∈ gws := gws_at 771 (by decide +kernel) rfl
theorem im_X4_start : Cond.instanceMethod yX4_start ∈ gws := gws_at 556 (by decide +kernel) rfl
theorem se_8_X4_start_8 : ∀ ci ∈ [8], ∃ (C : String) (T : u_T) (N : Nat), xclasses[ci]? = some (C, T, N) ∧ Cond.selects C (⟨"CrossedFavours$SongReader", "start", "([II)V"⟩ : MethodName) yX4_start ∈ gws := fun ci hc => by
  cases List.mem_singleton.mp hc
  exact ⟨RX8, TX8, 6, rfl, gws_at 773 (by decide +kernel) rfl⟩
theorem fp_8_15 : ∀ ci ∈ [8], xa_FP RX8 15 ci 5 (.int) false := fun ci hc => by
  cases List.mem_singleton.mp hc
  exact ⟨RX8, TX8, 6, "CrossedFavours$SongReader", tyX8, rfl, by decide, uw_8, gws_at 286 (by decide +kernel) rfl, Or.inl rfl, tyX8_ok, nmX8, tyX8_ok 5 (by decide), rfl, fun z => by cases z⟩
theorem sm2_8_X4_peek : Cond.sameMethod "CrossedFavours$SongReader" "CrossedFavours$Reader" "peek" "()I" ∈ gws := gws_at 775 (by decide +kernel) rfl
theorem ml_8_23 : Cond.methodLink RX8 23 (⟨"CrossedFavours$SongReader", "peek", "()I"⟩ : MethodName) ∈ gws := gws_at 774 (by decide +kernel) rfl
theorem se_8_X4_peek_8 : ∀ ci ∈ [8], ∃ (C : String) (T : u_T) (N : Nat), xclasses[ci]? = some (C, T, N) ∧ Cond.selects C (⟨"CrossedFavours$SongReader", "peek", "()I"⟩ : MethodName) yX4_peek ∈ gws := fun ci hc => by
  cases List.mem_singleton.mp hc
  exact ⟨RX8, TX8, 6, rfl, gws_at 776 (by decide +kernel) rfl⟩
theorem sm2_8_X4_isDigit : Cond.sameMethod "CrossedFavours$SongReader" "CrossedFavours$Reader" "isDigit" "(I)Z" ∈ gws := gws_at 778 (by decide +kernel) rfl
theorem ml_8_27 : Cond.methodLink RX8 27 (⟨"CrossedFavours$SongReader", "isDigit", "(I)Z"⟩ : MethodName) ∈ gws := gws_at 777 (by decide +kernel) rfl
theorem fl_8_9 : ∀ ci ∈ [8], xa_FL RX8 9 ci 4 := fun ci hc => by
  cases List.mem_singleton.mp hc
  exact ⟨RX8, TX8, 6, "CrossedFavours$SongReader", rfl, by decide, uw_8, gws_at 284 (by decide +kernel) rfl, Or.inl rfl⟩
theorem fl_8_31 : ∀ ci ∈ [8], xa_FL RX8 31 ci 2 := fun ci hc => by
  cases List.mem_singleton.mp hc
  exact ⟨RX8, TX8, 6, "CrossedFavours$SongReader", rfl, by decide, uw_8, gws_at 210 (by decide +kernel) rfl, Or.inr (gws_at 211 (by decide +kernel) rfl)⟩
theorem fp_8_31 : ∀ ci ∈ [8], xa_FP RX8 31 ci 2 (.int) false := fun ci hc => by
  cases List.mem_singleton.mp hc
  exact ⟨RX8, TX8, 6, "CrossedFavours$SongReader", tyX8, rfl, by decide, uw_8, gws_at 210 (by decide +kernel) rfl, Or.inr (gws_at 211 (by decide +kernel) rfl), tyX8_ok, nmX8, tyX8_ok 2 (by decide), rfl, fun z => by cases z⟩
theorem fl_8_15 : ∀ ci ∈ [8], xa_FL RX8 15 ci 5 := fun ci hc => by
  cases List.mem_singleton.mp hc
  exact ⟨RX8, TX8, 6, "CrossedFavours$SongReader", rfl, by decide, uw_8, gws_at 286 (by decide +kernel) rfl, Or.inl rfl⟩
theorem fp_8_34 : ∀ ci ∈ [8], xa_FP RX8 34 ci 3 (.boolean) false := fun ci hc => by
  cases List.mem_singleton.mp hc
  exact ⟨RX8, TX8, 6, "CrossedFavours$SongReader", tyX8, rfl, by decide, uw_8, gws_at 221 (by decide +kernel) rfl, Or.inr (gws_at 222 (by decide +kernel) rfl), tyX8_ok, nmX8, tyX8_ok 3 (by decide), rfl, fun z => by cases z⟩
theorem sm2_8_X4_wrongAt : Cond.sameMethod "CrossedFavours$SongReader" "CrossedFavours$Reader" "wrongAt" "()I" ∈ gws := gws_at 780 (by decide +kernel) rfl
theorem ml_8_38 : Cond.methodLink RX8 38 (⟨"CrossedFavours$SongReader", "wrongAt", "()I"⟩ : MethodName) ∈ gws := gws_at 779 (by decide +kernel) rfl
theorem im_X4_wrongAt : Cond.instanceMethod yX4_wrongAt ∈ gws := gws_at 689 (by decide +kernel) rfl
theorem se_8_X4_wrongAt_8 : ∀ ci ∈ [8], ∃ (C : String) (T : u_T) (N : Nat), xclasses[ci]? = some (C, T, N) ∧ Cond.selects C (⟨"CrossedFavours$SongReader", "wrongAt", "()I"⟩ : MethodName) yX4_wrongAt ∈ gws := fun ci hc => by
  cases List.mem_singleton.mp hc
  exact ⟨RX8, TX8, 6, rfl, gws_at 781 (by decide +kernel) rfl⟩
theorem mn_8_3 : Cond.methodLinkNest RX8 3 yX4_init "CrossedFavours" ∈ xa_nest := xa_nest_at 283 (by decide +kernel)
theorem im_X4_init : Cond.instanceMethod yX4_init ∈ gws := gws_at 146 (by decide +kernel) rfl
theorem fp_8_9 : ∀ ci ∈ [8], xa_FP RX8 9 ci 4 (.array .int) true := fun ci hc => by
  cases List.mem_singleton.mp hc
  exact ⟨RX8, TX8, 6, "CrossedFavours$SongReader", tyX8, rfl, by decide, uw_8, gws_at 284 (by decide +kernel) rfl, Or.inl rfl, tyX8_ok, nmX8, tyX8_ok 4 (by decide), rfl, fun _ => rfl⟩
