theorem fl_11_43 : ∀ ci ∈ [11], xa_FL RX11 43 ci 5 := fun ci hc => by
  cases List.mem_singleton.mp hc
  exact ⟨RX11, TX11, 19, "CrossedFavours", rfl, by decide, uw_11, gws_at 476 (by decide +kernel) rfl, Or.inl rfl⟩
theorem ml_11_221 : Cond.methodLink RX11 221 yX5_has ∈ gws := gws_at 821 (by decide +kernel) rfl
theorem im_X5_has : Cond.instanceMethod yX5_has ∈ gws := gws_at 822 (by decide +kernel) rfl
theorem se_5_X5_has : ∀ ci ∈ [5], ∃ (C : String) (T : u_T) (N : Nat), xclasses[ci]? = some (C, T, N) ∧ Cond.selects C yX5_has yX5_has ∈ gws := fun ci hc => by
  cases List.mem_singleton.mp hc
  exact ⟨RX5, TX5, 4, rfl, gws_at 823 (by decide +kernel) rfl⟩
theorem fl_11_56 : ∀ ci ∈ [11], xa_FL RX11 56 ci 8 := fun ci hc => by
  cases List.mem_singleton.mp hc
  exact ⟨RX11, TX11, 19, "CrossedFavours", rfl, by decide, uw_11, gws_at 479 (by decide +kernel) rfl, Or.inl rfl⟩
theorem fl_11_49 : ∀ ci ∈ [11], xa_FL RX11 49 ci 6 := fun ci hc => by
  cases List.mem_singleton.mp hc
  exact ⟨RX11, TX11, 19, "CrossedFavours", rfl, by decide, uw_11, gws_at 477 (by decide +kernel) rfl, Or.inl rfl⟩
theorem ml_11_142 : Cond.methodLink RX11 142 yX0_become ∈ gws := gws_at 791 (by decide +kernel) rfl
theorem fl_11_198 : ∀ ci ∈ [5], xa_FL RX11 198 ci 0 := fun ci hc => by
  cases List.mem_singleton.mp hc
  exact ⟨RX5, TX5, 4, "CrossedFavours$Shelf", rfl, by decide, uw_5, gws_at 306 (by decide +kernel) rfl, Or.inl rfl⟩
theorem fl_11_202 : ∀ ci ∈ [5], xa_FL RX11 202 ci 1 := fun ci hc => by
  cases List.mem_singleton.mp hc
  exact ⟨RX5, TX5, 4, "CrossedFavours$Shelf", rfl, by decide, uw_5, gws_at 308 (by decide +kernel) rfl, Or.inl rfl⟩
theorem ml_11_298 : Cond.methodLink RX11 298 yX0_follow ∈ gws := gws_at 996 (by decide +kernel) rfl
theorem im_X0_follow : Cond.instanceMethod yX0_follow ∈ gws := gws_at 997 (by decide +kernel) rfl
theorem se_0_X0_follow : ∀ ci ∈ [0], ∃ (C : String) (T : u_T) (N : Nat), xclasses[ci]? = some (C, T, N) ∧ Cond.selects C yX0_follow yX0_follow ∈ gws := fun ci hc => by
  cases List.mem_singleton.mp hc
  exact ⟨RX0, TX0, 9, rfl, gws_at 998 (by decide +kernel) rfl⟩
theorem ml_11_157 : Cond.methodLink RX11 157 yX0_has ∈ gws := gws_at 811 (by decide +kernel) rfl
theorem co_11_220 : Cond.constant RX11 220 (-1000000) ∈ gws := gws_at 816 (by decide +kernel) rfl
theorem ml_11_294 : Cond.methodLink RX11 294 yX11_sungApart ∈ gws := gws_at 992 (by decide +kernel) rfl
theorem im_X11_sungApart : Cond.instanceMethod yX11_sungApart ∈ gws := gws_at 994 (by decide +kernel) rfl
theorem se_11_X11_sungApart : ∀ ci ∈ [11], ∃ (C : String) (T : u_T) (N : Nat), xclasses[ci]? = some (C, T, N) ∧ Cond.selects C yX11_sungApart yX11_sungApart ∈ gws := fun ci hc => by
  cases List.mem_singleton.mp hc
  exact ⟨RX11, TX11, 19, rfl, gws_at 27 (by decide +kernel) rfl⟩
theorem ml_11_217 : Cond.methodLink RX11 217 yX0_debt ∈ gws := gws_at 815 (by decide +kernel) rfl
theorem fl_11_154 : ∀ ci ∈ [0], xa_FL RX11 154 ci 4 := fun ci hc => by
  cases List.mem_singleton.mp hc
  exact ⟨RX0, TX0, 9, "CrossedFavours$Board", rfl, by decide, uw_0, gws_at 168 (by decide +kernel) rfl, Or.inl rfl⟩
theorem ml_11_302 : Cond.methodLink RX11 302 yX0_hasDebtsOf ∈ gws := gws_at 1010 (by decide +kernel) rfl
theorem im_X0_hasDebtsOf : Cond.instanceMethod yX0_hasDebtsOf ∈ gws := gws_at 1011 (by decide +kernel) rfl
theorem se_0_X0_hasDebtsOf : ∀ ci ∈ [0], ∃ (C : String) (T : u_T) (N : Nat), xclasses[ci]? = some (C, T, N) ∧ Cond.selects C yX0_hasDebtsOf yX0_hasDebtsOf ∈ gws := fun ci hc => by
  cases List.mem_singleton.mp hc
  exact ⟨RX0, TX0, 9, rfl, gws_at 1012 (by decide +kernel) rfl⟩
theorem ml_11_305 : Cond.methodLink RX11 305 yX0_hasWorthsOf ∈ gws := gws_at 1014 (by decide +kernel) rfl
theorem im_X0_hasWorthsOf : Cond.instanceMethod yX0_hasWorthsOf ∈ gws := gws_at 1015 (by decide +kernel) rfl
theorem se_0_X0_hasWorthsOf : ∀ ci ∈ [0], ∃ (C : String) (T : u_T) (N : Nat), xclasses[ci]? = some (C, T, N) ∧ Cond.selects C yX0_hasWorthsOf yX0_hasWorthsOf ∈ gws := fun ci hc => by
  cases List.mem_singleton.mp hc
  exact ⟨RX0, TX0, 9, rfl, gws_at 1016 (by decide +kernel) rfl⟩
theorem fl_11_53 : ∀ ci ∈ [11], xa_FL RX11 53 ci 7 := fun ci hc => by
  cases List.mem_singleton.mp hc
  exact ⟨RX11, TX11, 19, "CrossedFavours", rfl, by decide, uw_11, gws_at 478 (by decide +kernel) rfl, Or.inl rfl⟩
theorem fl_11_76 : ∀ ci ∈ [11], xa_FL RX11 76 ci 11 := fun ci hc => by
  cases List.mem_singleton.mp hc
  exact ⟨RX11, TX11, 19, "CrossedFavours", rfl, by decide, uw_11, gws_at 482 (by decide +kernel) rfl, Or.inl rfl⟩
theorem ml_11_338 : Cond.methodLink RX11 338 yX6_agree ∈ gws := gws_at 1102 (by decide +kernel) rfl
theorem im_X6_agree : Cond.instanceMethod yX6_agree ∈ gws := gws_at 1103 (by decide +kernel) rfl
theorem se_6_X6_agree : ∀ ci ∈ [6], ∃ (C : String) (T : u_T) (N : Nat), xclasses[ci]? = some (C, T, N) ∧ Cond.selects C yX6_agree yX6_agree ∈ gws := fun ci hc => by
  cases List.mem_singleton.mp hc
  exact ⟨RX6, TX6, 7, rfl, gws_at 1104 (by decide +kernel) rfl⟩
theorem ml_11_180 : Cond.methodLink RX11 180 yX0_incoming ∈ gws := gws_at 841 (by decide +kernel) rfl
theorem im_X0_incoming : Cond.instanceMethod yX0_incoming ∈ gws := gws_at 842 (by decide +kernel) rfl
theorem se_0_X0_incoming : ∀ ci ∈ [0], ∃ (C : String) (T : u_T) (N : Nat), xclasses[ci]? = some (C, T, N) ∧ Cond.selects C yX0_incoming yX0_incoming ∈ gws := fun ci hc => by
  cases List.mem_singleton.mp hc
  exact ⟨RX0, TX0, 9, rfl, gws_at 843 (by decide +kernel) rfl⟩
theorem ml_11_183 : Cond.methodLink RX11 183 yX0_outgoing ∈ gws := gws_at 846 (by decide +kernel) rfl
theorem im_X0_outgoing : Cond.instanceMethod yX0_outgoing ∈ gws := gws_at 847 (by decide +kernel) rfl
theorem se_0_X0_outgoing : ∀ ci ∈ [0], ∃ (C : String) (T : u_T) (N : Nat), xclasses[ci]? = some (C, T, N) ∧ Cond.selects C yX0_outgoing yX0_outgoing ∈ gws := fun ci hc => by
  cases List.mem_singleton.mp hc
  exact ⟨RX0, TX0, 9, rfl, gws_at 848 (by decide +kernel) rfl⟩
theorem fl_11_168 : ∀ ci ∈ [0], xa_FL RX11 168 ci 1 := fun ci hc => by
  cases List.mem_singleton.mp hc
  exact ⟨RX0, TX0, 9, "CrossedFavours$Board", rfl, by decide, uw_0, gws_at 158 (by decide +kernel) rfl, Or.inl rfl⟩
theorem fl_11_177 : ∀ ci ∈ [0], xa_FL RX11 177 ci 3 := fun ci hc => by
  cases List.mem_singleton.mp hc
  exact ⟨RX0, TX0, 9, "CrossedFavours$Board", rfl, by decide, uw_0, gws_at 163 (by decide +kernel) rfl, Or.inl rfl⟩
theorem fl_11_171 : ∀ ci ∈ [0], xa_FL RX11 171 ci 2 := fun ci hc => by
  cases List.mem_singleton.mp hc
  exact ⟨RX0, TX0, 9, "CrossedFavours$Board", rfl, by decide, uw_0, gws_at 161 (by decide +kernel) rfl, Or.inl rfl⟩
theorem ml_11_378 : Cond.methodLink RX11 378 yX11_amountOf ∈ gws := gws_at 1171 (by decide +kernel) rfl
theorem im_X11_amountOf : Cond.instanceMethod yX11_amountOf ∈ gws := gws_at 1173 (by decide +kernel) rfl
theorem se_11_X11_amountOf : ∀ ci ∈ [11], ∃ (C : String) (T : u_T) (N : Nat), xclasses[ci]? = some (C, T, N) ∧ Cond.selects C yX11_amountOf yX11_amountOf ∈ gws := fun ci hc => by
  cases List.mem_singleton.mp hc
  exact ⟨RX11, TX11, 19, rfl, gws_at 40 (by decide +kernel) rfl⟩
theorem ml_11_174 : Cond.methodLink RX11 174 yX0_isKept ∈ gws := gws_at 856 (by decide +kernel) rfl
theorem ml_11_232 : Cond.methodLink RX11 232 yX0_canTurn ∈ gws := gws_at 860 (by decide +kernel) rfl
theorem ml_11_381 : Cond.methodLink RX11 381 yX11_isSuch ∈ gws := gws_at 1179 (by decide +kernel) rfl
theorem im_X11_isSuch : Cond.instanceMethod yX11_isSuch ∈ gws := gws_at 1181 (by decide +kernel) rfl
theorem se_11_X11_isSuch : ∀ ci ∈ [11], ∃ (C : String) (T : u_T) (N : Nat), xclasses[ci]? = some (C, T, N) ∧ Cond.selects C yX11_isSuch yX11_isSuch ∈ gws := fun ci hc => by
  cases List.mem_singleton.mp hc
  exact ⟨RX11, TX11, 19, rfl, gws_at 42 (by decide +kernel) rfl⟩
theorem ml_11_366 : Cond.methodLink RX11 366 yX11_houseWithMost ∈ gws := gws_at 1167 (by decide +kernel) rfl
theorem im_X11_houseWithMost : Cond.instanceMethod yX11_houseWithMost ∈ gws := gws_at 1169 (by decide +kernel) rfl
theorem se_11_X11_houseWithMost : ∀ ci ∈ [11], ∃ (C : String) (T : u_T) (N : Nat), xclasses[ci]? = some (C, T, N) ∧ Cond.selects C yX11_houseWithMost yX11_houseWithMost ∈ gws := fun ci hc => by
  cases List.mem_singleton.mp hc
  exact ⟨RX11, TX11, 19, rfl, gws_at 39 (by decide +kernel) rfl⟩
theorem ml_11_369 : Cond.methodLink RX11 369 yX11_housesThatAre ∈ gws := gws_at 1175 (by decide +kernel) rfl
theorem im_X11_housesThatAre : Cond.instanceMethod yX11_housesThatAre ∈ gws := gws_at 1177 (by decide +kernel) rfl
theorem se_11_X11_housesThatAre : ∀ ci ∈ [11], ∃ (C : String) (T : u_T) (N : Nat), xclasses[ci]? = some (C, T, N) ∧ Cond.selects C yX11_housesThatAre yX11_housesThatAre ∈ gws := fun ci hc => by
  cases List.mem_singleton.mp hc
  exact ⟨RX11, TX11, 19, rfl, gws_at 41 (by decide +kernel) rfl⟩
theorem ml_11_247 : Cond.methodLink RX11 247 yX0_favours ∈ gws := gws_at 911 (by decide +kernel) rfl
theorem ml_11_372 : Cond.methodLink RX11 372 yX0_pairs ∈ gws := gws_at 1183 (by decide +kernel) rfl
theorem im_X0_pairs : Cond.instanceMethod yX0_pairs ∈ gws := gws_at 1184 (by decide +kernel) rfl
theorem se_0_X0_pairs : ∀ ci ∈ [0], ∃ (C : String) (T : u_T) (N : Nat), xclasses[ci]? = some (C, T, N) ∧ Cond.selects C yX0_pairs yX0_pairs ∈ gws := fun ci hc => by
  cases List.mem_singleton.mp hc
  exact ⟨RX0, TX0, 9, rfl, gws_at 1185 (by decide +kernel) rfl⟩
theorem ml_11_250 : Cond.methodLink RX11 250 yX0_levels ∈ gws := gws_at 915 (by decide +kernel) rfl
theorem ml_11_375 : Cond.methodLink RX11 375 yX0_mostBetweenTwo ∈ gws := gws_at 1187 (by decide +kernel) rfl
theorem fl_11_100 : ∀ ci ∈ [11], xa_FL RX11 100 ci 16 := fun ci hc => by
  cases List.mem_singleton.mp hc
  exact ⟨RX11, TX11, 19, "CrossedFavours", rfl, by decide, uw_11, gws_at 487 (by decide +kernel) rfl, Or.inl rfl⟩
theorem fl_11_9 : ∀ ci ∈ [11], xa_FL RX11 9 ci 0 := fun ci hc => by
  cases List.mem_singleton.mp hc
  exact ⟨RX11, TX11, 19, "CrossedFavours", rfl, by decide, uw_11, gws_at 471 (by decide +kernel) rfl, Or.inl rfl⟩
theorem fp_11_100 : ∀ ci ∈ [11], xa_FP RX11 100 ci 16 (.int) false := fun ci hc => by
  cases List.mem_singleton.mp hc
  exact ⟨RX11, TX11, 19, "CrossedFavours", tyX11, rfl, by decide, uw_11, gws_at 487 (by decide +kernel) rfl, Or.inl rfl, tyX11_ok, nmX11, tyX11_ok 16 (by decide), rfl, fun z => by cases z⟩
theorem fl_11_191 : ∀ ci ∈ [5], xa_FL RX11 191 ci 3 := fun ci hc => by
  cases List.mem_singleton.mp hc
  exact ⟨RX5, TX5, 4, "CrossedFavours$Shelf", rfl, by decide, uw_5, gws_at 311 (by decide +kernel) rfl, Or.inl rfl⟩
theorem ml_11_335 : Cond.methodLink RX11 335 yX11_agrees ∈ gws := gws_at 1098 (by decide +kernel) rfl
theorem im_X11_agrees : Cond.instanceMethod yX11_agrees ∈ gws := gws_at 1100 (by decide +kernel) rfl
theorem se_11_X11_agrees : ∀ ci ∈ [11], ∃ (C : String) (T : u_T) (N : Nat), xclasses[ci]? = some (C, T, N) ∧ Cond.selects C yX11_agrees yX11_agrees ∈ gws := fun ci hc => by
  cases List.mem_singleton.mp hc
  exact ⟨RX11, TX11, 19, rfl, gws_at 34 (by decide +kernel) rfl⟩
theorem fl_11_351 : ∀ ci ∈ [6], xa_FL RX11 351 ci 5 := fun ci hc => by
  cases List.mem_singleton.mp hc
  exact ⟨RX6, TX6, 7, "CrossedFavours$Sightings", rfl, by decide, uw_6, gws_at 384 (by decide +kernel) rfl, Or.inl rfl⟩
theorem ml_11_342 : Cond.methodLink RX11 342 yX11_fits ∈ gws := gws_at 1111 (by decide +kernel) rfl
theorem im_X11_fits : Cond.instanceMethod yX11_fits ∈ gws := gws_at 1095 (by decide +kernel) rfl
theorem se_11_X11_fits : ∀ ci ∈ [11], ∃ (C : String) (T : u_T) (N : Nat), xclasses[ci]? = some (C, T, N) ∧ Cond.selects C yX11_fits yX11_fits ∈ gws := fun ci hc => by
  cases List.mem_singleton.mp hc
  exact ⟨RX11, TX11, 19, rfl, gws_at 1096 (by decide +kernel) rfl⟩
theorem ml_11_345 : Cond.methodLink RX11 345 yX11_foretell ∈ gws := gws_at 1112 (by decide +kernel) rfl
theorem im_X11_foretell : Cond.instanceMethod yX11_foretell ∈ gws := gws_at 1114 (by decide +kernel) rfl
theorem se_11_X11_foretell : ∀ ci ∈ [11], ∃ (C : String) (T : u_T) (N : Nat), xclasses[ci]? = some (C, T, N) ∧ Cond.selects C yX11_foretell yX11_foretell ∈ gws := fun ci hc => by
  cases List.mem_singleton.mp hc
  exact ⟨RX11, TX11, 19, rfl, gws_at 35 (by decide +kernel) rfl⟩
theorem ml_11_348 : Cond.methodLink RX11 348 yX6_mostAlike ∈ gws := gws_at 1116 (by decide +kernel) rfl
theorem im_X6_mostAlike : Cond.instanceMethod yX6_mostAlike ∈ gws := gws_at 1117 (by decide +kernel) rfl
theorem se_6_X6_mostAlike : ∀ ci ∈ [6], ∃ (C : String) (T : u_T) (N : Nat), xclasses[ci]? = some (C, T, N) ∧ Cond.selects C yX6_mostAlike yX6_mostAlike ∈ gws := fun ci hc => by
  cases List.mem_singleton.mp hc
  exact ⟨RX6, TX6, 7, rfl, gws_at 1118 (by decide +kernel) rfl⟩
theorem fl_11_69 : ∀ ci ∈ [11], xa_FL RX11 69 ci 10 := fun ci hc => by
  cases List.mem_singleton.mp hc
  exact ⟨RX11, TX11, 19, "CrossedFavours", rfl, by decide, uw_11, gws_at 481 (by decide +kernel) rfl, Or.inl rfl⟩
theorem fl_11_62 : ∀ ci ∈ [11], xa_FL RX11 62 ci 9 := fun ci hc => by
  cases List.mem_singleton.mp hc
  exact ⟨RX11, TX11, 19, "CrossedFavours", rfl, by decide, uw_11, gws_at 480 (by decide +kernel) rfl, Or.inl rfl⟩
theorem ml_11_388 : Cond.methodLink RX11 388 yX3_bringBack ∈ gws := gws_at 1205 (by decide +kernel) rfl
theorem im_X3_bringBack : Cond.instanceMethod yX3_bringBack ∈ gws := gws_at 1206 (by decide +kernel) rfl
theorem se_3_X3_bringBack : ∀ ci ∈ [3], ∃ (C : String) (T : u_T) (N : Nat), xclasses[ci]? = some (C, T, N) ∧ Cond.selects C yX3_bringBack yX3_bringBack ∈ gws := fun ci hc => by
  cases List.mem_singleton.mp hc
  exact ⟨RX3, TX3, 6, rfl, gws_at 1207 (by decide +kernel) rfl⟩
theorem fl_11_195 : ∀ ci ∈ [0], xa_FL RX11 195 ci 8 := fun ci hc => by
  cases List.mem_singleton.mp hc
  exact ⟨RX0, TX0, 9, "CrossedFavours$Board", rfl, by decide, uw_0, gws_at 179 (by decide +kernel) rfl, Or.inl rfl⟩
theorem fl_11_97 : ∀ ci ∈ [11], xa_FL RX11 97 ci 15 := fun ci hc => by
  cases List.mem_singleton.mp hc
  exact ⟨RX11, TX11, 19, "CrossedFavours", rfl, by decide, uw_11, gws_at 486 (by decide +kernel) rfl, Or.inl rfl⟩
theorem ml_11_311 : Cond.methodLink RX11 311 yX11_placeFits ∈ gws := gws_at 1026 (by decide +kernel) rfl
theorem im_X11_placeFits : Cond.instanceMethod yX11_placeFits ∈ gws := gws_at 1028 (by decide +kernel) rfl
theorem se_11_X11_placeFits : ∀ ci ∈ [11], ∃ (C : String) (T : u_T) (N : Nat), xclasses[ci]? = some (C, T, N) ∧ Cond.selects C yX11_placeFits yX11_placeFits ∈ gws := fun ci hc => by
  cases List.mem_singleton.mp hc
  exact ⟨RX11, TX11, 19, rfl, gws_at 29 (by decide +kernel) rfl⟩
theorem ml_11_308 : Cond.methodLink RX11 308 yX11_canPlace ∈ gws := gws_at 1022 (by decide +kernel) rfl
theorem im_X11_canPlace : Cond.instanceMethod yX11_canPlace ∈ gws := gws_at 1024 (by decide +kernel) rfl
theorem se_11_X11_canPlace : ∀ ci ∈ [11], ∃ (C : String) (T : u_T) (N : Nat), xclasses[ci]? = some (C, T, N) ∧ Cond.selects C yX11_canPlace yX11_canPlace ∈ gws := fun ci hc => by
  cases List.mem_singleton.mp hc
  exact ⟨RX11, TX11, 19, rfl, gws_at 28 (by decide +kernel) rfl⟩
theorem ml_11_330 : Cond.methodLink RX11 330 yX0_steps ∈ gws := gws_at 1078 (by decide +kernel) rfl
theorem im_X0_steps : Cond.instanceMethod yX0_steps ∈ gws := gws_at 1079 (by decide +kernel) rfl
theorem se_0_X0_steps : ∀ ci ∈ [0], ∃ (C : String) (T : u_T) (N : Nat), xclasses[ci]? = some (C, T, N) ∧ Cond.selects C yX0_steps yX0_steps ∈ gws := fun ci hc => by
  cases List.mem_singleton.mp hc
  exact ⟨RX0, TX0, 9, rfl, gws_at 1080 (by decide +kernel) rfl⟩
theorem fl_11_104 : ∀ ci ∈ [11], xa_FL RX11 104 ci 17 := fun ci hc => by
  cases List.mem_singleton.mp hc
  exact ⟨RX11, TX11, 19, "CrossedFavours", rfl, by decide, uw_11, gws_at 488 (by decide +kernel) rfl, Or.inl rfl⟩
theorem fl_11_39 : ∀ ci ∈ [11], xa_FL RX11 39 ci 4 := fun ci hc => by
  cases List.mem_singleton.mp hc
  exact ⟨RX11, TX11, 19, "CrossedFavours", rfl, by decide, uw_11, gws_at 475 (by decide +kernel) rfl, Or.inl rfl⟩
theorem fl_11_23 : ∀ ci ∈ [11], xa_FL RX11 23 ci 2 := fun ci hc => by
  cases List.mem_singleton.mp hc
  exact ⟨RX11, TX11, 19, "CrossedFavours", rfl, by decide, uw_11, gws_at 473 (by decide +kernel) rfl, Or.inl rfl⟩
theorem fl_11_192 : ∀ ci ∈ [2], xa_FL RX11 192 ci 4 := fun ci hc => by
  cases List.mem_singleton.mp hc
  exact ⟨RX2, TX2, 7, "CrossedFavours$LawReader", rfl, by decide, uw_2, gws_at 262 (by decide +kernel) rfl, Or.inl rfl⟩
theorem ml_11_121 : Cond.methodLink RX11 121 yX2_read ∈ gws := gws_at 691 (by decide +kernel) rfl
theorem im_X2_read : Cond.instanceMethod yX2_read ∈ gws := gws_at 692 (by decide +kernel) rfl
theorem se_2_X2_read : ∀ ci ∈ [2], ∃ (C : String) (T : u_T) (N : Nat), xclasses[ci]? = some (C, T, N) ∧ Cond.selects C yX2_read yX2_read ∈ gws := fun ci hc => by
  cases List.mem_singleton.mp hc
  exact ⟨RX2, TX2, 7, rfl, gws_at 693 (by decide +kernel) rfl⟩
theorem fl_11_205 : ∀ ci ∈ [2], xa_FL RX11 205 ci 5 := fun ci hc => by
  cases List.mem_singleton.mp hc
  exact ⟨RX2, TX2, 7, "CrossedFavours$LawReader", rfl, by decide, uw_2, gws_at 264 (by decide +kernel) rfl, Or.inl rfl⟩
theorem mw_11_208 : xa_mw RX11 208 Lib.Math.min.name Lib.Math.min.code 2 (some .int) := ⟨gws_at 850 (by decide +kernel) rfl, gws_at 559 (by decide +kernel) rfl, gws_at 123 (by decide +kernel) rfl, gws_at 560 (by decide +kernel) rfl⟩
theorem mw_11_214 : xa_mw RX11 214 Lib.Math.max.name Lib.Math.max.code 2 (some .int) := ⟨gws_at 851 (by decide +kernel) rfl, gws_at 562 (by decide +kernel) rfl, gws_at 123 (by decide +kernel) rfl, gws_at 563 (by decide +kernel) rfl⟩
theorem fl_11_257 : ∀ ci ∈ [0], xa_FL RX11 257 ci 5 := fun ci hc => by
  cases List.mem_singleton.mp hc
  exact ⟨RX0, TX0, 9, "CrossedFavours$Board", rfl, by decide, uw_0, gws_at 171 (by decide +kernel) rfl, Or.inl rfl⟩
theorem fl_11_235 : ∀ ci ∈ [0], xa_FL RX11 235 ci 7 := fun ci hc => by
  cases List.mem_singleton.mp hc
  exact ⟨RX0, TX0, 9, "CrossedFavours$Board", rfl, by decide, uw_0, gws_at 177 (by decide +kernel) rfl, Or.inl rfl⟩
theorem fl_11_107 : ∀ ci ∈ [11], xa_FL RX11 107 ci 18 := fun ci hc => by
  cases List.mem_singleton.mp hc
  exact ⟨RX11, TX11, 19, "CrossedFavours", rfl, by decide, uw_11, gws_at 489 (by decide +kernel) rfl, Or.inl rfl⟩
theorem fl_11_153 : ∀ ci ∈ [6], xa_FL RX11 153 ci 6 := fun ci hc => by
  cases List.mem_singleton.mp hc
  exact ⟨RX6, TX6, 7, "CrossedFavours$Sightings", rfl, by decide, uw_6, gws_at 386 (by decide +kernel) rfl, Or.inl rfl⟩
theorem ml_11_289 : Cond.methodLink RX11 289 yX11_logLength ∈ gws := gws_at 980 (by decide +kernel) rfl
theorem im_X11_logLength : Cond.instanceMethod yX11_logLength ∈ gws := gws_at 982 (by decide +kernel) rfl
theorem se_11_X11_logLength : ∀ ci ∈ [11], ∃ (C : String) (T : u_T) (N : Nat), xclasses[ci]? = some (C, T, N) ∧ Cond.selects C yX11_logLength yX11_logLength ∈ gws := fun ci hc => by
  cases List.mem_singleton.mp hc
  exact ⟨RX11, TX11, 19, rfl, gws_at 26 (by decide +kernel) rfl⟩
theorem fl_11_286 : ∀ ci ∈ [3], xa_FL RX11 286 ci 4 := fun ci hc => by
  cases List.mem_singleton.mp hc
  exact ⟨RX3, TX3, 6, "CrossedFavours$Memory", rfl, by decide, uw_3, gws_at 355 (by decide +kernel) rfl, Or.inl rfl⟩
theorem ml_11_244 : Cond.methodLink RX11 244 yX0_turnOver ∈ gws := gws_at 891 (by decide +kernel) rfl
theorem fp_11_195 : ∀ ci ∈ [0], xa_FP RX11 195 ci 8 (.int) false := fun ci hc => by
  cases List.mem_singleton.mp hc
  exact ⟨RX0, TX0, 9, "CrossedFavours$Board", tyX0, rfl, by decide, uw_0, gws_at 179 (by decide +kernel) rfl, Or.inl rfl, tyX0_ok, nmX0, tyX0_ok 8 (by decide), rfl, fun z => by cases z⟩
theorem ml_11_253 : Cond.methodLink RX11 253 yX1_write ∈ gws := gws_at 923 (by decide +kernel) rfl
theorem im_X1_write : Cond.instanceMethod yX1_write ∈ gws := gws_at 924 (by decide +kernel) rfl
theorem se_1_X1_write : ∀ ci ∈ [1], ∃ (C : String) (T : u_T) (N : Nat), xclasses[ci]? = some (C, T, N) ∧ Cond.selects C yX1_write yX1_write ∈ gws := fun ci hc => by
  cases List.mem_singleton.mp hc
  exact ⟨RX1, TX1, 3, rfl, gws_at 925 (by decide +kernel) rfl⟩
theorem ml_11_238 : Cond.methodLink RX11 238 yX3_remember ∈ gws := gws_at 881 (by decide +kernel) rfl
theorem im_X3_remember : Cond.instanceMethod yX3_remember ∈ gws := gws_at 882 (by decide +kernel) rfl
theorem se_3_X3_remember : ∀ ci ∈ [3], ∃ (C : String) (T : u_T) (N : Nat), xclasses[ci]? = some (C, T, N) ∧ Cond.selects C yX3_remember yX3_remember ∈ gws := fun ci hc => by
  cases List.mem_singleton.mp hc
  exact ⟨RX3, TX3, 6, rfl, gws_at 883 (by decide +kernel) rfl⟩
theorem fp_11_235 : ∀ ci ∈ [0], xa_FP RX11 235 ci 7 (.int) false := fun ci hc => by
  cases List.mem_singleton.mp hc
  exact ⟨RX0, TX0, 9, "CrossedFavours$Board", tyX0, rfl, by decide, uw_0, gws_at 177 (by decide +kernel) rfl, Or.inl rfl, tyX0_ok, nmX0, tyX0_ok 7 (by decide), rfl, fun z => by cases z⟩
theorem ml_11_241 : Cond.methodLink RX11 241 yX11_crossAndLog ∈ gws := gws_at 887 (by decide +kernel) rfl
theorem im_X11_crossAndLog : Cond.instanceMethod yX11_crossAndLog ∈ gws := gws_at 889 (by decide +kernel) rfl
theorem se_11_X11_crossAndLog : ∀ ci ∈ [11], ∃ (C : String) (T : u_T) (N : Nat), xclasses[ci]? = some (C, T, N) ∧ Cond.selects C yX11_crossAndLog yX11_crossAndLog ∈ gws := fun ci hc => by
  cases List.mem_singleton.mp hc
  exact ⟨RX11, TX11, 19, rfl, gws_at 23 (by decide +kernel) rfl⟩
theorem fl_11_94 : ∀ ci ∈ [11], xa_FL RX11 94 ci 14 := fun ci hc => by
  cases List.mem_singleton.mp hc
  exact ⟨RX11, TX11, 19, "CrossedFavours", rfl, by decide, uw_11, gws_at 485 (by decide +kernel) rfl, Or.inl rfl⟩
theorem ml_11_186 : Cond.methodLink RX11 186 yX11_costOf ∈ gws := gws_at 837 (by decide +kernel) rfl
theorem im_X11_costOf : Cond.instanceMethod yX11_costOf ∈ gws := gws_at 839 (by decide +kernel) rfl
theorem se_11_X11_costOf : ∀ ci ∈ [11], ∃ (C : String) (T : u_T) (N : Nat), xclasses[ci]? = some (C, T, N) ∧ Cond.selects C yX11_costOf yX11_costOf ∈ gws := fun ci hc => by
  cases List.mem_singleton.mp hc
  exact ⟨RX11, TX11, 19, rfl, gws_at 18 (by decide +kernel) rfl⟩
theorem ml_11_222 : Cond.methodLink RX11 222 yX11_hurdleOf ∈ gws := gws_at 852 (by decide +kernel) rfl
theorem im_X11_hurdleOf : Cond.instanceMethod yX11_hurdleOf ∈ gws := gws_at 854 (by decide +kernel) rfl
theorem se_11_X11_hurdleOf : ∀ ci ∈ [11], ∃ (C : String) (T : u_T) (N : Nat), xclasses[ci]? = some (C, T, N) ∧ Cond.selects C yX11_hurdleOf yX11_hurdleOf ∈ gws := fun ci hc => by
  cases List.mem_singleton.mp hc
  exact ⟨RX11, TX11, 19, rfl, gws_at 19 (by decide +kernel) rfl⟩
theorem ml_11_228 : Cond.methodLink RX11 228 yX11_crossFor ∈ gws := gws_at 877 (by decide +kernel) rfl
theorem im_X11_crossFor : Cond.instanceMethod yX11_crossFor ∈ gws := gws_at 879 (by decide +kernel) rfl
theorem se_11_X11_crossFor : ∀ ci ∈ [11], ∃ (C : String) (T : u_T) (N : Nat), xclasses[ci]? = some (C, T, N) ∧ Cond.selects C yX11_crossFor yX11_crossFor ∈ gws := fun ci hc => by
  cases List.mem_singleton.mp hc
  exact ⟨RX11, TX11, 19, rfl, gws_at 22 (by decide +kernel) rfl⟩
theorem ml_11_225 : Cond.methodLink RX11 225 yX11_refuse ∈ gws := gws_at 873 (by decide +kernel) rfl
theorem im_X11_refuse : Cond.instanceMethod yX11_refuse ∈ gws := gws_at 875 (by decide +kernel) rfl
theorem se_11_X11_refuse : ∀ ci ∈ [11], ∃ (C : String) (T : u_T) (N : Nat), xclasses[ci]? = some (C, T, N) ∧ Cond.selects C yX11_refuse yX11_refuse ∈ gws := fun ci hc => by
  cases List.mem_singleton.mp hc
  exact ⟨RX11, TX11, 19, rfl, gws_at 21 (by decide +kernel) rfl⟩
theorem fl_11_16 : ∀ ci ∈ [11], xa_FL RX11 16 ci 1 := fun ci hc => by
  cases List.mem_singleton.mp hc
  exact ⟨RX11, TX11, 19, "CrossedFavours", rfl, by decide, uw_11, gws_at 472 (by decide +kernel) rfl, Or.inl rfl⟩
theorem ml_11_117 : Cond.methodLink RX11 117 yX9_read ∈ gws := gws_at 548 (by decide +kernel) rfl
theorem im_X9_read : Cond.instanceMethod yX9_read ∈ gws := gws_at 549 (by decide +kernel) rfl
theorem se_9_X9_read : ∀ ci ∈ [9], ∃ (C : String) (T : u_T) (N : Nat), xclasses[ci]? = some (C, T, N) ∧ Cond.selects C yX9_read yX9_read ∈ gws := fun ci hc => by
  cases List.mem_singleton.mp hc
  exact ⟨RX9, TX9, 10, rfl, gws_at 550 (by decide +kernel) rfl⟩
theorem fl_11_30 : ∀ ci ∈ [11], xa_FL RX11 30 ci 3 := fun ci hc => by
  cases List.mem_singleton.mp hc
  exact ⟨RX11, TX11, 19, "CrossedFavours", rfl, by decide, uw_11, gws_at 474 (by decide +kernel) rfl, Or.inl rfl⟩
theorem ml_11_122 : Cond.methodLink RX11 122 yX8_read ∈ gws := gws_at 767 (by decide +kernel) rfl
theorem im_X8_read : Cond.instanceMethod yX8_read ∈ gws := gws_at 768 (by decide +kernel) rfl
theorem se_8_X8_read : ∀ ci ∈ [8], ∃ (C : String) (T : u_T) (N : Nat), xclasses[ci]? = some (C, T, N) ∧ Cond.selects C yX8_read yX8_read ∈ gws := fun ci hc => by
  cases List.mem_singleton.mp hc
  exact ⟨RX8, TX8, 6, rfl, gws_at 769 (by decide +kernel) rfl⟩
theorem ml_11_110 : Cond.methodLink RX11 110 yX11_bytesIn ∈ gws := gws_at 533 (by decide +kernel) rfl
theorem sm_X11_bytesIn : Cond.static yX11_bytesIn ∈ gws := gws_at 534 (by decide +kernel) rfl
theorem ml_11_114 : Cond.methodLink RX11 114 yX11_append ∈ gws := gws_at 536 (by decide +kernel) rfl
theorem im_X11_append : Cond.instanceMethod yX11_append ∈ gws := gws_at 538 (by decide +kernel) rfl
theorem se_11_X11_append : ∀ ci ∈ [11], ∃ (C : String) (T : u_T) (N : Nat), xclasses[ci]? = some (C, T, N) ∧ Cond.selects C yX11_append yX11_append ∈ gws := fun ci hc => by
  cases List.mem_singleton.mp hc
  exact ⟨RX11, TX11, 19, rfl, gws_at 0 (by decide +kernel) rfl⟩
theorem fl_11_83 : ∀ ci ∈ [11], xa_FL RX11 83 ci 12 := fun ci hc => by
  cases List.mem_singleton.mp hc
  exact ⟨RX11, TX11, 19, "CrossedFavours", rfl, by decide, uw_11, gws_at 483 (by decide +kernel) rfl, Or.inl rfl⟩
theorem ml_11_314 : Cond.methodLink RX11 314 yX10_search ∈ gws := gws_at 1034 (by decide +kernel) rfl
theorem im_X10_search : Cond.instanceMethod yX10_search ∈ gws := gws_at 1035 (by decide +kernel) rfl
theorem se_10_X10_search : ∀ ci ∈ [10], ∃ (C : String) (T : u_T) (N : Nat), xclasses[ci]? = some (C, T, N) ∧ Cond.selects C yX10_search yX10_search ∈ gws := fun ci hc => by
  cases List.mem_singleton.mp hc
  exact ⟨RX10, TX10, 11, rfl, gws_at 1036 (by decide +kernel) rfl⟩
theorem fl_11_327 : ∀ ci ∈ [10], xa_FL RX11 327 ci 10 := fun ci hc => by
  cases List.mem_singleton.mp hc
  exact ⟨RX10, TX10, 11, "CrossedFavours$Walk", rfl, by decide, uw_10, gws_at 425 (by decide +kernel) rfl, Or.inl rfl⟩
theorem fl_11_321 : ∀ ci ∈ [10], xa_FL RX11 321 ci 8 := fun ci hc => by
  cases List.mem_singleton.mp hc
  exact ⟨RX10, TX10, 11, "CrossedFavours$Walk", rfl, by decide, uw_10, gws_at 421 (by decide +kernel) rfl, Or.inl rfl⟩
theorem ml_11_260 : Cond.methodLink RX11 260 yX0_setDebt ∈ gws := gws_at 935 (by decide +kernel) rfl
theorem fp_11_107 : ∀ ci ∈ [11], xa_FP RX11 107 ci 18 (.int) false := fun ci hc => by
  cases List.mem_singleton.mp hc
  exact ⟨RX11, TX11, 19, "CrossedFavours", tyX11, rfl, by decide, uw_11, gws_at 489 (by decide +kernel) rfl, Or.inl rfl, tyX11_ok, nmX11, tyX11_ok 18 (by decide), rfl, fun z => by cases z⟩
theorem ml_11_384 : Cond.methodLink RX11 384 yX3_takeImage ∈ gws := gws_at 1192 (by decide +kernel) rfl
theorem im_X3_takeImage : Cond.instanceMethod yX3_takeImage ∈ gws := gws_at 1193 (by decide +kernel) rfl
theorem se_3_X3_takeImage : ∀ ci ∈ [3], ∃ (C : String) (T : u_T) (N : Nat), xclasses[ci]? = some (C, T, N) ∧ Cond.selects C yX3_takeImage yX3_takeImage ∈ gws := fun ci hc => by
  cases List.mem_singleton.mp hc
  exact ⟨RX3, TX3, 6, rfl, gws_at 1194 (by decide +kernel) rfl⟩
theorem oi_11_1 : Cond.methodLink RX11 1 objectInit ∈ gws ∧ Cond.instanceMethod objectInit ∈ gws ∧ Cond.code objectInit ⟨#[0xb1]⟩ 1 none ∈ gws := ⟨gws_at 137 (by decide +kernel) rfl, gws_at 138 (by decide +kernel) rfl, gws_at 139 (by decide +kernel) rfl⟩
theorem fp_11_9 : ∀ ci ∈ [11], xa_FP RX11 9 ci 0 (.array .int) true := fun ci hc => by
  cases List.mem_singleton.mp hc
  exact ⟨RX11, TX11, 19, "CrossedFavours", tyX11, rfl, by decide, uw_11, gws_at 471 (by decide +kernel) rfl, Or.inl rfl, tyX11_ok, nmX11, tyX11_ok 0 (by decide), rfl, fun _ => rfl⟩
theorem nw_11_13 : xa_NW RX11 13 9 [.null, .int 0, .int 0, .int 0, .null, .null, .int 0, .int 0, .int 0, .int 0] := ⟨RX9, TX9, 10, tyX9, rfl, uw_9, tyX9_ok, gws_at 140 (by decide +kernel) rfl, gws_at 141 (by decide +kernel) rfl, gws_at 111 (by decide +kernel) rfl, rfl, xa_dflt (fun _ => rfl) (by decide +kernel)⟩
theorem mn_11_15 : Cond.methodLinkNest RX11 15 yX9_init "CrossedFavours" ∈ xa_nest := xa_nest_at 142 (by decide +kernel)
theorem im_X9_init : Cond.instanceMethod yX9_init ∈ gws := gws_at 143 (by decide +kernel) rfl
theorem fp_11_16 : ∀ ci ∈ [11], xa_FP RX11 16 ci 1 (.object "CrossedFavours$VillageReader") true := fun ci hc => by
  cases List.mem_singleton.mp hc
  exact ⟨RX11, TX11, 19, "CrossedFavours", tyX11, rfl, by decide, uw_11, gws_at 472 (by decide +kernel) rfl, Or.inl rfl, tyX11_ok, nmX11, tyX11_ok 1 (by decide), rfl, fun _ => rfl⟩
theorem nw_11_20 : xa_NW RX11 20 2 [.null, .int 0, .int 0, .int 0, .null, .int 0, .int 0] := ⟨RX2, TX2, 7, tyX2, rfl, uw_2, tyX2_ok, gws_at 244 (by decide +kernel) rfl, gws_at 245 (by decide +kernel) rfl, gws_at 113 (by decide +kernel) rfl, rfl, xa_dflt (fun _ => rfl) (by decide +kernel)⟩
theorem mn_11_22 : Cond.methodLinkNest RX11 22 yX2_init "CrossedFavours" ∈ xa_nest := xa_nest_at 246 (by decide +kernel)
theorem im_X2_init : Cond.instanceMethod yX2_init ∈ gws := gws_at 247 (by decide +kernel) rfl
theorem fp_11_23 : ∀ ci ∈ [11], xa_FP RX11 23 ci 2 (.object "CrossedFavours$LawReader") true := fun ci hc => by
  cases List.mem_singleton.mp hc
  exact ⟨RX11, TX11, 19, "CrossedFavours", tyX11, rfl, by decide, uw_11, gws_at 473 (by decide +kernel) rfl, Or.inl rfl, tyX11_ok, nmX11, tyX11_ok 2 (by decide), rfl, fun _ => rfl⟩
theorem nw_11_27 : xa_NW RX11 27 8 [.null, .int 0, .int 0, .int 0, .null, .int 0] := ⟨RX8, TX8, 6, tyX8, rfl, uw_8, tyX8_ok, gws_at 278 (by decide +kernel) rfl, gws_at 279 (by decide +kernel) rfl, gws_at 115 (by decide +kernel) rfl, rfl, xa_dflt (fun _ => rfl) (by decide +kernel)⟩
theorem mn_11_29 : Cond.methodLinkNest RX11 29 yX8_init "CrossedFavours" ∈ xa_nest := xa_nest_at 280 (by decide +kernel)
theorem im_X8_init : Cond.instanceMethod yX8_init ∈ gws := gws_at 281 (by decide +kernel) rfl
theorem fp_11_30 : ∀ ci ∈ [11], xa_FP RX11 30 ci 3 (.object "CrossedFavours$SongReader") true := fun ci hc => by
  cases List.mem_singleton.mp hc
  exact ⟨RX11, TX11, 19, "CrossedFavours", tyX11, rfl, by decide, uw_11, gws_at 474 (by decide +kernel) rfl, Or.inl rfl, tyX11_ok, nmX11, tyX11_ok 3 (by decide), rfl, fun _ => rfl⟩
theorem nw_11_34 : xa_NW RX11 34 5 [.null, .null, .int 0, .int 0] := ⟨RX5, TX5, 4, tyX5, rfl, uw_5, tyX5_ok, gws_at 297 (by decide +kernel) rfl, gws_at 298 (by decide +kernel) rfl, gws_at 116 (by decide +kernel) rfl, rfl, xa_dflt (fun _ => rfl) (by decide +kernel)⟩
theorem ml_11_36 : Cond.methodLink RX11 36 yX5_init ∈ gws := gws_at 299 (by decide +kernel) rfl
theorem im_X5_init : Cond.instanceMethod yX5_init ∈ gws := gws_at 300 (by decide +kernel) rfl
theorem fp_11_39 : ∀ ci ∈ [11], xa_FP RX11 39 ci 4 (.object "CrossedFavours$Shelf") true := fun ci hc => by
  cases List.mem_singleton.mp hc
  exact ⟨RX11, TX11, 19, "CrossedFavours", tyX11, rfl, by decide, uw_11, gws_at 475 (by decide +kernel) rfl, Or.inl rfl, tyX11_ok, nmX11, tyX11_ok 4 (by decide), rfl, fun _ => rfl⟩
theorem fp_11_43 : ∀ ci ∈ [11], xa_FP RX11 43 ci 5 (.object "CrossedFavours$Shelf") true := fun ci hc => by
  cases List.mem_singleton.mp hc
  exact ⟨RX11, TX11, 19, "CrossedFavours", tyX11, rfl, by decide, uw_11, gws_at 476 (by decide +kernel) rfl, Or.inl rfl, tyX11_ok, nmX11, tyX11_ok 5 (by decide), rfl, fun _ => rfl⟩
theorem nw_11_46 : xa_NW RX11 46 0 [.null, .null, .null, .null, .int 0, .int 0, .int 0, .int 0, .int 0] := ⟨RX0, TX0, 9, tyX0, rfl, uw_0, tyX0_ok, gws_at 321 (by decide +kernel) rfl, gws_at 150 (by decide +kernel) rfl, gws_at 112 (by decide +kernel) rfl, rfl, xa_dflt (fun _ => rfl) (by decide +kernel)⟩
theorem mn_11_48 : Cond.methodLinkNest RX11 48 yX0_init "CrossedFavours" ∈ xa_nest := xa_nest_at 322 (by decide +kernel)
theorem fp_11_49 : ∀ ci ∈ [11], xa_FP RX11 49 ci 6 (.object "CrossedFavours$Board") true := fun ci hc => by
  cases List.mem_singleton.mp hc
  exact ⟨RX11, TX11, 19, "CrossedFavours", tyX11, rfl, by decide, uw_11, gws_at 477 (by decide +kernel) rfl, Or.inl rfl, tyX11_ok, nmX11, tyX11_ok 6 (by decide), rfl, fun _ => rfl⟩
theorem fp_11_53 : ∀ ci ∈ [11], xa_FP RX11 53 ci 7 (.object "CrossedFavours$Board") true := fun ci hc => by
  cases List.mem_singleton.mp hc
  exact ⟨RX11, TX11, 19, "CrossedFavours", tyX11, rfl, by decide, uw_11, gws_at 478 (by decide +kernel) rfl, Or.inl rfl, tyX11_ok, nmX11, tyX11_ok 7 (by decide), rfl, fun _ => rfl⟩
theorem fp_11_56 : ∀ ci ∈ [11], xa_FP RX11 56 ci 8 (.object "CrossedFavours$Board") true := fun ci hc => by
  cases List.mem_singleton.mp hc
  exact ⟨RX11, TX11, 19, "CrossedFavours", tyX11, rfl, by decide, uw_11, gws_at 479 (by decide +kernel) rfl, Or.inl rfl, tyX11_ok, nmX11, tyX11_ok 8 (by decide), rfl, fun _ => rfl⟩
theorem nw_11_59 : xa_NW RX11 59 1 [.null, .null, .null] := ⟨RX1, TX1, 3, tyX1, rfl, uw_1, tyX1_ok, gws_at 323 (by decide +kernel) rfl, gws_at 324 (by decide +kernel) rfl, gws_at 117 (by decide +kernel) rfl, rfl, xa_dflt (fun _ => rfl) (by decide +kernel)⟩
theorem mn_11_61 : Cond.methodLinkNest RX11 61 yX1_init "CrossedFavours" ∈ xa_nest := xa_nest_at 325 (by decide +kernel)
theorem fp_11_62 : ∀ ci ∈ [11], xa_FP RX11 62 ci 9 (.object "CrossedFavours$Chronicle") true := fun ci hc => by
  cases List.mem_singleton.mp hc
  exact ⟨RX11, TX11, 19, "CrossedFavours", tyX11, rfl, by decide, uw_11, gws_at 480 (by decide +kernel) rfl, Or.inl rfl, tyX11_ok, nmX11, tyX11_ok 9 (by decide), rfl, fun _ => rfl⟩
theorem nw_11_66 : xa_NW RX11 66 3 [.null, .null, .null, .int 0, .int 0, .int 0] := ⟨RX3, TX3, 6, tyX3, rfl, uw_3, tyX3_ok, gws_at 339 (by decide +kernel) rfl, gws_at 340 (by decide +kernel) rfl, gws_at 118 (by decide +kernel) rfl, rfl, xa_dflt (fun _ => rfl) (by decide +kernel)⟩
theorem ml_11_68 : Cond.methodLink RX11 68 yX3_init ∈ gws := gws_at 341 (by decide +kernel) rfl
theorem im_X3_init : Cond.instanceMethod yX3_init ∈ gws := gws_at 342 (by decide +kernel) rfl
theorem fp_11_69 : ∀ ci ∈ [11], xa_FP RX11 69 ci 10 (.object "CrossedFavours$Memory") true := fun ci hc => by
  cases List.mem_singleton.mp hc
  exact ⟨RX11, TX11, 19, "CrossedFavours", tyX11, rfl, by decide, uw_11, gws_at 481 (by decide +kernel) rfl, Or.inl rfl, tyX11_ok, nmX11, tyX11_ok 10 (by decide), rfl, fun _ => rfl⟩
theorem nw_11_73 : xa_NW RX11 73 6 [.null, .null, .null, .null, .null, .null, .int 0] := ⟨RX6, TX6, 7, tyX6, rfl, uw_6, tyX6_ok, gws_at 371 (by decide +kernel) rfl, gws_at 372 (by decide +kernel) rfl, gws_at 119 (by decide +kernel) rfl, rfl, xa_dflt (fun _ => rfl) (by decide +kernel)⟩
theorem mn_11_75 : Cond.methodLinkNest RX11 75 yX6_init "CrossedFavours" ∈ xa_nest := xa_nest_at 373 (by decide +kernel)
theorem im_X6_init : Cond.instanceMethod yX6_init ∈ gws := gws_at 374 (by decide +kernel) rfl
theorem fp_11_76 : ∀ ci ∈ [11], xa_FP RX11 76 ci 11 (.object "CrossedFavours$Sightings") true := fun ci hc => by
  cases List.mem_singleton.mp hc
  exact ⟨RX11, TX11, 19, "CrossedFavours", tyX11, rfl, by decide, uw_11, gws_at 482 (by decide +kernel) rfl, Or.inl rfl, tyX11_ok, nmX11, tyX11_ok 11 (by decide), rfl, fun _ => rfl⟩
theorem nw_11_80 : xa_NW RX11 80 10 [.null, .null, .null, .null, .int 0, .int 0, .int 0, .int 0, .int 0, .int 0, .int 0] := ⟨RX10, TX10, 11, tyX10, rfl, uw_10, tyX10_ok, gws_at 403 (by decide +kernel) rfl, gws_at 404 (by decide +kernel) rfl, gws_at 120 (by decide +kernel) rfl, rfl, xa_dflt (fun _ => rfl) (by decide +kernel)⟩
theorem ml_11_82 : Cond.methodLink RX11 82 yX10_init ∈ gws := gws_at 405 (by decide +kernel) rfl
theorem im_X10_init : Cond.instanceMethod yX10_init ∈ gws := gws_at 406 (by decide +kernel) rfl
theorem fp_11_83 : ∀ ci ∈ [11], xa_FP RX11 83 ci 12 (.object "CrossedFavours$Walk") true := fun ci hc => by
  cases List.mem_singleton.mp hc
  exact ⟨RX11, TX11, 19, "CrossedFavours", tyX11, rfl, by decide, uw_11, gws_at 483 (by decide +kernel) rfl, Or.inl rfl, tyX11_ok, nmX11, tyX11_ok 12 (by decide), rfl, fun _ => rfl⟩
theorem nw_11_87 : xa_NW RX11 87 7 [.null, .null, .int 0, .int 0] := ⟨RX7, TX7, 4, tyX7, rfl, uw_7, tyX7_ok, gws_at 450 (by decide +kernel) rfl, gws_at 451 (by decide +kernel) rfl, gws_at 121 (by decide +kernel) rfl, rfl, xa_dflt (fun _ => rfl) (by decide +kernel)⟩
theorem ml_11_89 : Cond.methodLink RX11 89 yX7_init ∈ gws := gws_at 452 (by decide +kernel) rfl
theorem im_X7_init : Cond.instanceMethod yX7_init ∈ gws := gws_at 453 (by decide +kernel) rfl
theorem fp_11_90 : ∀ ci ∈ [11], xa_FP RX11 90 ci 13 (.object "CrossedFavours$Slips") true := fun ci hc => by
  cases List.mem_singleton.mp hc
  exact ⟨RX11, TX11, 19, "CrossedFavours", tyX11, rfl, by decide, uw_11, gws_at 484 (by decide +kernel) rfl, Or.inl rfl, tyX11_ok, nmX11, tyX11_ok 13 (by decide), rfl, fun _ => rfl⟩
theorem fp_11_94 : ∀ ci ∈ [11], xa_FP RX11 94 ci 14 (.array .int) true := fun ci hc => by
  cases List.mem_singleton.mp hc
  exact ⟨RX11, TX11, 19, "CrossedFavours", tyX11, rfl, by decide, uw_11, gws_at 485 (by decide +kernel) rfl, Or.inl rfl, tyX11_ok, nmX11, tyX11_ok 14 (by decide), rfl, fun _ => rfl⟩
theorem fp_11_97 : ∀ ci ∈ [11], xa_FP RX11 97 ci 15 (.array .int) true := fun ci hc => by
  cases List.mem_singleton.mp hc
  exact ⟨RX11, TX11, 19, "CrossedFavours", tyX11, rfl, by decide, uw_11, gws_at 486 (by decide +kernel) rfl, Or.inl rfl, tyX11_ok, nmX11, tyX11_ok 15 (by decide), rfl, fun _ => rfl⟩
theorem fp_11_104 : ∀ ci ∈ [11], xa_FP RX11 104 ci 17 (.int) false := fun ci hc => by
  cases List.mem_singleton.mp hc
  exact ⟨RX11, TX11, 19, "CrossedFavours", tyX11, rfl, by decide, uw_11, gws_at 488 (by decide +kernel) rfl, Or.inl rfl, tyX11_ok, nmX11, tyX11_ok 17 (by decide), rfl, fun z => by cases z⟩
theorem ml_11_358 : Cond.methodLink RX11 358 yX11_game ∈ gws := gws_at 1133 (by decide +kernel) rfl
theorem im_X11_game : Cond.instanceMethod yX11_game ∈ gws := gws_at 1122 (by decide +kernel) rfl
theorem se_11_X11_game : ∀ ci ∈ [11], ∃ (C : String) (T : u_T) (N : Nat), xclasses[ci]? = some (C, T, N) ∧ Cond.selects C yX11_game yX11_game ∈ gws := fun ci hc => by
  cases List.mem_singleton.mp hc
  exact ⟨RX11, TX11, 19, rfl, gws_at 1123 (by decide +kernel) rfl⟩
theorem fl_11_264 : ∀ ci ∈ [0], xa_FL RX11 264 ci 6 := fun ci hc => by
  cases List.mem_singleton.mp hc
  exact ⟨RX0, TX0, 9, "CrossedFavours$Board", rfl, by decide, uw_0, gws_at 174 (by decide +kernel) rfl, Or.inl rfl⟩
theorem fp_11_264 : ∀ ci ∈ [0], xa_FP RX11 264 ci 6 (.int) false := fun ci hc => by
  cases List.mem_singleton.mp hc
  exact ⟨RX0, TX0, 9, "CrossedFavours$Board", tyX0, rfl, by decide, uw_0, gws_at 174 (by decide +kernel) rfl, Or.inl rfl, tyX0_ok, nmX0, tyX0_ok 6 (by decide), rfl, fun z => by cases z⟩
theorem ml_11_292 : Cond.methodLink RX11 292 yX1_told ∈ gws := gws_at 984 (by decide +kernel) rfl
theorem im_X1_told : Cond.instanceMethod yX1_told ∈ gws := gws_at 985 (by decide +kernel) rfl
theorem se_1_X1_told : ∀ ci ∈ [1], ∃ (C : String) (T : u_T) (N : Nat), xclasses[ci]? = some (C, T, N) ∧ Cond.selects C yX1_told yX1_told ∈ gws := fun ci hc => by
  cases List.mem_singleton.mp hc
  exact ⟨RX1, TX1, 3, rfl, gws_at 986 (by decide +kernel) rfl⟩
theorem fl_11_90 : ∀ ci ∈ [11], xa_FL RX11 90 ci 13 := fun ci hc => by
  cases List.mem_singleton.mp hc
  exact ⟨RX11, TX11, 19, "CrossedFavours", rfl, by decide, uw_11, gws_at 484 (by decide +kernel) rfl, Or.inl rfl⟩
theorem ml_11_362 : Cond.methodLink RX11 362 yX7_quietParts ∈ gws := gws_at 1138 (by decide +kernel) rfl
theorem im_X7_quietParts : Cond.instanceMethod yX7_quietParts ∈ gws := gws_at 1139 (by decide +kernel) rfl
theorem se_7_X7_quietParts : ∀ ci ∈ [7], ∃ (C : String) (T : u_T) (N : Nat), xclasses[ci]? = some (C, T, N) ∧ Cond.selects C yX7_quietParts yX7_quietParts ∈ gws := fun ci hc => by
  cases List.mem_singleton.mp hc
  exact ⟨RX7, TX7, 4, rfl, gws_at 1140 (by decide +kernel) rfl⟩
theorem col_11_278 : Cond.constantLong RX11 278 (6364136223846793005) ∈ gws := gws_at 959 (by decide +kernel) rfl
theorem col_11_280 : Cond.constantLong RX11 280 (1442695040888963407) ∈ gws := gws_at 960 (by decide +kernel) rfl
theorem ml_11_271 : Cond.methodLink RX11 271 yX11_stir ∈ gws := gws_at 956 (by decide +kernel) rfl
theorem sm_X11_stir : Cond.static yX11_stir ∈ gws := gws_at 957 (by decide +kernel) rfl
theorem ml_11_274 : Cond.methodLink RX11 274 yX11_drawn ∈ gws := gws_at 961 (by decide +kernel) rfl
theorem sm_X11_drawn : Cond.static yX11_drawn ∈ gws := gws_at 962 (by decide +kernel) rfl
theorem fl_11_318 : ∀ ci ∈ [10], xa_FL RX11 318 ci 5 := fun ci hc => by
  cases List.mem_singleton.mp hc
  exact ⟨RX10, TX10, 11, "CrossedFavours$Walk", rfl, by decide, uw_10, gws_at 417 (by decide +kernel) rfl, Or.inl rfl⟩
theorem ml_11_354 : Cond.methodLink RX11 354 yX11_isRest ∈ gws := gws_at 1129 (by decide +kernel) rfl
theorem im_X11_isRest : Cond.instanceMethod yX11_isRest ∈ gws := gws_at 1131 (by decide +kernel) rfl
theorem se_11_X11_isRest : ∀ ci ∈ [11], ∃ (C : String) (T : u_T) (N : Nat), xclasses[ci]? = some (C, T, N) ∧ Cond.selects C yX11_isRest yX11_isRest ∈ gws := fun ci hc => by
  cases List.mem_singleton.mp hc
  exact ⟨RX11, TX11, 19, rfl, gws_at 36 (by decide +kernel) rfl⟩
theorem ml_11_332 : Cond.methodLink RX11 332 yX6_put ∈ gws := gws_at 1090 (by decide +kernel) rfl
theorem im_X6_put : Cond.instanceMethod yX6_put ∈ gws := gws_at 1091 (by decide +kernel) rfl
theorem se_6_X6_put : ∀ ci ∈ [6], ∃ (C : String) (T : u_T) (N : Nat), xclasses[ci]? = some (C, T, N) ∧ Cond.selects C yX6_put yX6_put ∈ gws := fun ci hc => by
  cases List.mem_singleton.mp hc
  exact ⟨RX6, TX6, 7, rfl, gws_at 1092 (by decide +kernel) rfl⟩
theorem fl_11_139 : ∀ ci ∈ [9], xa_FL RX11 139 ci 4 := fun ci hc => by
  cases List.mem_singleton.mp hc
  exact ⟨RX9, TX9, 10, "CrossedFavours$VillageReader", rfl, by decide, uw_9, gws_at 201 (by decide +kernel) rfl, Or.inl rfl⟩
theorem ml_11_146 : Cond.methodLink RX11 146 yX3_forgetActs ∈ gws := gws_at 798 (by decide +kernel) rfl
theorem fp_11_149 : ∀ ci ∈ [3], xa_FP RX11 149 ci 5 (.boolean) false := fun ci hc => by
  cases List.mem_singleton.mp hc
  exact ⟨RX3, TX3, 6, "CrossedFavours$Memory", tyX3, rfl, by decide, uw_3, gws_at 357 (by decide +kernel) rfl, Or.inl rfl, tyX3_ok, nmX3, tyX3_ok 5 (by decide), rfl, fun z => by cases z⟩
theorem fp_11_153 : ∀ ci ∈ [6], xa_FP RX11 153 ci 6 (.int) false := fun ci hc => by
  cases List.mem_singleton.mp hc
  exact ⟨RX6, TX6, 7, "CrossedFavours$Sightings", tyX6, rfl, by decide, uw_6, gws_at 386 (by decide +kernel) rfl, Or.inl rfl, tyX6_ok, nmX6, tyX6_ok 6 (by decide), rfl, fun z => by cases z⟩
theorem fl_11_324 : ∀ ci ∈ [10], xa_FL RX11 324 ci 9 := fun ci hc => by
  cases List.mem_singleton.mp hc
  exact ⟨RX10, TX10, 11, "CrossedFavours$Walk", rfl, by decide, uw_10, gws_at 423 (by decide +kernel) rfl, Or.inl rfl⟩
theorem ml_11_123 : Cond.methodLink RX11 123 yX11_fault ∈ gws := gws_at 786 (by decide +kernel) rfl
theorem im_X11_fault : Cond.instanceMethod yX11_fault ∈ gws := gws_at 545 (by decide +kernel) rfl
theorem se_11_X11_fault : ∀ ci ∈ [11], ∃ (C : String) (T : u_T) (N : Nat), xclasses[ci]? = some (C, T, N) ∧ Cond.selects C yX11_fault yX11_fault ∈ gws := fun ci hc => by
  cases List.mem_singleton.mp hc
  exact ⟨RX11, TX11, 19, rfl, gws_at 546 (by decide +kernel) rfl⟩
theorem ml_11_126 : Cond.methodLink RX11 126 yX11_settle ∈ gws := gws_at 787 (by decide +kernel) rfl
theorem im_X11_settle : Cond.instanceMethod yX11_settle ∈ gws := gws_at 789 (by decide +kernel) rfl
theorem se_11_X11_settle : ∀ ci ∈ [11], ∃ (C : String) (T : u_T) (N : Nat), xclasses[ci]? = some (C, T, N) ∧ Cond.selects C yX11_settle yX11_settle ∈ gws := fun ci hc => by
  cases List.mem_singleton.mp hc
  exact ⟨RX11, TX11, 19, rfl, gws_at 17 (by decide +kernel) rfl⟩
theorem ml_11_130 : Cond.methodLink RX11 130 yX5_put ∈ gws := gws_at 802 (by decide +kernel) rfl
theorem im_X5_put : Cond.instanceMethod yX5_put ∈ gws := gws_at 803 (by decide +kernel) rfl
theorem se_5_X5_put : ∀ ci ∈ [5], ∃ (C : String) (T : u_T) (N : Nat), xclasses[ci]? = some (C, T, N) ∧ Cond.selects C yX5_put yX5_put ∈ gws := fun ci hc => by
  cases List.mem_singleton.mp hc
  exact ⟨RX5, TX5, 4, rfl, gws_at 804 (by decide +kernel) rfl⟩
theorem fl_11_133 : ∀ ci ∈ [8], xa_FL RX11 133 ci 4 := fun ci hc => by
  cases List.mem_singleton.mp hc
  exact ⟨RX8, TX8, 6, "CrossedFavours$SongReader", rfl, by decide, uw_8, gws_at 285 (by decide +kernel) rfl, Or.inl rfl⟩
theorem fl_11_136 : ∀ ci ∈ [8], xa_FL RX11 136 ci 5 := fun ci hc => by
  cases List.mem_singleton.mp hc
  exact ⟨RX8, TX8, 6, "CrossedFavours$SongReader", rfl, by decide, uw_8, gws_at 287 (by decide +kernel) rfl, Or.inl rfl⟩
theorem ml_11_282 : Cond.methodLink RX11 282 yX3_recall ∈ gws := gws_at 972 (by decide +kernel) rfl
theorem im_X3_recall : Cond.instanceMethod yX3_recall ∈ gws := gws_at 973 (by decide +kernel) rfl
theorem se_3_X3_recall : ∀ ci ∈ [3], ∃ (C : String) (T : u_T) (N : Nat), xclasses[ci]? = some (C, T, N) ∧ Cond.selects C yX3_recall yX3_recall ∈ gws := fun ci hc => by
  cases List.mem_singleton.mp hc
  exact ⟨RX3, TX3, 6, rfl, gws_at 974 (by decide +kernel) rfl⟩
theorem ml_11_267 : Cond.methodLink RX11 267 yX11_pass ∈ gws := gws_at 952 (by decide +kernel) rfl
theorem im_X11_pass : Cond.instanceMethod yX11_pass ∈ gws := gws_at 954 (by decide +kernel) rfl
theorem se_11_X11_pass : ∀ ci ∈ [11], ∃ (C : String) (T : u_T) (N : Nat), xclasses[ci]? = some (C, T, N) ∧ Cond.selects C yX11_pass yX11_pass ∈ gws := fun ci hc => by
  cases List.mem_singleton.mp hc
  exact ⟨RX11, TX11, 19, rfl, gws_at 25 (by decide +kernel) rfl⟩
