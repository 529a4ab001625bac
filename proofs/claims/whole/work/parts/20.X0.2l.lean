theorem uw_0 : ∀ w ∈ u_ws RX0 TX0 9, w ∈ gws := gws_pl _ [180, 182, 184, 186, 188, 190, 192, 194, 196] (by decide +kernel) (by decide +kernel)
theorem uw_1 : ∀ w ∈ u_ws RX1 TX1 3, w ∈ gws := gws_pl _ [332, 334, 336] (by decide +kernel) (by decide +kernel)
theorem uw_2 : ∀ w ∈ u_ws RX2 TX2 7, w ∈ gws := gws_pl _ [272, 273, 274, 275, 266, 268, 270] (by decide +kernel) (by decide +kernel)
theorem uw_3 : ∀ w ∈ u_ws RX3 TX3 6, w ∈ gws := gws_pl _ [358, 360, 362, 364, 366, 368] (by decide +kernel) (by decide +kernel)
theorem uw_4 : ∀ w ∈ u_ws RX4 TX4 0, w ∈ gws := gws_pl _ [] (by decide +kernel) (by decide +kernel)
theorem uw_5 : ∀ w ∈ u_ws RX5 TX5 4, w ∈ gws := gws_pl _ [312, 314, 316, 318] (by decide +kernel) (by decide +kernel)
theorem uw_6 : ∀ w ∈ u_ws RX6 TX6 7, w ∈ gws := gws_pl _ [387, 389, 391, 393, 395, 397, 399] (by decide +kernel) (by decide +kernel)
theorem uw_7 : ∀ w ∈ u_ws RX7 TX7 4, w ∈ gws := gws_pl _ [462, 464, 466, 468] (by decide +kernel) (by decide +kernel)
theorem uw_8 : ∀ w ∈ u_ws RX8 TX8 6, w ∈ gws := gws_pl _ [292, 293, 294, 295, 288, 290] (by decide +kernel) (by decide +kernel)
theorem uw_9 : ∀ w ∈ u_ws RX9 TX9 10, w ∈ gws := gws_pl _ [235, 237, 239, 241, 223, 225, 227, 229, 231, 233] (by decide +kernel) (by decide +kernel)
theorem uw_10 : ∀ w ∈ u_ws RX10 TX10 11, w ∈ gws := gws_pl _ [426, 428, 430, 432, 434, 436, 438, 440, 442, 444, 446] (by decide +kernel) (by decide +kernel)
theorem uw_11 : ∀ w ∈ u_ws RX11 TX11 19, w ∈ gws := gws_pl _ [490, 492, 494, 496, 498, 500, 502, 504, 506, 508, 510, 512, 514, 516, 518, 520, 522, 524, 526] (by decide +kernel) (by decide +kernel)
theorem uw_12 : ∀ w ∈ u_ws RX12 TX12 57, w ∈ gws := gws_pl _ [1354, 1356, 1358, 1360, 1362, 1364, 1366, 1368, 1370, 1372, 1374, 1376, 1378, 1380, 1382, 1384, 1386, 1388, 1390, 1392, 1394, 1396, 1398, 1400, 1402, 1404, 1406, 1408, 1410, 1412, 1414, 1416, 1418, 1420, 1422, 1424, 1426, 1428, 1430, 1432, 1434, 1436, 1438, 1440, 1442, 1444, 1446, 1448, 1450, 1452, 1454, 1456, 1458, 1460, 1462, 1464, 1466] (by decide +kernel) (by decide +kernel)
theorem fl_0_9 : ∀ ci ∈ [0], xa_FL RX0 9 ci 0 := fun ci hc => by
  cases List.mem_singleton.mp hc
  exact ⟨RX0, TX0, 9, "CrossedFavours$Board", rfl, by decide, uw_0, gws_at 155 (by decide +kernel) rfl, Or.inl rfl⟩
theorem cw_0_40 : Cond.methodLink RX0 40 arraycopyName ∈ gws ∧ Cond.native arraycopyName ∈ gws ∧ Cond.static arraycopyName ∈ gws ∧ Cond.initialized "java/lang/System" ∈ gws := ⟨gws_at 795 (by decide +kernel) rfl, gws_at 797 (by decide +kernel) rfl, gws_at 796 (by decide +kernel) rfl, gws_at 127 (by decide +kernel) rfl⟩
theorem fl_0_15 : ∀ ci ∈ [0], xa_FL RX0 15 ci 1 := fun ci hc => by
  cases List.mem_singleton.mp hc
  exact ⟨RX0, TX0, 9, "CrossedFavours$Board", rfl, by decide, uw_0, gws_at 156 (by decide +kernel) rfl, Or.inl rfl⟩
theorem fl_0_18 : ∀ ci ∈ [0], xa_FL RX0 18 ci 2 := fun ci hc => by
  cases List.mem_singleton.mp hc
  exact ⟨RX0, TX0, 9, "CrossedFavours$Board", rfl, by decide, uw_0, gws_at 159 (by decide +kernel) rfl, Or.inl rfl⟩
theorem fl_0_21 : ∀ ci ∈ [0], xa_FL RX0 21 ci 3 := fun ci hc => by
  cases List.mem_singleton.mp hc
  exact ⟨RX0, TX0, 9, "CrossedFavours$Board", rfl, by decide, uw_0, gws_at 162 (by decide +kernel) rfl, Or.inl rfl⟩
theorem fl_0_24 : ∀ ci ∈ [0], xa_FL RX0 24 ci 4 := fun ci hc => by
  cases List.mem_singleton.mp hc
  exact ⟨RX0, TX0, 9, "CrossedFavours$Board", rfl, by decide, uw_0, gws_at 164 (by decide +kernel) rfl, Or.inl rfl⟩
theorem fp_0_24 : ∀ ci ∈ [0], xa_FP RX0 24 ci 4 (.int) false := fun ci hc => by
  cases List.mem_singleton.mp hc
  exact ⟨RX0, TX0, 9, "CrossedFavours$Board", tyX0, rfl, by decide, uw_0, gws_at 164 (by decide +kernel) rfl, Or.inl rfl, tyX0_ok, nmX0, tyX0_ok 4 (by decide), rfl, fun z => by cases z⟩
theorem fl_0_28 : ∀ ci ∈ [0], xa_FL RX0 28 ci 5 := fun ci hc => by
  cases List.mem_singleton.mp hc
  exact ⟨RX0, TX0, 9, "CrossedFavours$Board", rfl, by decide, uw_0, gws_at 169 (by decide +kernel) rfl, Or.inl rfl⟩
theorem fp_0_28 : ∀ ci ∈ [0], xa_FP RX0 28 ci 5 (.int) false := fun ci hc => by
  cases List.mem_singleton.mp hc
  exact ⟨RX0, TX0, 9, "CrossedFavours$Board", tyX0, rfl, by decide, uw_0, gws_at 169 (by decide +kernel) rfl, Or.inl rfl, tyX0_ok, nmX0, tyX0_ok 5 (by decide), rfl, fun z => by cases z⟩
theorem fl_0_31 : ∀ ci ∈ [0], xa_FL RX0 31 ci 6 := fun ci hc => by
  cases List.mem_singleton.mp hc
  exact ⟨RX0, TX0, 9, "CrossedFavours$Board", rfl, by decide, uw_0, gws_at 172 (by decide +kernel) rfl, Or.inl rfl⟩
theorem fp_0_31 : ∀ ci ∈ [0], xa_FP RX0 31 ci 6 (.int) false := fun ci hc => by
  cases List.mem_singleton.mp hc
  exact ⟨RX0, TX0, 9, "CrossedFavours$Board", tyX0, rfl, by decide, uw_0, gws_at 172 (by decide +kernel) rfl, Or.inl rfl, tyX0_ok, nmX0, tyX0_ok 6 (by decide), rfl, fun z => by cases z⟩
theorem fl_0_34 : ∀ ci ∈ [0], xa_FL RX0 34 ci 7 := fun ci hc => by
  cases List.mem_singleton.mp hc
  exact ⟨RX0, TX0, 9, "CrossedFavours$Board", rfl, by decide, uw_0, gws_at 175 (by decide +kernel) rfl, Or.inl rfl⟩
theorem fp_0_34 : ∀ ci ∈ [0], xa_FP RX0 34 ci 7 (.int) false := fun ci hc => by
  cases List.mem_singleton.mp hc
  exact ⟨RX0, TX0, 9, "CrossedFavours$Board", tyX0, rfl, by decide, uw_0, gws_at 175 (by decide +kernel) rfl, Or.inl rfl, tyX0_ok, nmX0, tyX0_ok 7 (by decide), rfl, fun z => by cases z⟩
theorem fl_0_37 : ∀ ci ∈ [0], xa_FL RX0 37 ci 8 := fun ci hc => by
  cases List.mem_singleton.mp hc
  exact ⟨RX0, TX0, 9, "CrossedFavours$Board", rfl, by decide, uw_0, gws_at 178 (by decide +kernel) rfl, Or.inl rfl⟩
theorem fp_0_37 : ∀ ci ∈ [0], xa_FP RX0 37 ci 8 (.int) false := fun ci hc => by
  cases List.mem_singleton.mp hc
  exact ⟨RX0, TX0, 9, "CrossedFavours$Board", tyX0, rfl, by decide, uw_0, gws_at 178 (by decide +kernel) rfl, Or.inl rfl, tyX0_ok, nmX0, tyX0_ok 8 (by decide), rfl, fun z => by cases z⟩
theorem ml_0_46 : Cond.methodLink RX0 46 yX0_debt ∈ gws := gws_at 845 (by decide +kernel) rfl
theorem im_X0_debt : Cond.instanceMethod yX0_debt ∈ gws := gws_at 663 (by decide +kernel) rfl
theorem se_0_X0_debt : ∀ ci ∈ [0], ∃ (C : String) (T : u_T) (N : Nat), xclasses[ci]? = some (C, T, N) ∧ Cond.selects C yX0_debt yX0_debt ∈ gws := fun ci hc => by
  cases List.mem_singleton.mp hc
  exact ⟨RX0, TX0, 9, rfl, gws_at 664 (by decide +kernel) rfl⟩
theorem mw_0_65 : xa_mw RX0 65 Lib.Math.abs.name Lib.Math.abs.code 1 (some .int) := ⟨gws_at 870 (by decide +kernel) rfl, gws_at 871 (by decide +kernel) rfl, gws_at 123 (by decide +kernel) rfl, gws_at 872 (by decide +kernel) rfl⟩
theorem ml_0_55 : Cond.methodLink RX0 55 yX0_has ∈ gws := gws_at 864 (by decide +kernel) rfl
theorem im_X0_has : Cond.instanceMethod yX0_has ∈ gws := gws_at 812 (by decide +kernel) rfl
theorem se_0_X0_has : ∀ ci ∈ [0], ∃ (C : String) (T : u_T) (N : Nat), xclasses[ci]? = some (C, T, N) ∧ Cond.selects C yX0_has yX0_has ∈ gws := fun ci hc => by
  cases List.mem_singleton.mp hc
  exact ⟨RX0, TX0, 9, rfl, gws_at 813 (by decide +kernel) rfl⟩
theorem ml_0_59 : Cond.methodLink RX0 59 yX0_isKept ∈ gws := gws_at 865 (by decide +kernel) rfl
theorem im_X0_isKept : Cond.instanceMethod yX0_isKept ∈ gws := gws_at 857 (by decide +kernel) rfl
theorem se_0_X0_isKept : ∀ ci ∈ [0], ∃ (C : String) (T : u_T) (N : Nat), xclasses[ci]? = some (C, T, N) ∧ Cond.selects C yX0_isKept yX0_isKept ∈ gws := fun ci hc => by
  cases List.mem_singleton.mp hc
  exact ⟨RX0, TX0, 9, rfl, gws_at 858 (by decide +kernel) rfl⟩
theorem ml_0_62 : Cond.methodLink RX0 62 yX0_isFull ∈ gws := gws_at 866 (by decide +kernel) rfl
theorem im_X0_isFull : Cond.instanceMethod yX0_isFull ∈ gws := gws_at 868 (by decide +kernel) rfl
theorem se_0_X0_isFull : ∀ ci ∈ [0], ∃ (C : String) (T : u_T) (N : Nat), xclasses[ci]? = some (C, T, N) ∧ Cond.selects C yX0_isFull yX0_isFull ∈ gws := fun ci hc => by
  cases List.mem_singleton.mp hc
  exact ⟨RX0, TX0, 9, rfl, gws_at 20 (by decide +kernel) rfl⟩
theorem mw_0_50 : xa_mw RX0 50 Lib.Math.max.name Lib.Math.max.code 2 (some .int) := ⟨gws_at 684 (by decide +kernel) rfl, gws_at 562 (by decide +kernel) rfl, gws_at 123 (by decide +kernel) rfl, gws_at 563 (by decide +kernel) rfl⟩
theorem col_0_84 : Cond.constantLong RX0 84 (1000003) ∈ gws := gws_at 902 (by decide +kernel) rfl
theorem ml_0_86 : Cond.methodLink RX0 86 yX0_inverse ∈ gws := gws_at 903 (by decide +kernel) rfl
theorem sm_X0_inverse : Cond.static yX0_inverse ∈ gws := gws_at 904 (by decide +kernel) rfl
theorem ml_0_80 : Cond.methodLink RX0 80 yX0_power ∈ gws := gws_at 899 (by decide +kernel) rfl
theorem sm_X0_power : Cond.static yX0_power ∈ gws := gws_at 900 (by decide +kernel) rfl
theorem ml_0_76 : Cond.methodLink RX0 76 yX0_setDebt ∈ gws := gws_at 910 (by decide +kernel) rfl
theorem im_X0_setDebt : Cond.instanceMethod yX0_setDebt ∈ gws := gws_at 667 (by decide +kernel) rfl
theorem se_0_X0_setDebt : ∀ ci ∈ [0], ∃ (C : String) (T : u_T) (N : Nat), xclasses[ci]? = some (C, T, N) ∧ Cond.selects C yX0_setDebt yX0_setDebt ∈ gws := fun ci hc => by
  cases List.mem_singleton.mp hc
  exact ⟨RX0, TX0, 9, rfl, gws_at 668 (by decide +kernel) rfl⟩
theorem ml_0_69 : Cond.methodLink RX0 69 yX0_renewWorth ∈ gws := gws_at 895 (by decide +kernel) rfl
theorem im_X0_renewWorth : Cond.instanceMethod yX0_renewWorth ∈ gws := gws_at 896 (by decide +kernel) rfl
theorem se_0_X0_renewWorth : ∀ ci ∈ [0], ∃ (C : String) (T : u_T) (N : Nat), xclasses[ci]? = some (C, T, N) ∧ Cond.selects C yX0_renewWorth yX0_renewWorth ∈ gws := fun ci hc => by
  cases List.mem_singleton.mp hc
  exact ⟨RX0, TX0, 9, rfl, gws_at 897 (by decide +kernel) rfl⟩
theorem ml_0_73 : Cond.methodLink RX0 73 yX0_turnDebts ∈ gws := gws_at 906 (by decide +kernel) rfl
theorem im_X0_turnDebts : Cond.instanceMethod yX0_turnDebts ∈ gws := gws_at 907 (by decide +kernel) rfl
theorem se_0_X0_turnDebts : ∀ ci ∈ [0], ∃ (C : String) (T : u_T) (N : Nat), xclasses[ci]? = some (C, T, N) ∧ Cond.selects C yX0_turnDebts yX0_turnDebts ∈ gws := fun ci hc => by
  cases List.mem_singleton.mp hc
  exact ⟨RX0, TX0, 9, rfl, gws_at 908 (by decide +kernel) rfl⟩
theorem ml_0_90 : Cond.methodLink RX0 90 yX0_canTurn ∈ gws := gws_at 1000 (by decide +kernel) rfl
theorem im_X0_canTurn : Cond.instanceMethod yX0_canTurn ∈ gws := gws_at 861 (by decide +kernel) rfl
theorem se_0_X0_canTurn : ∀ ci ∈ [0], ∃ (C : String) (T : u_T) (N : Nat), xclasses[ci]? = some (C, T, N) ∧ Cond.selects C yX0_canTurn yX0_canTurn ∈ gws := fun ci hc => by
  cases List.mem_singleton.mp hc
  exact ⟨RX0, TX0, 9, rfl, gws_at 862 (by decide +kernel) rfl⟩
theorem ml_0_93 : Cond.methodLink RX0 93 yX0_turnOver ∈ gws := gws_at 1001 (by decide +kernel) rfl
theorem im_X0_turnOver : Cond.instanceMethod yX0_turnOver ∈ gws := gws_at 892 (by decide +kernel) rfl
theorem se_0_X0_turnOver : ∀ ci ∈ [0], ∃ (C : String) (T : u_T) (N : Nat), xclasses[ci]? = some (C, T, N) ∧ Cond.selects C yX0_turnOver yX0_turnOver ∈ gws := fun ci hc => by
  cases List.mem_singleton.mp hc
  exact ⟨RX0, TX0, 9, rfl, gws_at 893 (by decide +kernel) rfl⟩
theorem oi_0_3 : Cond.methodLink RX0 3 objectInit ∈ gws ∧ Cond.instanceMethod objectInit ∈ gws ∧ Cond.code objectInit ⟨#[0xb1]⟩ 1 none ∈ gws := ⟨gws_at 154 (by decide +kernel) rfl, gws_at 138 (by decide +kernel) rfl, gws_at 139 (by decide +kernel) rfl⟩
theorem ac_int : Cond.arrayClass .int ∈ gws := gws_at 199 (by decide +kernel) rfl
theorem fp_0_9 : ∀ ci ∈ [0], xa_FP RX0 9 ci 0 (.array .int) true := fun ci hc => by
  cases List.mem_singleton.mp hc
  exact ⟨RX0, TX0, 9, "CrossedFavours$Board", tyX0, rfl, by decide, uw_0, gws_at 155 (by decide +kernel) rfl, Or.inl rfl, tyX0_ok, nmX0, tyX0_ok 0 (by decide), rfl, fun _ => rfl⟩
theorem fp_0_15 : ∀ ci ∈ [0], xa_FP RX0 15 ci 1 (.array .int) true := fun ci hc => by
  cases List.mem_singleton.mp hc
  exact ⟨RX0, TX0, 9, "CrossedFavours$Board", tyX0, rfl, by decide, uw_0, gws_at 156 (by decide +kernel) rfl, Or.inl rfl, tyX0_ok, nmX0, tyX0_ok 1 (by decide), rfl, fun _ => rfl⟩
theorem fp_0_18 : ∀ ci ∈ [0], xa_FP RX0 18 ci 2 (.array .int) true := fun ci hc => by
  cases List.mem_singleton.mp hc
  exact ⟨RX0, TX0, 9, "CrossedFavours$Board", tyX0, rfl, by decide, uw_0, gws_at 159 (by decide +kernel) rfl, Or.inl rfl, tyX0_ok, nmX0, tyX0_ok 2 (by decide), rfl, fun _ => rfl⟩
theorem fp_0_21 : ∀ ci ∈ [0], xa_FP RX0 21 ci 3 (.array .int) true := fun ci hc => by
  cases List.mem_singleton.mp hc
  exact ⟨RX0, TX0, 9, "CrossedFavours$Board", tyX0, rfl, by decide, uw_0, gws_at 162 (by decide +kernel) rfl, Or.inl rfl, tyX0_ok, nmX0, tyX0_ok 3 (by decide), rfl, fun _ => rfl⟩
theorem ml_0_96 : Cond.methodLink RX0 96 yX0_owedBy ∈ gws := gws_at 919 (by decide +kernel) rfl
theorem im_X0_owedBy : Cond.instanceMethod yX0_owedBy ∈ gws := gws_at 921 (by decide +kernel) rfl
theorem se_0_X0_owedBy : ∀ ci ∈ [0], ∃ (C : String) (T : u_T) (N : Nat), xclasses[ci]? = some (C, T, N) ∧ Cond.selects C yX0_owedBy yX0_owedBy ∈ gws := fun ci hc => by
  cases List.mem_singleton.mp hc
  exact ⟨RX0, TX0, 9, rfl, gws_at 24 (by decide +kernel) rfl⟩
