theorem fl_12_307 : ∀ ci ∈ [12], xa_FL RX12 307 ci 26 := fun ci hc => by
  cases List.mem_singleton.mp hc
  exact ⟨RX12, TX12, 57, "CrossedFavoursModel", rfl, by decide, uw_12, gws_at 1323 (by decide +kernel) rfl, Or.inl rfl⟩
theorem fl_12_302 : ∀ ci ∈ [12], xa_FL RX12 302 ci 30 := fun ci hc => by
  cases List.mem_singleton.mp hc
  exact ⟨RX12, TX12, 57, "CrossedFavoursModel", rfl, by decide, uw_12, gws_at 1327 (by decide +kernel) rfl, Or.inl rfl⟩
theorem fl_12_77 : ∀ ci ∈ [12], xa_FL RX12 77 ci 37 := fun ci hc => by
  cases List.mem_singleton.mp hc
  exact ⟨RX12, TX12, 57, "CrossedFavoursModel", rfl, by decide, uw_12, gws_at 1334 (by decide +kernel) rfl, Or.inl rfl⟩
theorem ml_12_244 : Cond.methodLink RX12 244 yX12_has ∈ gws := gws_at 1529 (by decide +kernel) rfl
theorem sm_X12_has : Cond.static yX12_has ∈ gws := gws_at 1530 (by decide +kernel) rfl
theorem ml_12_331 : Cond.methodLink RX12 331 yX12_laysNext ∈ gws := gws_at 1689 (by decide +kernel) rfl
theorem im_X12_laysNext : Cond.instanceMethod yX12_laysNext ∈ gws := gws_at 1691 (by decide +kernel) rfl
theorem se_12_X12_laysNext : ∀ ci ∈ [12], ∃ (C : String) (T : u_T) (N : Nat), xclasses[ci]? = some (C, T, N) ∧ Cond.selects C yX12_laysNext yX12_laysNext ∈ gws := fun ci hc => by
  cases List.mem_singleton.mp hc
  exact ⟨RX12, TX12, 57, rfl, gws_at 76 (by decide +kernel) rfl⟩
theorem fl_12_37 : ∀ ci ∈ [12], xa_FL RX12 37 ci 18 := fun ci hc => by
  cases List.mem_singleton.mp hc
  exact ⟨RX12, TX12, 57, "CrossedFavoursModel", rfl, by decide, uw_12, gws_at 1315 (by decide +kernel) rfl, Or.inl rfl⟩
theorem ml_12_335 : Cond.methodLink RX12 335 yX12_isHouse ∈ gws := gws_at 1635 (by decide +kernel) rfl
theorem im_X12_isHouse : Cond.instanceMethod yX12_isHouse ∈ gws := gws_at 1637 (by decide +kernel) rfl
theorem se_12_X12_isHouse : ∀ ci ∈ [12], ∃ (C : String) (T : u_T) (N : Nat), xclasses[ci]? = some (C, T, N) ∧ Cond.selects C yX12_isHouse yX12_isHouse ∈ gws := fun ci hc => by
  cases List.mem_singleton.mp hc
  exact ⟨RX12, TX12, 57, rfl, gws_at 69 (by decide +kernel) rfl⟩
theorem ml_12_338 : Cond.methodLink RX12 338 yX12_stops ∈ gws := gws_at 1685 (by decide +kernel) rfl
theorem im_X12_stops : Cond.instanceMethod yX12_stops ∈ gws := gws_at 1687 (by decide +kernel) rfl
theorem se_12_X12_stops : ∀ ci ∈ [12], ∃ (C : String) (T : u_T) (N : Nat), xclasses[ci]? = some (C, T, N) ∧ Cond.selects C yX12_stops yX12_stops ∈ gws := fun ci hc => by
  cases List.mem_singleton.mp hc
  exact ⟨RX12, TX12, 57, rfl, gws_at 75 (by decide +kernel) rfl⟩
theorem co_12_330 : Cond.constant RX12 330 (1000001) ∈ gws := gws_at 1716 (by decide +kernel) rfl
theorem col_12_328 : Cond.constantLong RX12 328 (1000003) ∈ gws := gws_at 1712 (by decide +kernel) rfl
theorem ml_12_346 : Cond.methodLink RX12 346 yX12_inverse ∈ gws := gws_at 1713 (by decide +kernel) rfl
theorem sm_X12_inverse : Cond.static yX12_inverse ∈ gws := gws_at 1714 (by decide +kernel) rfl
theorem mw_12_326 : xa_mw RX12 326 Lib.Math.max.name Lib.Math.max.code 2 (some .int) := ⟨gws_at 1644 (by decide +kernel) rfl, gws_at 562 (by decide +kernel) rfl, gws_at 123 (by decide +kernel) rfl, gws_at 563 (by decide +kernel) rfl⟩
theorem ml_12_342 : Cond.methodLink RX12 342 yX12_power ∈ gws := gws_at 1709 (by decide +kernel) rfl
theorem sm_X12_power : Cond.static yX12_power ∈ gws := gws_at 1710 (by decide +kernel) rfl
theorem ml_12_350 : Cond.methodLink RX12 350 yX12_freshWorth ∈ gws := gws_at 1705 (by decide +kernel) rfl
theorem im_X12_freshWorth : Cond.instanceMethod yX12_freshWorth ∈ gws := gws_at 1707 (by decide +kernel) rfl
theorem se_12_X12_freshWorth : ∀ ci ∈ [12], ∃ (C : String) (T : u_T) (N : Nat), xclasses[ci]? = some (C, T, N) ∧ Cond.selects C yX12_freshWorth yX12_freshWorth ∈ gws := fun ci hc => by
  cases List.mem_singleton.mp hc
  exact ⟨RX12, TX12, 57, rfl, gws_at 80 (by decide +kernel) rfl⟩
theorem fl_12_58 : ∀ ci ∈ [12], xa_FL RX12 58 ci 25 := fun ci hc => by
  cases List.mem_singleton.mp hc
  exact ⟨RX12, TX12, 57, "CrossedFavoursModel", rfl, by decide, uw_12, gws_at 1322 (by decide +kernel) rfl, Or.inl rfl⟩
theorem fl_12_55 : ∀ ci ∈ [12], xa_FL RX12 55 ci 24 := fun ci hc => by
  cases List.mem_singleton.mp hc
  exact ⟨RX12, TX12, 57, "CrossedFavoursModel", rfl, by decide, uw_12, gws_at 1321 (by decide +kernel) rfl, Or.inl rfl⟩
theorem ml_12_403 : Cond.methodLink RX12 403 yX12_can ∈ gws := gws_at 1741 (by decide +kernel) rfl
theorem im_X12_can : Cond.instanceMethod yX12_can ∈ gws := gws_at 1743 (by decide +kernel) rfl
theorem se_12_X12_can : ∀ ci ∈ [12], ∃ (C : String) (T : u_T) (N : Nat), xclasses[ci]? = some (C, T, N) ∧ Cond.selects C yX12_can yX12_can ∈ gws := fun ci hc => by
  cases List.mem_singleton.mp hc
  exact ⟨RX12, TX12, 57, rfl, gws_at 86 (by decide +kernel) rfl⟩
theorem ml_12_391 : Cond.methodLink RX12 391 yX12_crosses ∈ gws := gws_at 1701 (by decide +kernel) rfl
theorem im_X12_crosses : Cond.instanceMethod yX12_crosses ∈ gws := gws_at 1703 (by decide +kernel) rfl
theorem se_12_X12_crosses : ∀ ci ∈ [12], ∃ (C : String) (T : u_T) (N : Nat), xclasses[ci]? = some (C, T, N) ∧ Cond.selects C yX12_crosses yX12_crosses ∈ gws := fun ci hc => by
  cases List.mem_singleton.mp hc
  exact ⟨RX12, TX12, 57, rfl, gws_at 79 (by decide +kernel) rfl⟩
theorem fl_12_61 : ∀ ci ∈ [12], xa_FL RX12 61 ci 32 := fun ci hc => by
  cases List.mem_singleton.mp hc
  exact ⟨RX12, TX12, 57, "CrossedFavoursModel", rfl, by decide, uw_12, gws_at 1329 (by decide +kernel) rfl, Or.inl rfl⟩
theorem fl_12_64 : ∀ ci ∈ [12], xa_FL RX12 64 ci 33 := fun ci hc => by
  cases List.mem_singleton.mp hc
  exact ⟨RX12, TX12, 57, "CrossedFavoursModel", rfl, by decide, uw_12, gws_at 1330 (by decide +kernel) rfl, Or.inl rfl⟩
theorem ml_12_428 : Cond.methodLink RX12 428 yX12_copy ∈ gws := gws_at 1798 (by decide +kernel) rfl
theorem sm_X12_copy : Cond.static yX12_copy ∈ gws := gws_at 1799 (by decide +kernel) rfl
theorem ml_12_432 : Cond.methodLink RX12 432 yX12_sings ∈ gws := gws_at 1801 (by decide +kernel) rfl
theorem im_X12_sings : Cond.instanceMethod yX12_sings ∈ gws := gws_at 1803 (by decide +kernel) rfl
theorem se_12_X12_sings : ∀ ci ∈ [12], ∃ (C : String) (T : u_T) (N : Nat), xclasses[ci]? = some (C, T, N) ∧ Cond.selects C yX12_sings yX12_sings ∈ gws := fun ci hc => by
  cases List.mem_singleton.mp hc
  exact ⟨RX12, TX12, 57, rfl, gws_at 89 (by decide +kernel) rfl⟩
theorem fp_12_111 : ∀ ci ∈ [12], xa_FP RX12 111 ci 0 (.int) false := fun ci hc => by
  cases List.mem_singleton.mp hc
  exact ⟨RX12, TX12, 57, "CrossedFavoursModel", tyX12, rfl, by decide, uw_12, gws_at 1297 (by decide +kernel) rfl, Or.inl rfl, tyX12_ok, nmX12, tyX12_ok 0 (by decide), rfl, fun z => by cases z⟩
theorem ml_12_381 : Cond.methodLink RX12 381 yX12_isSong ∈ gws := gws_at 1667 (by decide +kernel) rfl
theorem im_X12_isSong : Cond.instanceMethod yX12_isSong ∈ gws := gws_at 1669 (by decide +kernel) rfl
theorem se_12_X12_isSong : ∀ ci ∈ [12], ∃ (C : String) (T : u_T) (N : Nat), xclasses[ci]? = some (C, T, N) ∧ Cond.selects C yX12_isSong yX12_isSong ∈ gws := fun ci hc => by
  cases List.mem_singleton.mp hc
  exact ⟨RX12, TX12, 57, rfl, gws_at 73 (by decide +kernel) rfl⟩
theorem co_12_380 : Cond.constant RX12 380 (-1000000) ∈ gws := gws_at 1658 (by decide +kernel) rfl
theorem col_12_435 : Cond.constantLong RX12 435 (60) ∈ gws := gws_at 1793 (by decide +kernel) rfl
theorem ml_12_232 : Cond.methodLink RX12 232 yX12_isIn ∈ gws := gws_at 1493 (by decide +kernel) rfl
theorem sm_X12_isIn : Cond.static yX12_isIn ∈ gws := gws_at 1494 (by decide +kernel) rfl
theorem ml_12_437 : Cond.methodLink RX12 437 yX12_singsOften ∈ gws := gws_at 1794 (by decide +kernel) rfl
theorem im_X12_singsOften : Cond.instanceMethod yX12_singsOften ∈ gws := gws_at 1796 (by decide +kernel) rfl
theorem se_12_X12_singsOften : ∀ ci ∈ [12], ∃ (C : String) (T : u_T) (N : Nat), xclasses[ci]? = some (C, T, N) ∧ Cond.selects C yX12_singsOften yX12_singsOften ∈ gws := fun ci hc => by
  cases List.mem_singleton.mp hc
  exact ⟨RX12, TX12, 57, rfl, gws_at 88 (by decide +kernel) rfl⟩
theorem ml_12_440 : Cond.methodLink RX12 440 yX12_areSame ∈ gws := gws_at 1813 (by decide +kernel) rfl
theorem sm_X12_areSame : Cond.static yX12_areSame ∈ gws := gws_at 1814 (by decide +kernel) rfl
theorem ml_12_353 : Cond.methodLink RX12 353 yX12_out ∈ gws := gws_at 1645 (by decide +kernel) rfl
theorem im_X12_out : Cond.instanceMethod yX12_out ∈ gws := gws_at 1647 (by decide +kernel) rfl
theorem se_12_X12_out : ∀ ci ∈ [12], ∃ (C : String) (T : u_T) (N : Nat), xclasses[ci]? = some (C, T, N) ∧ Cond.selects C yX12_out yX12_out ∈ gws := fun ci hc => by
  cases List.mem_singleton.mp hc
  exact ⟨RX12, TX12, 57, rfl, gws_at 71 (by decide +kernel) rfl⟩
theorem ml_12_370 : Cond.methodLink RX12 370 yX12_in ∈ gws := gws_at 1640 (by decide +kernel) rfl
theorem im_X12_in : Cond.instanceMethod yX12_in ∈ gws := gws_at 1642 (by decide +kernel) rfl
theorem se_12_X12_in : ∀ ci ∈ [12], ∃ (C : String) (T : u_T) (N : Nat), xclasses[ci]? = some (C, T, N) ∧ Cond.selects C yX12_in yX12_in ∈ gws := fun ci hc => by
  cases List.mem_singleton.mp hc
  exact ⟨RX12, TX12, 57, rfl, gws_at 70 (by decide +kernel) rfl⟩
theorem fl_12_43 : ∀ ci ∈ [12], xa_FL RX12 43 ci 20 := fun ci hc => by
  cases List.mem_singleton.mp hc
  exact ⟨RX12, TX12, 57, "CrossedFavoursModel", rfl, by decide, uw_12, gws_at 1317 (by decide +kernel) rfl, Or.inl rfl⟩
theorem ml_12_510 : Cond.methodLink RX12 510 yX12_valueOf ∈ gws := gws_at 1927 (by decide +kernel) rfl
theorem im_X12_valueOf : Cond.instanceMethod yX12_valueOf ∈ gws := gws_at 1929 (by decide +kernel) rfl
theorem se_12_X12_valueOf : ∀ ci ∈ [12], ∃ (C : String) (T : u_T) (N : Nat), xclasses[ci]? = some (C, T, N) ∧ Cond.selects C yX12_valueOf yX12_valueOf ∈ gws := fun ci hc => by
  cases List.mem_singleton.mp hc
  exact ⟨RX12, TX12, 57, rfl, gws_at 102 (by decide +kernel) rfl⟩
theorem fl_12_80 : ∀ ci ∈ [12], xa_FL RX12 80 ci 38 := fun ci hc => by
  cases List.mem_singleton.mp hc
  exact ⟨RX12, TX12, 57, "CrossedFavoursModel", rfl, by decide, uw_12, gws_at 1335 (by decide +kernel) rfl, Or.inl rfl⟩
theorem ml_12_356 : Cond.methodLink RX12 356 yX12_laysSteps ∈ gws := gws_at 1733 (by decide +kernel) rfl
theorem im_X12_laysSteps : Cond.instanceMethod yX12_laysSteps ∈ gws := gws_at 1735 (by decide +kernel) rfl
theorem se_12_X12_laysSteps : ∀ ci ∈ [12], ∃ (C : String) (T : u_T) (N : Nat), xclasses[ci]? = some (C, T, N) ∧ Cond.selects C yX12_laysSteps yX12_laysSteps ∈ gws := fun ci hc => by
  cases List.mem_singleton.mp hc
  exact ⟨RX12, TX12, 57, rfl, gws_at 85 (by decide +kernel) rfl⟩
theorem ml_12_359 : Cond.methodLink RX12 359 yX12_shortestRing ∈ gws := gws_at 1729 (by decide +kernel) rfl
theorem im_X12_shortestRing : Cond.instanceMethod yX12_shortestRing ∈ gws := gws_at 1731 (by decide +kernel) rfl
theorem se_12_X12_shortestRing : ∀ ci ∈ [12], ∃ (C : String) (T : u_T) (N : Nat), xclasses[ci]? = some (C, T, N) ∧ Cond.selects C yX12_shortestRing yX12_shortestRing ∈ gws := fun ci hc => by
  cases List.mem_singleton.mp hc
  exact ⟨RX12, TX12, 57, rfl, gws_at 84 (by decide +kernel) rfl⟩
theorem ml_12_366 : Cond.methodLink RX12 366 yX12_hasRing ∈ gws := gws_at 1725 (by decide +kernel) rfl
theorem im_X12_hasRing : Cond.instanceMethod yX12_hasRing ∈ gws := gws_at 1727 (by decide +kernel) rfl
theorem se_12_X12_hasRing : ∀ ci ∈ [12], ∃ (C : String) (T : u_T) (N : Nat), xclasses[ci]? = some (C, T, N) ∧ Cond.selects C yX12_hasRing yX12_hasRing ∈ gws := fun ci hc => by
  cases List.mem_singleton.mp hc
  exact ⟨RX12, TX12, 57, rfl, gws_at 83 (by decide +kernel) rfl⟩
theorem fl_12_105 : ∀ ci ∈ [12], xa_FL RX12 105 ci 54 := fun ci hc => by
  cases List.mem_singleton.mp hc
  exact ⟨RX12, TX12, 57, "CrossedFavoursModel", rfl, by decide, uw_12, gws_at 1351 (by decide +kernel) rfl, Or.inl rfl⟩
theorem ml_12_513 : Cond.methodLink RX12 513 yX12_greatest ∈ gws := gws_at 1923 (by decide +kernel) rfl
theorem im_X12_greatest : Cond.instanceMethod yX12_greatest ∈ gws := gws_at 1925 (by decide +kernel) rfl
theorem se_12_X12_greatest : ∀ ci ∈ [12], ∃ (C : String) (T : u_T) (N : Nat), xclasses[ci]? = some (C, T, N) ∧ Cond.selects C yX12_greatest yX12_greatest ∈ gws := fun ci hc => by
  cases List.mem_singleton.mp hc
  exact ⟨RX12, TX12, 57, rfl, gws_at 101 (by decide +kernel) rfl⟩
theorem ml_12_363 : Cond.methodLink RX12 363 yX12_allFavours ∈ gws := gws_at 1721 (by decide +kernel) rfl
theorem im_X12_allFavours : Cond.instanceMethod yX12_allFavours ∈ gws := gws_at 1723 (by decide +kernel) rfl
theorem se_12_X12_allFavours : ∀ ci ∈ [12], ∃ (C : String) (T : u_T) (N : Nat), xclasses[ci]? = some (C, T, N) ∧ Cond.selects C yX12_allFavours yX12_allFavours ∈ gws := fun ci hc => by
  cases List.mem_singleton.mp hc
  exact ⟨RX12, TX12, 57, rfl, gws_at 82 (by decide +kernel) rfl⟩
theorem ml_12_516 : Cond.methodLink RX12 516 yX12_pairs ∈ gws := gws_at 1931 (by decide +kernel) rfl
theorem im_X12_pairs : Cond.instanceMethod yX12_pairs ∈ gws := gws_at 1933 (by decide +kernel) rfl
theorem se_12_X12_pairs : ∀ ci ∈ [12], ∃ (C : String) (T : u_T) (N : Nat), xclasses[ci]? = some (C, T, N) ∧ Cond.selects C yX12_pairs yX12_pairs ∈ gws := fun ci hc => by
  cases List.mem_singleton.mp hc
  exact ⟨RX12, TX12, 57, rfl, gws_at 103 (by decide +kernel) rfl⟩
theorem ml_12_519 : Cond.methodLink RX12 519 yX12_thoseWho ∈ gws := gws_at 1935 (by decide +kernel) rfl
theorem im_X12_thoseWho : Cond.instanceMethod yX12_thoseWho ∈ gws := gws_at 1937 (by decide +kernel) rfl
theorem se_12_X12_thoseWho : ∀ ci ∈ [12], ∃ (C : String) (T : u_T) (N : Nat), xclasses[ci]? = some (C, T, N) ∧ Cond.selects C yX12_thoseWho yX12_thoseWho ∈ gws := fun ci hc => by
  cases List.mem_singleton.mp hc
  exact ⟨RX12, TX12, 57, rfl, gws_at 104 (by decide +kernel) rfl⟩
theorem ml_12_523 : Cond.methodLink RX12 523 yX12_thoseThatCan ∈ gws := gws_at 1939 (by decide +kernel) rfl
theorem im_X12_thoseThatCan : Cond.instanceMethod yX12_thoseThatCan ∈ gws := gws_at 1941 (by decide +kernel) rfl
theorem se_12_X12_thoseThatCan : ∀ ci ∈ [12], ∃ (C : String) (T : u_T) (N : Nat), xclasses[ci]? = some (C, T, N) ∧ Cond.selects C yX12_thoseThatCan yX12_thoseThatCan ∈ gws := fun ci hc => by
  cases List.mem_singleton.mp hc
  exact ⟨RX12, TX12, 57, rfl, gws_at 105 (by decide +kernel) rfl⟩
theorem ml_12_526 : Cond.methodLink RX12 526 yX12_levels ∈ gws := gws_at 1943 (by decide +kernel) rfl
theorem im_X12_levels : Cond.instanceMethod yX12_levels ∈ gws := gws_at 1945 (by decide +kernel) rfl
theorem se_12_X12_levels : ∀ ci ∈ [12], ∃ (C : String) (T : u_T) (N : Nat), xclasses[ci]? = some (C, T, N) ∧ Cond.selects C yX12_levels yX12_levels ∈ gws := fun ci hc => by
  cases List.mem_singleton.mp hc
  exact ⟨RX12, TX12, 57, rfl, gws_at 106 (by decide +kernel) rfl⟩
theorem ml_12_529 : Cond.methodLink RX12 529 yX12_mostBetween ∈ gws := gws_at 1947 (by decide +kernel) rfl
theorem im_X12_mostBetween : Cond.instanceMethod yX12_mostBetween ∈ gws := gws_at 1949 (by decide +kernel) rfl
theorem se_12_X12_mostBetween : ∀ ci ∈ [12], ∃ (C : String) (T : u_T) (N : Nat), xclasses[ci]? = some (C, T, N) ∧ Cond.selects C yX12_mostBetween yX12_mostBetween ∈ gws := fun ci hc => by
  cases List.mem_singleton.mp hc
  exact ⟨RX12, TX12, 57, rfl, gws_at 107 (by decide +kernel) rfl⟩
theorem fl_12_310 : ∀ ci ∈ [12], xa_FL RX12 310 ci 27 := fun ci hc => by
  cases List.mem_singleton.mp hc
  exact ⟨RX12, TX12, 57, "CrossedFavoursModel", rfl, by decide, uw_12, gws_at 1324 (by decide +kernel) rfl, Or.inl rfl⟩
theorem fl_12_49 : ∀ ci ∈ [12], xa_FL RX12 49 ci 22 := fun ci hc => by
  cases List.mem_singleton.mp hc
  exact ⟨RX12, TX12, 57, "CrossedFavoursModel", rfl, by decide, uw_12, gws_at 1319 (by decide +kernel) rfl, Or.inl rfl⟩
theorem ml_12_313 : Cond.methodLink RX12 313 yX12_lays ∈ gws := gws_at 1627 (by decide +kernel) rfl
theorem im_X12_lays : Cond.instanceMethod yX12_lays ∈ gws := gws_at 1629 (by decide +kernel) rfl
theorem se_12_X12_lays : ∀ ci ∈ [12], ∃ (C : String) (T : u_T) (N : Nat), xclasses[ci]? = some (C, T, N) ∧ Cond.selects C yX12_lays yX12_lays ∈ gws := fun ci hc => by
  cases List.mem_singleton.mp hc
  exact ⟨RX12, TX12, 57, rfl, gws_at 68 (by decide +kernel) rfl⟩
theorem fl_12_317 : ∀ ci ∈ [12], xa_FL RX12 317 ci 51 := fun ci hc => by
  cases List.mem_singleton.mp hc
  exact ⟨RX12, TX12, 57, "CrossedFavoursModel", rfl, by decide, uw_12, gws_at 1348 (by decide +kernel) rfl, Or.inl rfl⟩
theorem fl_12_96 : ∀ ci ∈ [12], xa_FL RX12 96 ci 50 := fun ci hc => by
  cases List.mem_singleton.mp hc
  exact ⟨RX12, TX12, 57, "CrossedFavoursModel", rfl, by decide, uw_12, gws_at 1347 (by decide +kernel) rfl, Or.inl rfl⟩
theorem ml_12_482 : Cond.methodLink RX12 482 yX12_wouldOwe ∈ gws := gws_at 1875 (by decide +kernel) rfl
theorem im_X12_wouldOwe : Cond.instanceMethod yX12_wouldOwe ∈ gws := gws_at 1877 (by decide +kernel) rfl
theorem se_12_X12_wouldOwe : ∀ ci ∈ [12], ∃ (C : String) (T : u_T) (N : Nat), xclasses[ci]? = some (C, T, N) ∧ Cond.selects C yX12_wouldOwe yX12_wouldOwe ∈ gws := fun ci hc => by
  cases List.mem_singleton.mp hc
  exact ⟨RX12, TX12, 57, rfl, gws_at 96 (by decide +kernel) rfl⟩
theorem ml_12_486 : Cond.methodLink RX12 486 yX12_doesFit ∈ gws := gws_at 1871 (by decide +kernel) rfl
theorem im_X12_doesFit : Cond.instanceMethod yX12_doesFit ∈ gws := gws_at 1873 (by decide +kernel) rfl
theorem se_12_X12_doesFit : ∀ ci ∈ [12], ∃ (C : String) (T : u_T) (N : Nat), xclasses[ci]? = some (C, T, N) ∧ Cond.selects C yX12_doesFit yX12_doesFit ∈ gws := fun ci hc => by
  cases List.mem_singleton.mp hc
  exact ⟨RX12, TX12, 57, rfl, gws_at 95 (by decide +kernel) rfl⟩
theorem ml_12_489 : Cond.methodLink RX12 489 yX12_fits ∈ gws := gws_at 1883 (by decide +kernel) rfl
theorem im_X12_fits : Cond.instanceMethod yX12_fits ∈ gws := gws_at 1868 (by decide +kernel) rfl
theorem se_12_X12_fits : ∀ ci ∈ [12], ∃ (C : String) (T : u_T) (N : Nat), xclasses[ci]? = some (C, T, N) ∧ Cond.selects C yX12_fits yX12_fits ∈ gws := fun ci hc => by
  cases List.mem_singleton.mp hc
  exact ⟨RX12, TX12, 57, rfl, gws_at 1869 (by decide +kernel) rfl⟩
theorem fl_12_99 : ∀ ci ∈ [12], xa_FL RX12 99 ci 52 := fun ci hc => by
  cases List.mem_singleton.mp hc
  exact ⟨RX12, TX12, 57, "CrossedFavoursModel", rfl, by decide, uw_12, gws_at 1349 (by decide +kernel) rfl, Or.inl rfl⟩
theorem fl_12_143 : ∀ ci ∈ [12], xa_FL RX12 143 ci 11 := fun ci hc => by
  cases List.mem_singleton.mp hc
  exact ⟨RX12, TX12, 57, "CrossedFavoursModel", rfl, by decide, uw_12, gws_at 1308 (by decide +kernel) rfl, Or.inl rfl⟩
theorem fl_12_134 : ∀ ci ∈ [12], xa_FL RX12 134 ci 10 := fun ci hc => by
  cases List.mem_singleton.mp hc
  exact ⟨RX12, TX12, 57, "CrossedFavoursModel", rfl, by decide, uw_12, gws_at 1307 (by decide +kernel) rfl, Or.inl rfl⟩
theorem fp_12_143 : ∀ ci ∈ [12], xa_FP RX12 143 ci 11 (.int) false := fun ci hc => by
  cases List.mem_singleton.mp hc
  exact ⟨RX12, TX12, 57, "CrossedFavoursModel", tyX12, rfl, by decide, uw_12, gws_at 1308 (by decide +kernel) rfl, Or.inl rfl, tyX12_ok, nmX12, tyX12_ok 11 (by decide), rfl, fun z => by cases z⟩
theorem fl_12_146 : ∀ ci ∈ [12], xa_FL RX12 146 ci 12 := fun ci hc => by
  cases List.mem_singleton.mp hc
  exact ⟨RX12, TX12, 57, "CrossedFavoursModel", rfl, by decide, uw_12, gws_at 1309 (by decide +kernel) rfl, Or.inl rfl⟩
theorem fp_12_146 : ∀ ci ∈ [12], xa_FP RX12 146 ci 12 (.int) false := fun ci hc => by
  cases List.mem_singleton.mp hc
  exact ⟨RX12, TX12, 57, "CrossedFavoursModel", tyX12, rfl, by decide, uw_12, gws_at 1309 (by decide +kernel) rfl, Or.inl rfl, tyX12_ok, nmX12, tyX12_ok 12 (by decide), rfl, fun z => by cases z⟩
theorem fp_12_134 : ∀ ci ∈ [12], xa_FP RX12 134 ci 10 (.int) false := fun ci hc => by
  cases List.mem_singleton.mp hc
  exact ⟨RX12, TX12, 57, "CrossedFavoursModel", tyX12, rfl, by decide, uw_12, gws_at 1307 (by decide +kernel) rfl, Or.inl rfl, tyX12_ok, nmX12, tyX12_ok 10 (by decide), rfl, fun z => by cases z⟩
theorem ml_12_149 : Cond.methodLink RX12 149 yX12_fails ∈ gws := gws_at 1515 (by decide +kernel) rfl
theorem im_X12_fails : Cond.instanceMethod yX12_fails ∈ gws := gws_at 1517 (by decide +kernel) rfl
theorem se_12_X12_fails : ∀ ci ∈ [12], ∃ (C : String) (T : u_T) (N : Nat), xclasses[ci]? = some (C, T, N) ∧ Cond.selects C yX12_fails yX12_fails ∈ gws := fun ci hc => by
  cases List.mem_singleton.mp hc
  exact ⟨RX12, TX12, 57, rfl, gws_at 49 (by decide +kernel) rfl⟩
theorem ml_12_114 : Cond.methodLink RX12 114 yJ0_length_8abf5 ∈ gws := gws_at 1524 (by decide +kernel) rfl
theorem ml_12_120 : Cond.methodLink RX12 120 yJ0_charAt_5068e ∈ gws := gws_at 1528 (by decide +kernel) rfl
theorem fl_12_137 : ∀ ci ∈ [12], xa_FL RX12 137 ci 9 := fun ci hc => by
  cases List.mem_singleton.mp hc
  exact ⟨RX12, TX12, 57, "CrossedFavoursModel", rfl, by decide, uw_12, gws_at 1306 (by decide +kernel) rfl, Or.inl rfl⟩
theorem fl_12_23 : ∀ ci ∈ [12], xa_FL RX12 23 ci 5 := fun ci hc => by
  cases List.mem_singleton.mp hc
  exact ⟨RX12, TX12, 57, "CrossedFavoursModel", rfl, by decide, uw_12, gws_at 1302 (by decide +kernel) rfl, Or.inl rfl⟩
theorem fl_12_140 : ∀ ci ∈ [12], xa_FL RX12 140 ci 8 := fun ci hc => by
  cases List.mem_singleton.mp hc
  exact ⟨RX12, TX12, 57, "CrossedFavoursModel", rfl, by decide, uw_12, gws_at 1305 (by decide +kernel) rfl, Or.inl rfl⟩
theorem col_12_156 : Cond.constantLong RX12 156 (-1000000) ∈ gws := gws_at 1607 (by decide +kernel) rfl
theorem col_12_158 : Cond.constantLong RX12 158 (1000000) ∈ gws := gws_at 1608 (by decide +kernel) rfl
theorem mw_12_160 : xa_mw RX12 160 Lib.MathLoose.min_long.x Lib.MathLoose.min_long.code 4 (some .long) := ⟨gws_at 1609 (by decide +kernel) rfl, gws_at 756 (by decide +kernel) rfl, gws_at 123 (by decide +kernel) rfl, gws_at 757 (by decide +kernel) rfl⟩
theorem mw_12_166 : xa_mw RX12 166 Lib.MathLoose.max_long.x Lib.MathLoose.max_long.code 4 (some .long) := ⟨gws_at 1610 (by decide +kernel) rfl, gws_at 759 (by decide +kernel) rfl, gws_at 123 (by decide +kernel) rfl, gws_at 760 (by decide +kernel) rfl⟩
theorem ml_12_153 : Cond.methodLink RX12 153 yX12_look ∈ gws := gws_at 1511 (by decide +kernel) rfl
theorem im_X12_look : Cond.instanceMethod yX12_look ∈ gws := gws_at 1513 (by decide +kernel) rfl
theorem se_12_X12_look : ∀ ci ∈ [12], ∃ (C : String) (T : u_T) (N : Nat), xclasses[ci]? = some (C, T, N) ∧ Cond.selects C yX12_look yX12_look ∈ gws := fun ci hc => by
  cases List.mem_singleton.mp hc
  exact ⟨RX12, TX12, 57, rfl, gws_at 48 (by decide +kernel) rfl⟩
theorem ml_12_169 : Cond.methodLink RX12 169 yX12_isAmong ∈ gws := gws_at 1569 (by decide +kernel) rfl
theorem sm_X12_isAmong : Cond.static yX12_isAmong ∈ gws := gws_at 1570 (by decide +kernel) rfl
theorem ml_12_183 : Cond.methodLink RX12 183 yX12_isDigit ∈ gws := gws_at 1542 (by decide +kernel) rfl
theorem im_X12_isDigit : Cond.instanceMethod yX12_isDigit ∈ gws := gws_at 1544 (by decide +kernel) rfl
theorem se_12_X12_isDigit : ∀ ci ∈ [12], ∃ (C : String) (T : u_T) (N : Nat), xclasses[ci]? = some (C, T, N) ∧ Cond.selects C yX12_isDigit yX12_isDigit ∈ gws := fun ci hc => by
  cases List.mem_singleton.mp hc
  exact ⟨RX12, TX12, 57, rfl, gws_at 52 (by decide +kernel) rfl⟩
theorem ml_12_173 : Cond.methodLink RX12 173 yX12_goesIn ∈ gws := gws_at 1600 (by decide +kernel) rfl
theorem im_X12_goesIn : Cond.instanceMethod yX12_goesIn ∈ gws := gws_at 1602 (by decide +kernel) rfl
theorem se_12_X12_goesIn : ∀ ci ∈ [12], ∃ (C : String) (T : u_T) (N : Nat), xclasses[ci]? = some (C, T, N) ∧ Cond.selects C yX12_goesIn yX12_goesIn ∈ gws := fun ci hc => by
  cases List.mem_singleton.mp hc
  exact ⟨RX12, TX12, 57, rfl, gws_at 65 (by decide +kernel) rfl⟩
theorem ml_12_176 : Cond.methodLink RX12 176 yX12_sum ∈ gws := gws_at 1588 (by decide +kernel) rfl
theorem im_X12_sum : Cond.instanceMethod yX12_sum ∈ gws := gws_at 1590 (by decide +kernel) rfl
theorem se_12_X12_sum : ∀ ci ∈ [12], ∃ (C : String) (T : u_T) (N : Nat), xclasses[ci]? = some (C, T, N) ∧ Cond.selects C yX12_sum yX12_sum ∈ gws := fun ci hc => by
  cases List.mem_singleton.mp hc
  exact ⟨RX12, TX12, 57, rfl, gws_at 62 (by decide +kernel) rfl⟩
theorem ml_12_179 : Cond.methodLink RX12 179 yX12_takes ∈ gws := gws_at 1572 (by decide +kernel) rfl
theorem im_X12_takes : Cond.instanceMethod yX12_takes ∈ gws := gws_at 1574 (by decide +kernel) rfl
theorem se_12_X12_takes : ∀ ci ∈ [12], ∃ (C : String) (T : u_T) (N : Nat), xclasses[ci]? = some (C, T, N) ∧ Cond.selects C yX12_takes yX12_takes ∈ gws := fun ci hc => by
  cases List.mem_singleton.mp hc
  exact ⟨RX12, TX12, 57, rfl, gws_at 58 (by decide +kernel) rfl⟩
theorem fl_12_20 : ∀ ci ∈ [12], xa_FL RX12 20 ci 4 := fun ci hc => by
  cases List.mem_singleton.mp hc
  exact ⟨RX12, TX12, 57, "CrossedFavoursModel", rfl, by decide, uw_12, gws_at 1301 (by decide +kernel) rfl, Or.inl rfl⟩
theorem ml_12_193 : Cond.methodLink RX12 193 yX12_term ∈ gws := gws_at 1592 (by decide +kernel) rfl
theorem im_X12_term : Cond.instanceMethod yX12_term ∈ gws := gws_at 1594 (by decide +kernel) rfl
theorem se_12_X12_term : ∀ ci ∈ [12], ∃ (C : String) (T : u_T) (N : Nat), xclasses[ci]? = some (C, T, N) ∧ Cond.selects C yX12_term yX12_term ∈ gws := fun ci hc => by
  cases List.mem_singleton.mp hc
  exact ⟨RX12, TX12, 57, rfl, gws_at 63 (by decide +kernel) rfl⟩
theorem ml_12_189 : Cond.methodLink RX12 189 yX12_within ∈ gws := gws_at 1604 (by decide +kernel) rfl
theorem sm_X12_within : Cond.static yX12_within ∈ gws := gws_at 1605 (by decide +kernel) rfl
theorem ml_12_186 : Cond.methodLink RX12 186 yX12_atom ∈ gws := gws_at 1596 (by decide +kernel) rfl
theorem im_X12_atom : Cond.instanceMethod yX12_atom ∈ gws := gws_at 1598 (by decide +kernel) rfl
theorem se_12_X12_atom : ∀ ci ∈ [12], ∃ (C : String) (T : u_T) (N : Nat), xclasses[ci]? = some (C, T, N) ∧ Cond.selects C yX12_atom yX12_atom ∈ gws := fun ci hc => by
  cases List.mem_singleton.mp hc
  exact ⟨RX12, TX12, 57, rfl, gws_at 64 (by decide +kernel) rfl⟩
theorem fl_12_323 : ∀ ci ∈ [12], xa_FL RX12 323 ci 56 := fun ci hc => by
  cases List.mem_singleton.mp hc
  exact ⟨RX12, TX12, 57, "CrossedFavoursModel", rfl, by decide, uw_12, gws_at 1353 (by decide +kernel) rfl, Or.inl rfl⟩
theorem fp_12_320 : ∀ ci ∈ [12], xa_FP RX12 320 ci 40 (.int) false := fun ci hc => by
  cases List.mem_singleton.mp hc
  exact ⟨RX12, TX12, 57, "CrossedFavoursModel", tyX12, rfl, by decide, uw_12, gws_at 1337 (by decide +kernel) rfl, Or.inl rfl, tyX12_ok, nmX12, tyX12_ok 40 (by decide), rfl, fun z => by cases z⟩
theorem fl_12_108 : ∀ ci ∈ [12], xa_FL RX12 108 ci 55 := fun ci hc => by
  cases List.mem_singleton.mp hc
  exact ⟨RX12, TX12, 57, "CrossedFavoursModel", rfl, by decide, uw_12, gws_at 1352 (by decide +kernel) rfl, Or.inl rfl⟩
theorem ml_12_196 : Cond.methodLink RX12 196 yX12_isSign ∈ gws := gws_at 1611 (by decide +kernel) rfl
theorem sm_X12_isSign : Cond.static yX12_isSign ∈ gws := gws_at 1612 (by decide +kernel) rfl
theorem ml_12_209 : Cond.methodLink RX12 209 yX12_part ∈ gws := gws_at 1580 (by decide +kernel) rfl
theorem im_X12_part : Cond.instanceMethod yX12_part ∈ gws := gws_at 1582 (by decide +kernel) rfl
theorem se_12_X12_part : ∀ ci ∈ [12], ∃ (C : String) (T : u_T) (N : Nat), xclasses[ci]? = some (C, T, N) ∧ Cond.selects C yX12_part yX12_part ∈ gws := fun ci hc => by
  cases List.mem_singleton.mp hc
  exact ⟨RX12, TX12, 57, rfl, gws_at 60 (by decide +kernel) rfl⟩
theorem ml_12_199 : Cond.methodLink RX12 199 yX12_unit ∈ gws := gws_at 1614 (by decide +kernel) rfl
theorem im_X12_unit : Cond.instanceMethod yX12_unit ∈ gws := gws_at 1616 (by decide +kernel) rfl
theorem se_12_X12_unit : ∀ ci ∈ [12], ∃ (C : String) (T : u_T) (N : Nat), xclasses[ci]? = some (C, T, N) ∧ Cond.selects C yX12_unit yX12_unit ∈ gws := fun ci hc => by
  cases List.mem_singleton.mp hc
  exact ⟨RX12, TX12, 57, rfl, gws_at 66 (by decide +kernel) rfl⟩
theorem ml_12_206 : Cond.methodLink RX12 206 yX12_compares ∈ gws := gws_at 1584 (by decide +kernel) rfl
theorem im_X12_compares : Cond.instanceMethod yX12_compares ∈ gws := gws_at 1586 (by decide +kernel) rfl
theorem se_12_X12_compares : ∀ ci ∈ [12], ∃ (C : String) (T : u_T) (N : Nat), xclasses[ci]? = some (C, T, N) ∧ Cond.selects C yX12_compares yX12_compares ∈ gws := fun ci hc => by
  cases List.mem_singleton.mp hc
  exact ⟨RX12, TX12, 57, rfl, gws_at 61 (by decide +kernel) rfl⟩
theorem ml_12_202 : Cond.methodLink RX12 202 yX12_condition ∈ gws := gws_at 1576 (by decide +kernel) rfl
theorem im_X12_condition : Cond.instanceMethod yX12_condition ∈ gws := gws_at 1578 (by decide +kernel) rfl
theorem se_12_X12_condition : ∀ ci ∈ [12], ∃ (C : String) (T : u_T) (N : Nat), xclasses[ci]? = some (C, T, N) ∧ Cond.selects C yX12_condition yX12_condition ∈ gws := fun ci hc => by
  cases List.mem_singleton.mp hc
  exact ⟨RX12, TX12, 57, rfl, gws_at 59 (by decide +kernel) rfl⟩
theorem fl_12_212 : ∀ ci ∈ [12], xa_FL RX12 212 ci 17 := fun ci hc => by
  cases List.mem_singleton.mp hc
  exact ⟨RX12, TX12, 57, "CrossedFavoursModel", rfl, by decide, uw_12, gws_at 1314 (by decide +kernel) rfl, Or.inl rfl⟩
theorem fl_12_216 : ∀ ci ∈ [12], xa_FL RX12 216 ci 13 := fun ci hc => by
  cases List.mem_singleton.mp hc
  exact ⟨RX12, TX12, 57, "CrossedFavoursModel", rfl, by decide, uw_12, gws_at 1310 (by decide +kernel) rfl, Or.inl rfl⟩
theorem fp_12_212 : ∀ ci ∈ [12], xa_FP RX12 212 ci 17 (.boolean) false := fun ci hc => by
  cases List.mem_singleton.mp hc
  exact ⟨RX12, TX12, 57, "CrossedFavoursModel", tyX12, rfl, by decide, uw_12, gws_at 1314 (by decide +kernel) rfl, Or.inl rfl, tyX12_ok, nmX12, tyX12_ok 17 (by decide), rfl, fun z => by cases z⟩
theorem fp_12_219 : ∀ ci ∈ [12], xa_FP RX12 219 ci 14 (.int) false := fun ci hc => by
  cases List.mem_singleton.mp hc
  exact ⟨RX12, TX12, 57, "CrossedFavoursModel", tyX12, rfl, by decide, uw_12, gws_at 1311 (by decide +kernel) rfl, Or.inl rfl, tyX12_ok, nmX12, tyX12_ok 14 (by decide), rfl, fun z => by cases z⟩
theorem fp_12_23 : ∀ ci ∈ [12], xa_FP RX12 23 ci 5 (.array .byte) false := fun ci hc => by
  cases List.mem_singleton.mp hc
  exact ⟨RX12, TX12, 57, "CrossedFavoursModel", tyX12, rfl, by decide, uw_12, gws_at 1302 (by decide +kernel) rfl, Or.inl rfl, tyX12_ok, nmX12, tyX12_ok 5 (by decide), rfl, fun z => by cases z⟩
theorem fp_12_140 : ∀ ci ∈ [12], xa_FP RX12 140 ci 8 (.int) false := fun ci hc => by
  cases List.mem_singleton.mp hc
  exact ⟨RX12, TX12, 57, "CrossedFavoursModel", tyX12, rfl, by decide, uw_12, gws_at 1305 (by decide +kernel) rfl, Or.inl rfl, tyX12_ok, nmX12, tyX12_ok 8 (by decide), rfl, fun z => by cases z⟩
theorem fp_12_137 : ∀ ci ∈ [12], xa_FP RX12 137 ci 9 (.int) false := fun ci hc => by
  cases List.mem_singleton.mp hc
  exact ⟨RX12, TX12, 57, "CrossedFavoursModel", tyX12, rfl, by decide, uw_12, gws_at 1306 (by decide +kernel) rfl, Or.inl rfl, tyX12_ok, nmX12, tyX12_ok 9 (by decide), rfl, fun z => by cases z⟩
theorem ml_12_222 : Cond.methodLink RX12 222 yX12_starts ∈ gws := gws_at 1500 (by decide +kernel) rfl
theorem im_X12_starts : Cond.instanceMethod yX12_starts ∈ gws := gws_at 1502 (by decide +kernel) rfl
theorem se_12_X12_starts : ∀ ci ∈ [12], ∃ (C : String) (T : u_T) (N : Nat), xclasses[ci]? = some (C, T, N) ∧ Cond.selects C yX12_starts yX12_starts ∈ gws := fun ci hc => by
  cases List.mem_singleton.mp hc
  exact ⟨RX12, TX12, 57, rfl, gws_at 46 (by decide +kernel) rfl⟩
theorem fp_12_216 : ∀ ci ∈ [12], xa_FP RX12 216 ci 13 (.int) false := fun ci hc => by
  cases List.mem_singleton.mp hc
  exact ⟨RX12, TX12, 57, "CrossedFavoursModel", tyX12, rfl, by decide, uw_12, gws_at 1310 (by decide +kernel) rfl, Or.inl rfl, tyX12_ok, nmX12, tyX12_ok 13 (by decide), rfl, fun z => by cases z⟩
theorem ml_12_226 : Cond.methodLink RX12 226 yX12_clause ∈ gws := gws_at 1565 (by decide +kernel) rfl
theorem im_X12_clause : Cond.instanceMethod yX12_clause ∈ gws := gws_at 1567 (by decide +kernel) rfl
theorem se_12_X12_clause : ∀ ci ∈ [12], ∃ (C : String) (T : u_T) (N : Nat), xclasses[ci]? = some (C, T, N) ∧ Cond.selects C yX12_clause yX12_clause ∈ gws := fun ci hc => by
  cases List.mem_singleton.mp hc
  exact ⟨RX12, TX12, 57, rfl, gws_at 57 (by decide +kernel) rfl⟩
theorem fl_12_70 : ∀ ci ∈ [12], xa_FL RX12 70 ci 35 := fun ci hc => by
  cases List.mem_singleton.mp hc
  exact ⟨RX12, TX12, 57, "CrossedFavoursModel", rfl, by decide, uw_12, gws_at 1332 (by decide +kernel) rfl, Or.inl rfl⟩
theorem fl_12_13 : ∀ ci ∈ [12], xa_FL RX12 13 ci 2 := fun ci hc => by
  cases List.mem_singleton.mp hc
  exact ⟨RX12, TX12, 57, "CrossedFavoursModel", rfl, by decide, uw_12, gws_at 1299 (by decide +kernel) rfl, Or.inl rfl⟩
theorem fl_12_16 : ∀ ci ∈ [12], xa_FL RX12 16 ci 3 := fun ci hc => by
  cases List.mem_singleton.mp hc
  exact ⟨RX12, TX12, 57, "CrossedFavoursModel", rfl, by decide, uw_12, gws_at 1300 (by decide +kernel) rfl, Or.inl rfl⟩
theorem ml_12_293 : Cond.methodLink RX12 293 yX12_goThrough ∈ gws := gws_at 1561 (by decide +kernel) rfl
theorem im_X12_goThrough : Cond.instanceMethod yX12_goThrough ∈ gws := gws_at 1563 (by decide +kernel) rfl
theorem se_12_X12_goThrough : ∀ ci ∈ [12], ∃ (C : String) (T : u_T) (N : Nat), xclasses[ci]? = some (C, T, N) ∧ Cond.selects C yX12_goThrough yX12_goThrough ∈ gws := fun ci hc => by
  cases List.mem_singleton.mp hc
  exact ⟨RX12, TX12, 57, rfl, gws_at 56 (by decide +kernel) rfl⟩
theorem fl_12_219 : ∀ ci ∈ [12], xa_FL RX12 219 ci 14 := fun ci hc => by
  cases List.mem_singleton.mp hc
  exact ⟨RX12, TX12, 57, "CrossedFavoursModel", rfl, by decide, uw_12, gws_at 1311 (by decide +kernel) rfl, Or.inl rfl⟩
theorem mw_12_373 : xa_mw RX12 373 Lib.Math.min.name Lib.Math.min.code 2 (some .int) := ⟨gws_at 1653 (by decide +kernel) rfl, gws_at 559 (by decide +kernel) rfl, gws_at 123 (by decide +kernel) rfl, gws_at 560 (by decide +kernel) rfl⟩
theorem fl_12_299 : ∀ ci ∈ [12], xa_FL RX12 299 ci 7 := fun ci hc => by
  cases List.mem_singleton.mp hc
  exact ⟨RX12, TX12, 57, "CrossedFavoursModel", rfl, by decide, uw_12, gws_at 1304 (by decide +kernel) rfl, Or.inl rfl⟩
theorem fl_12_124 : ∀ ci ∈ [12], xa_FL RX12 124 ci 6 := fun ci hc => by
  cases List.mem_singleton.mp hc
  exact ⟨RX12, TX12, 57, "CrossedFavoursModel", rfl, by decide, uw_12, gws_at 1303 (by decide +kernel) rfl, Or.inl rfl⟩
theorem fl_12_74 : ∀ ci ∈ [12], xa_FL RX12 74 ci 36 := fun ci hc => by
  cases List.mem_singleton.mp hc
  exact ⟨RX12, TX12, 57, "CrossedFavoursModel", rfl, by decide, uw_12, gws_at 1333 (by decide +kernel) rfl, Or.inl rfl⟩
theorem fl_12_320 : ∀ ci ∈ [12], xa_FL RX12 320 ci 40 := fun ci hc => by
  cases List.mem_singleton.mp hc
  exact ⟨RX12, TX12, 57, "CrossedFavoursModel", rfl, by decide, uw_12, gws_at 1337 (by decide +kernel) rfl, Or.inl rfl⟩
theorem fl_12_83 : ∀ ci ∈ [12], xa_FL RX12 83 ci 39 := fun ci hc => by
  cases List.mem_singleton.mp hc
  exact ⟨RX12, TX12, 57, "CrossedFavoursModel", rfl, by decide, uw_12, gws_at 1336 (by decide +kernel) rfl, Or.inl rfl⟩
theorem ml_12_377 : Cond.methodLink RX12 377 yX12_cost ∈ gws := gws_at 1649 (by decide +kernel) rfl
theorem im_X12_cost : Cond.instanceMethod yX12_cost ∈ gws := gws_at 1651 (by decide +kernel) rfl
theorem se_12_X12_cost : ∀ ci ∈ [12], ∃ (C : String) (T : u_T) (N : Nat), xclasses[ci]? = some (C, T, N) ∧ Cond.selects C yX12_cost yX12_cost ∈ gws := fun ci hc => by
  cases List.mem_singleton.mp hc
  exact ⟨RX12, TX12, 57, rfl, gws_at 72 (by decide +kernel) rfl⟩
theorem ml_12_388 : Cond.methodLink RX12 388 yX12_remember ∈ gws := gws_at 1697 (by decide +kernel) rfl
theorem im_X12_remember : Cond.instanceMethod yX12_remember ∈ gws := gws_at 1699 (by decide +kernel) rfl
theorem se_12_X12_remember : ∀ ci ∈ [12], ∃ (C : String) (T : u_T) (N : Nat), xclasses[ci]? = some (C, T, N) ∧ Cond.selects C yX12_remember yX12_remember ∈ gws := fun ci hc => by
  cases List.mem_singleton.mp hc
  exact ⟨RX12, TX12, 57, rfl, gws_at 78 (by decide +kernel) rfl⟩
theorem ml_12_394 : Cond.methodLink RX12 394 yX12_tells ∈ gws := gws_at 1717 (by decide +kernel) rfl
theorem im_X12_tells : Cond.instanceMethod yX12_tells ∈ gws := gws_at 1719 (by decide +kernel) rfl
theorem se_12_X12_tells : ∀ ci ∈ [12], ∃ (C : String) (T : u_T) (N : Nat), xclasses[ci]? = some (C, T, N) ∧ Cond.selects C yX12_tells yX12_tells ∈ gws := fun ci hc => by
  cases List.mem_singleton.mp hc
  exact ⟨RX12, TX12, 57, rfl, gws_at 81 (by decide +kernel) rfl⟩
theorem fl_12_67 : ∀ ci ∈ [12], xa_FL RX12 67 ci 34 := fun ci hc => by
  cases List.mem_singleton.mp hc
  exact ⟨RX12, TX12, 57, "CrossedFavoursModel", rfl, by decide, uw_12, gws_at 1331 (by decide +kernel) rfl, Or.inl rfl⟩
theorem ml_12_400 : Cond.methodLink RX12 400 yX12_pays ∈ gws := gws_at 1693 (by decide +kernel) rfl
theorem im_X12_pays : Cond.instanceMethod yX12_pays ∈ gws := gws_at 1695 (by decide +kernel) rfl
theorem se_12_X12_pays : ∀ ci ∈ [12], ∃ (C : String) (T : u_T) (N : Nat), xclasses[ci]? = some (C, T, N) ∧ Cond.selects C yX12_pays yX12_pays ∈ gws := fun ci hc => by
  cases List.mem_singleton.mp hc
  exact ⟨RX12, TX12, 57, rfl, gws_at 77 (by decide +kernel) rfl⟩
theorem ml_12_397 : Cond.methodLink RX12 397 yX12_refused ∈ gws := gws_at 1681 (by decide +kernel) rfl
theorem im_X12_refused : Cond.instanceMethod yX12_refused ∈ gws := gws_at 1683 (by decide +kernel) rfl
theorem se_12_X12_refused : ∀ ci ∈ [12], ∃ (C : String) (T : u_T) (N : Nat), xclasses[ci]? = some (C, T, N) ∧ Cond.selects C yX12_refused yX12_refused ∈ gws := fun ci hc => by
  cases List.mem_singleton.mp hc
  exact ⟨RX12, TX12, 57, rfl, gws_at 74 (by decide +kernel) rfl⟩
theorem fl_12_413 : ∀ ci ∈ [12], xa_FL RX12 413 ci 41 := fun ci hc => by
  cases List.mem_singleton.mp hc
  exact ⟨RX12, TX12, 57, "CrossedFavoursModel", rfl, by decide, uw_12, gws_at 1338 (by decide +kernel) rfl, Or.inl rfl⟩
theorem col_12_417 : Cond.constantLong RX12 417 (6364136223846793005) ∈ gws := gws_at 1774 (by decide +kernel) rfl
theorem col_12_419 : Cond.constantLong RX12 419 (1442695040888963407) ∈ gws := gws_at 1775 (by decide +kernel) rfl
theorem fp_12_413 : ∀ ci ∈ [12], xa_FP RX12 413 ci 41 (.long) false := fun ci hc => by
  cases List.mem_singleton.mp hc
  exact ⟨RX12, TX12, 57, "CrossedFavoursModel", tyX12, rfl, by decide, uw_12, gws_at 1338 (by decide +kernel) rfl, Or.inl rfl, tyX12_ok, nmX12, tyX12_ok 41 (by decide), rfl, fun z => by cases z⟩
theorem fp_12_124 : ∀ ci ∈ [12], xa_FP RX12 124 ci 6 (.int) false := fun ci hc => by
  cases List.mem_singleton.mp hc
  exact ⟨RX12, TX12, 57, "CrossedFavoursModel", tyX12, rfl, by decide, uw_12, gws_at 1303 (by decide +kernel) rfl, Or.inl rfl, tyX12_ok, nmX12, tyX12_ok 6 (by decide), rfl, fun z => by cases z⟩
theorem fl_12_9 : ∀ ci ∈ [12], xa_FL RX12 9 ci 1 := fun ci hc => by
  cases List.mem_singleton.mp hc
  exact ⟨RX12, TX12, 57, "CrossedFavoursModel", rfl, by decide, uw_12, gws_at 1298 (by decide +kernel) rfl, Or.inl rfl⟩
theorem ml_12_229 : Cond.methodLink RX12 229 yX12_here ∈ gws := gws_at 1546 (by decide +kernel) rfl
theorem im_X12_here : Cond.instanceMethod yX12_here ∈ gws := gws_at 1548 (by decide +kernel) rfl
theorem se_12_X12_here : ∀ ci ∈ [12], ∃ (C : String) (T : u_T) (N : Nat), xclasses[ci]? = some (C, T, N) ∧ Cond.selects C yX12_here yX12_here ∈ gws := fun ci hc => by
  cases List.mem_singleton.mp hc
  exact ⟨RX12, TX12, 57, rfl, gws_at 53 (by decide +kernel) rfl⟩
theorem fl_12_263 : ∀ ci ∈ [12], xa_FL RX12 263 ci 29 := fun ci hc => by
  cases List.mem_singleton.mp hc
  exact ⟨RX12, TX12, 57, "CrossedFavoursModel", rfl, by decide, uw_12, gws_at 1326 (by decide +kernel) rfl, Or.inl rfl⟩
theorem fl_12_52 : ∀ ci ∈ [12], xa_FL RX12 52 ci 23 := fun ci hc => by
  cases List.mem_singleton.mp hc
  exact ⟨RX12, TX12, 57, "CrossedFavoursModel", rfl, by decide, uw_12, gws_at 1320 (by decide +kernel) rfl, Or.inl rfl⟩
theorem fl_12_260 : ∀ ci ∈ [12], xa_FL RX12 260 ci 28 := fun ci hc => by
  cases List.mem_singleton.mp hc
  exact ⟨RX12, TX12, 57, "CrossedFavoursModel", rfl, by decide, uw_12, gws_at 1325 (by decide +kernel) rfl, Or.inl rfl⟩
theorem ml_12_276 : Cond.methodLink RX12 276 yX12_readBetween ∈ gws := gws_at 1556 (by decide +kernel) rfl
theorem im_X12_readBetween : Cond.instanceMethod yX12_readBetween ∈ gws := gws_at 1558 (by decide +kernel) rfl
theorem se_12_X12_readBetween : ∀ ci ∈ [12], ∃ (C : String) (T : u_T) (N : Nat), xclasses[ci]? = some (C, T, N) ∧ Cond.selects C yX12_readBetween yX12_readBetween ∈ gws := fun ci hc => by
  cases List.mem_singleton.mp hc
  exact ⟨RX12, TX12, 57, rfl, gws_at 55 (by decide +kernel) rfl⟩
theorem mw_12_279 : xa_mw RX12 279 Lib.Math.abs.name Lib.Math.abs.code 1 (some .int) := ⟨gws_at 1560 (by decide +kernel) rfl, gws_at 871 (by decide +kernel) rfl, gws_at 123 (by decide +kernel) rfl, gws_at 872 (by decide +kernel) rfl⟩
theorem fl_12_40 : ∀ ci ∈ [12], xa_FL RX12 40 ci 19 := fun ci hc => by
  cases List.mem_singleton.mp hc
  exact ⟨RX12, TX12, 57, "CrossedFavoursModel", rfl, by decide, uw_12, gws_at 1316 (by decide +kernel) rfl, Or.inl rfl⟩
theorem ml_12_240 : Cond.methodLink RX12 240 yX12_spotOf ∈ gws := gws_at 1525 (by decide +kernel) rfl
theorem sm_X12_spotOf : Cond.static yX12_spotOf ∈ gws := gws_at 1526 (by decide +kernel) rfl
theorem ml_12_236 : Cond.methodLink RX12 236 yX12_usual ∈ gws := gws_at 1504 (by decide +kernel) rfl
theorem sm_X12_usual : Cond.static yX12_usual ∈ gws := gws_at 1505 (by decide +kernel) rfl
theorem ml_12_248 : Cond.methodLink RX12 248 yX12_leastOf ∈ gws := gws_at 1532 (by decide +kernel) rfl
theorem sm_X12_leastOf : Cond.static yX12_leastOf ∈ gws := gws_at 1533 (by decide +kernel) rfl
theorem ml_12_251 : Cond.methodLink RX12 251 yX12_mostOf ∈ gws := gws_at 1535 (by decide +kernel) rfl
theorem sm_X12_mostOf : Cond.static yX12_mostOf ∈ gws := gws_at 1536 (by decide +kernel) rfl
theorem ml_12_254 : Cond.methodLink RX12 254 yX12_number ∈ gws := gws_at 1538 (by decide +kernel) rfl
theorem im_X12_number : Cond.instanceMethod yX12_number ∈ gws := gws_at 1540 (by decide +kernel) rfl
theorem se_12_X12_number : ∀ ci ∈ [12], ∃ (C : String) (T : u_T) (N : Nat), xclasses[ci]? = some (C, T, N) ∧ Cond.selects C yX12_number yX12_number ∈ gws := fun ci hc => by
  cases List.mem_singleton.mp hc
  exact ⟨RX12, TX12, 57, rfl, gws_at 51 (by decide +kernel) rfl⟩
theorem fl_12_257 : ∀ ci ∈ [12], xa_FL RX12 257 ci 31 := fun ci hc => by
  cases List.mem_singleton.mp hc
  exact ⟨RX12, TX12, 57, "CrossedFavoursModel", rfl, by decide, uw_12, gws_at 1328 (by decide +kernel) rfl, Or.inl rfl⟩
theorem fp_12_263 : ∀ ci ∈ [12], xa_FP RX12 263 ci 29 (.int) false := fun ci hc => by
  cases List.mem_singleton.mp hc
  exact ⟨RX12, TX12, 57, "CrossedFavoursModel", tyX12, rfl, by decide, uw_12, gws_at 1326 (by decide +kernel) rfl, Or.inl rfl, tyX12_ok, nmX12, tyX12_ok 29 (by decide), rfl, fun z => by cases z⟩
theorem ml_12_268 : Cond.methodLink RX12 268 yX12_readItems ∈ gws := gws_at 1520 (by decide +kernel) rfl
theorem im_X12_readItems : Cond.instanceMethod yX12_readItems ∈ gws := gws_at 1522 (by decide +kernel) rfl
theorem se_12_X12_readItems : ∀ ci ∈ [12], ∃ (C : String) (T : u_T) (N : Nat), xclasses[ci]? = some (C, T, N) ∧ Cond.selects C yX12_readItems yX12_readItems ∈ gws := fun ci hc => by
  cases List.mem_singleton.mp hc
  exact ⟨RX12, TX12, 57, rfl, gws_at 50 (by decide +kernel) rfl⟩
theorem fp_12_260 : ∀ ci ∈ [12], xa_FP RX12 260 ci 28 (.int) false := fun ci hc => by
  cases List.mem_singleton.mp hc
  exact ⟨RX12, TX12, 57, "CrossedFavoursModel", tyX12, rfl, by decide, uw_12, gws_at 1325 (by decide +kernel) rfl, Or.inl rfl, tyX12_ok, nmX12, tyX12_ok 28 (by decide), rfl, fun z => by cases z⟩
theorem fl_12_46 : ∀ ci ∈ [12], xa_FL RX12 46 ci 21 := fun ci hc => by
  cases List.mem_singleton.mp hc
  exact ⟨RX12, TX12, 57, "CrossedFavoursModel", rfl, by decide, uw_12, gws_at 1318 (by decide +kernel) rfl, Or.inl rfl⟩
theorem fp_12_257 : ∀ ci ∈ [12], xa_FP RX12 257 ci 31 (.boolean) false := fun ci hc => by
  cases List.mem_singleton.mp hc
  exact ⟨RX12, TX12, 57, "CrossedFavoursModel", tyX12, rfl, by decide, uw_12, gws_at 1328 (by decide +kernel) rfl, Or.inl rfl, tyX12_ok, nmX12, tyX12_ok 31 (by decide), rfl, fun z => by cases z⟩
theorem ml_12_282 : Cond.methodLink RX12 282 yX12_readClause ∈ gws := gws_at 1507 (by decide +kernel) rfl
theorem im_X12_readClause : Cond.instanceMethod yX12_readClause ∈ gws := gws_at 1509 (by decide +kernel) rfl
theorem se_12_X12_readClause : ∀ ci ∈ [12], ∃ (C : String) (T : u_T) (N : Nat), xclasses[ci]? = some (C, T, N) ∧ Cond.selects C yX12_readClause yX12_readClause ∈ gws := fun ci hc => by
  cases List.mem_singleton.mp hc
  exact ⟨RX12, TX12, 57, rfl, gws_at 47 (by decide +kernel) rfl⟩
theorem ml_12_285 : Cond.methodLink RX12 285 yX12_isWhole ∈ gws := gws_at 1552 (by decide +kernel) rfl
theorem im_X12_isWhole : Cond.instanceMethod yX12_isWhole ∈ gws := gws_at 1554 (by decide +kernel) rfl
theorem se_12_X12_isWhole : ∀ ci ∈ [12], ∃ (C : String) (T : u_T) (N : Nat), xclasses[ci]? = some (C, T, N) ∧ Cond.selects C yX12_isWhole yX12_isWhole ∈ gws := fun ci hc => by
  cases List.mem_singleton.mp hc
  exact ⟨RX12, TX12, 57, rfl, gws_at 54 (by decide +kernel) rfl⟩
theorem col_12_288 : Cond.constantLong RX12 288 (2) ∈ gws := gws_at 1492 (by decide +kernel) rfl
theorem ml_12_290 : Cond.methodLink RX12 290 yX12_readVillage ∈ gws := gws_at 1496 (by decide +kernel) rfl
theorem im_X12_readVillage : Cond.instanceMethod yX12_readVillage ∈ gws := gws_at 1498 (by decide +kernel) rfl
theorem se_12_X12_readVillage : ∀ ci ∈ [12], ∃ (C : String) (T : u_T) (N : Nat), xclasses[ci]? = some (C, T, N) ∧ Cond.selects C yX12_readVillage yX12_readVillage ∈ gws := fun ci hc => by
  cases List.mem_singleton.mp hc
  exact ⟨RX12, TX12, 57, rfl, gws_at 45 (by decide +kernel) rfl⟩
theorem ml_12_296 : Cond.methodLink RX12 296 yX12_readSong ∈ gws := gws_at 1618 (by decide +kernel) rfl
theorem im_X12_readSong : Cond.instanceMethod yX12_readSong ∈ gws := gws_at 1620 (by decide +kernel) rfl
theorem se_12_X12_readSong : ∀ ci ∈ [12], ∃ (C : String) (T : u_T) (N : Nat), xclasses[ci]? = some (C, T, N) ∧ Cond.selects C yX12_readSong yX12_readSong ∈ gws := fun ci hc => by
  cases List.mem_singleton.mp hc
  exact ⟨RX12, TX12, 57, rfl, gws_at 67 (by decide +kernel) rfl⟩
theorem ml_12_126 : Cond.methodLink RX12 126 yX12_bytesIn ∈ gws := gws_at 1477 (by decide +kernel) rfl
theorem sm_X12_bytesIn : Cond.static yX12_bytesIn ∈ gws := gws_at 1478 (by decide +kernel) rfl
theorem ml_12_130 : Cond.methodLink RX12 130 yX12_put ∈ gws := gws_at 1480 (by decide +kernel) rfl
theorem im_X12_put : Cond.instanceMethod yX12_put ∈ gws := gws_at 1482 (by decide +kernel) rfl
theorem se_12_X12_put : ∀ ci ∈ [12], ∃ (C : String) (T : u_T) (N : Nat), xclasses[ci]? = some (C, T, N) ∧ Cond.selects C yX12_put yX12_put ∈ gws := fun ci hc => by
  cases List.mem_singleton.mp hc
  exact ⟨RX12, TX12, 57, rfl, gws_at 44 (by decide +kernel) rfl⟩
theorem fl_12_447 : ∀ ci ∈ [12], xa_FL RX12 447 ci 45 := fun ci hc => by
  cases List.mem_singleton.mp hc
  exact ⟨RX12, TX12, 57, "CrossedFavoursModel", rfl, by decide, uw_12, gws_at 1342 (by decide +kernel) rfl, Or.inl rfl⟩
theorem fp_12_447 : ∀ ci ∈ [12], xa_FP RX12 447 ci 45 (.int) false := fun ci hc => by
  cases List.mem_singleton.mp hc
  exact ⟨RX12, TX12, 57, "CrossedFavoursModel", tyX12, rfl, by decide, uw_12, gws_at 1342 (by decide +kernel) rfl, Or.inl rfl, tyX12_ok, nmX12, tyX12_ok 45 (by decide), rfl, fun z => by cases z⟩
theorem fl_12_90 : ∀ ci ∈ [12], xa_FL RX12 90 ci 43 := fun ci hc => by
  cases List.mem_singleton.mp hc
  exact ⟨RX12, TX12, 57, "CrossedFavoursModel", rfl, by decide, uw_12, gws_at 1340 (by decide +kernel) rfl, Or.inl rfl⟩
theorem fl_12_450 : ∀ ci ∈ [12], xa_FL RX12 450 ci 46 := fun ci hc => by
  cases List.mem_singleton.mp hc
  exact ⟨RX12, TX12, 57, "CrossedFavoursModel", rfl, by decide, uw_12, gws_at 1343 (by decide +kernel) rfl, Or.inl rfl⟩
theorem fl_12_456 : ∀ ci ∈ [12], xa_FL RX12 456 ci 47 := fun ci hc => by
  cases List.mem_singleton.mp hc
  exact ⟨RX12, TX12, 57, "CrossedFavoursModel", rfl, by decide, uw_12, gws_at 1344 (by decide +kernel) rfl, Or.inl rfl⟩
theorem fl_12_462 : ∀ ci ∈ [12], xa_FL RX12 462 ci 48 := fun ci hc => by
  cases List.mem_singleton.mp hc
  exact ⟨RX12, TX12, 57, "CrossedFavoursModel", rfl, by decide, uw_12, gws_at 1345 (by decide +kernel) rfl, Or.inl rfl⟩
theorem ml_12_453 : Cond.methodLink RX12 453 yX12_meets ∈ gws := gws_at 1841 (by decide +kernel) rfl
theorem im_X12_meets : Cond.instanceMethod yX12_meets ∈ gws := gws_at 1843 (by decide +kernel) rfl
theorem se_12_X12_meets : ∀ ci ∈ [12], ∃ (C : String) (T : u_T) (N : Nat), xclasses[ci]? = some (C, T, N) ∧ Cond.selects C yX12_meets yX12_meets ∈ gws := fun ci hc => by
  cases List.mem_singleton.mp hc
  exact ⟨RX12, TX12, 57, rfl, gws_at 94 (by decide +kernel) rfl⟩
theorem fp_12_456 : ∀ ci ∈ [12], xa_FP RX12 456 ci 47 (.int) false := fun ci hc => by
  cases List.mem_singleton.mp hc
  exact ⟨RX12, TX12, 57, "CrossedFavoursModel", tyX12, rfl, by decide, uw_12, gws_at 1344 (by decide +kernel) rfl, Or.inl rfl, tyX12_ok, nmX12, tyX12_ok 47 (by decide), rfl, fun z => by cases z⟩
theorem fp_12_462 : ∀ ci ∈ [12], xa_FP RX12 462 ci 48 (.int) false := fun ci hc => by
  cases List.mem_singleton.mp hc
  exact ⟨RX12, TX12, 57, "CrossedFavoursModel", tyX12, rfl, by decide, uw_12, gws_at 1345 (by decide +kernel) rfl, Or.inl rfl, tyX12_ok, nmX12, tyX12_ok 48 (by decide), rfl, fun z => by cases z⟩
theorem fp_12_459 : ∀ ci ∈ [12], xa_FP RX12 459 ci 49 (.int) false := fun ci hc => by
  cases List.mem_singleton.mp hc
  exact ⟨RX12, TX12, 57, "CrossedFavoursModel", tyX12, rfl, by decide, uw_12, gws_at 1346 (by decide +kernel) rfl, Or.inl rfl, tyX12_ok, nmX12, tyX12_ok 49 (by decide), rfl, fun z => by cases z⟩
theorem ml_12_465 : Cond.methodLink RX12 465 yX12_tries ∈ gws := gws_at 1837 (by decide +kernel) rfl
theorem im_X12_tries : Cond.instanceMethod yX12_tries ∈ gws := gws_at 1839 (by decide +kernel) rfl
theorem se_12_X12_tries : ∀ ci ∈ [12], ∃ (C : String) (T : u_T) (N : Nat), xclasses[ci]? = some (C, T, N) ∧ Cond.selects C yX12_tries yX12_tries ∈ gws := fun ci hc => by
  cases List.mem_singleton.mp hc
  exact ⟨RX12, TX12, 57, rfl, gws_at 93 (by decide +kernel) rfl⟩
theorem fl_12_93 : ∀ ci ∈ [12], xa_FL RX12 93 ci 44 := fun ci hc => by
  cases List.mem_singleton.mp hc
  exact ⟨RX12, TX12, 57, "CrossedFavoursModel", rfl, by decide, uw_12, gws_at 1341 (by decide +kernel) rfl, Or.inl rfl⟩
theorem ml_12_469 : Cond.methodLink RX12 469 yX12_goWays ∈ gws := gws_at 1833 (by decide +kernel) rfl
theorem im_X12_goWays : Cond.instanceMethod yX12_goWays ∈ gws := gws_at 1835 (by decide +kernel) rfl
theorem se_12_X12_goWays : ∀ ci ∈ [12], ∃ (C : String) (T : u_T) (N : Nat), xclasses[ci]? = some (C, T, N) ∧ Cond.selects C yX12_goWays yX12_goWays ∈ gws := fun ci hc => by
  cases List.mem_singleton.mp hc
  exact ⟨RX12, TX12, 57, rfl, gws_at 92 (by decide +kernel) rfl⟩
theorem fp_12_450 : ∀ ci ∈ [12], xa_FP RX12 450 ci 46 (.int) false := fun ci hc => by
  cases List.mem_singleton.mp hc
  exact ⟨RX12, TX12, 57, "CrossedFavoursModel", tyX12, rfl, by decide, uw_12, gws_at 1343 (by decide +kernel) rfl, Or.inl rfl, tyX12_ok, nmX12, tyX12_ok 46 (by decide), rfl, fun z => by cases z⟩
theorem col_12_473 : Cond.constantLong RX12 473 (4) ∈ gws := gws_at 1828 (by decide +kernel) rfl
theorem ml_12_475 : Cond.methodLink RX12 475 yX12_seeks ∈ gws := gws_at 1829 (by decide +kernel) rfl
theorem im_X12_seeks : Cond.instanceMethod yX12_seeks ∈ gws := gws_at 1831 (by decide +kernel) rfl
theorem se_12_X12_seeks : ∀ ci ∈ [12], ∃ (C : String) (T : u_T) (N : Nat), xclasses[ci]? = some (C, T, N) ∧ Cond.selects C yX12_seeks yX12_seeks ∈ gws := fun ci hc => by
  cases List.mem_singleton.mp hc
  exact ⟨RX12, TX12, 57, rfl, gws_at 91 (by decide +kernel) rfl⟩
theorem fl_12_459 : ∀ ci ∈ [12], xa_FL RX12 459 ci 49 := fun ci hc => by
  cases List.mem_singleton.mp hc
  exact ⟨RX12, TX12, 57, "CrossedFavoursModel", rfl, by decide, uw_12, gws_at 1346 (by decide +kernel) rfl, Or.inl rfl⟩
theorem ml_12_407 : Cond.methodLink RX12 407 yX12_clears ∈ gws := gws_at 1753 (by decide +kernel) rfl
theorem sm_X12_clears : Cond.static yX12_clears ∈ gws := gws_at 1754 (by decide +kernel) rfl
theorem ml_12_492 : Cond.methodLink RX12 492 yX12_perhaps ∈ gws := gws_at 1896 (by decide +kernel) rfl
theorem im_X12_perhaps : Cond.instanceMethod yX12_perhaps ∈ gws := gws_at 1898 (by decide +kernel) rfl
theorem se_12_X12_perhaps : ∀ ci ∈ [12], ∃ (C : String) (T : u_T) (N : Nat), xclasses[ci]? = some (C, T, N) ∧ Cond.selects C yX12_perhaps yX12_perhaps ∈ gws := fun ci hc => by
  cases List.mem_singleton.mp hc
  exact ⟨RX12, TX12, 57, rfl, gws_at 99 (by decide +kernel) rfl⟩
theorem ml_12_495 : Cond.methodLink RX12 495 yX12_canPlay ∈ gws := gws_at 1888 (by decide +kernel) rfl
theorem im_X12_canPlay : Cond.instanceMethod yX12_canPlay ∈ gws := gws_at 1890 (by decide +kernel) rfl
theorem se_12_X12_canPlay : ∀ ci ∈ [12], ∃ (C : String) (T : u_T) (N : Nat), xclasses[ci]? = some (C, T, N) ∧ Cond.selects C yX12_canPlay yX12_canPlay ∈ gws := fun ci hc => by
  cases List.mem_singleton.mp hc
  exact ⟨RX12, TX12, 57, rfl, gws_at 97 (by decide +kernel) rfl⟩
theorem ml_12_498 : Cond.methodLink RX12 498 yX12_gameOf ∈ gws := gws_at 1892 (by decide +kernel) rfl
theorem im_X12_gameOf : Cond.instanceMethod yX12_gameOf ∈ gws := gws_at 1894 (by decide +kernel) rfl
theorem se_12_X12_gameOf : ∀ ci ∈ [12], ∃ (C : String) (T : u_T) (N : Nat), xclasses[ci]? = some (C, T, N) ∧ Cond.selects C yX12_gameOf yX12_gameOf ∈ gws := fun ci hc => by
  cases List.mem_singleton.mp hc
  exact ⟨RX12, TX12, 57, rfl, gws_at 98 (by decide +kernel) rfl⟩
theorem col_12_411 : Cond.constantLong RX12 411 (50) ∈ gws := gws_at 1764 (by decide +kernel) rfl
theorem col_12_386 : Cond.constantLong RX12 386 (9) ∈ gws := gws_at 1676 (by decide +kernel) rfl
theorem fp_12_74 : ∀ ci ∈ [12], xa_FP RX12 74 ci 36 (.int) false := fun ci hc => by
  cases List.mem_singleton.mp hc
  exact ⟨RX12, TX12, 57, "CrossedFavoursModel", tyX12, rfl, by decide, uw_12, gws_at 1333 (by decide +kernel) rfl, Or.inl rfl, tyX12_ok, nmX12, tyX12_ok 36 (by decide), rfl, fun z => by cases z⟩
theorem col_12_375 : Cond.constantLong RX12 375 (6) ∈ gws := gws_at 1639 (by decide +kernel) rfl
theorem fl_12_111 : ∀ ci ∈ [12], xa_FL RX12 111 ci 0 := fun ci hc => by
  cases List.mem_singleton.mp hc
  exact ⟨RX12, TX12, 57, "CrossedFavoursModel", rfl, by decide, uw_12, gws_at 1297 (by decide +kernel) rfl, Or.inl rfl⟩
theorem fp_12_323 : ∀ ci ∈ [12], xa_FP RX12 323 ci 56 (.boolean) false := fun ci hc => by
  cases List.mem_singleton.mp hc
  exact ⟨RX12, TX12, 57, "CrossedFavoursModel", tyX12, rfl, by decide, uw_12, gws_at 1353 (by decide +kernel) rfl, Or.inl rfl, tyX12_ok, nmX12, tyX12_ok 56 (by decide), rfl, fun z => by cases z⟩
theorem oi_12_3 : Cond.methodLink RX12 3 objectInit ∈ gws ∧ Cond.instanceMethod objectInit ∈ gws ∧ Cond.code objectInit ⟨#[0xb1]⟩ 1 none ∈ gws := ⟨gws_at 1293 (by decide +kernel) rfl, gws_at 138 (by decide +kernel) rfl, gws_at 139 (by decide +kernel) rfl⟩
theorem ac_byte : Cond.arrayClass .byte ∈ gws := gws_at 277 (by decide +kernel) rfl
theorem fp_12_9 : ∀ ci ∈ [12], xa_FP RX12 9 ci 1 (.array .byte) true := fun ci hc => by
  cases List.mem_singleton.mp hc
  exact ⟨RX12, TX12, 57, "CrossedFavoursModel", tyX12, rfl, by decide, uw_12, gws_at 1298 (by decide +kernel) rfl, Or.inl rfl, tyX12_ok, nmX12, tyX12_ok 1 (by decide), rfl, fun _ => rfl⟩
theorem fp_12_13 : ∀ ci ∈ [12], xa_FP RX12 13 ci 2 (.array .byte) true := fun ci hc => by
  cases List.mem_singleton.mp hc
  exact ⟨RX12, TX12, 57, "CrossedFavoursModel", tyX12, rfl, by decide, uw_12, gws_at 1299 (by decide +kernel) rfl, Or.inl rfl, tyX12_ok, nmX12, tyX12_ok 2 (by decide), rfl, fun _ => rfl⟩
theorem fp_12_16 : ∀ ci ∈ [12], xa_FP RX12 16 ci 3 (.array .int) true := fun ci hc => by
  cases List.mem_singleton.mp hc
  exact ⟨RX12, TX12, 57, "CrossedFavoursModel", tyX12, rfl, by decide, uw_12, gws_at 1300 (by decide +kernel) rfl, Or.inl rfl, tyX12_ok, nmX12, tyX12_ok 3 (by decide), rfl, fun _ => rfl⟩
theorem fp_12_20 : ∀ ci ∈ [12], xa_FP RX12 20 ci 4 (.array .int) true := fun ci hc => by
  cases List.mem_singleton.mp hc
  exact ⟨RX12, TX12, 57, "CrossedFavoursModel", tyX12, rfl, by decide, uw_12, gws_at 1301 (by decide +kernel) rfl, Or.inl rfl, tyX12_ok, nmX12, tyX12_ok 4 (by decide), rfl, fun _ => rfl⟩
theorem fp_12_28 : ∀ ci ∈ [12], xa_FP RX12 28 ci 15 (.object "java/lang/String") true := fun ci hc => by
  cases List.mem_singleton.mp hc
  exact ⟨RX12, TX12, 57, "CrossedFavoursModel", tyX12, rfl, by decide, uw_12, gws_at 1312 (by decide +kernel) rfl, Or.inl rfl, tyX12_ok, nmX12, tyX12_ok 15 (by decide), rfl, fun _ => rfl⟩
theorem fp_12_34 : ∀ ci ∈ [12], xa_FP RX12 34 ci 16 (.object "java/lang/String") true := fun ci hc => by
  cases List.mem_singleton.mp hc
  exact ⟨RX12, TX12, 57, "CrossedFavoursModel", tyX12, rfl, by decide, uw_12, gws_at 1313 (by decide +kernel) rfl, Or.inl rfl, tyX12_ok, nmX12, tyX12_ok 16 (by decide), rfl, fun _ => rfl⟩
theorem fp_12_37 : ∀ ci ∈ [12], xa_FP RX12 37 ci 18 (.array .int) true := fun ci hc => by
  cases List.mem_singleton.mp hc
  exact ⟨RX12, TX12, 57, "CrossedFavoursModel", tyX12, rfl, by decide, uw_12, gws_at 1315 (by decide +kernel) rfl, Or.inl rfl, tyX12_ok, nmX12, tyX12_ok 18 (by decide), rfl, fun _ => rfl⟩
theorem fp_12_40 : ∀ ci ∈ [12], xa_FP RX12 40 ci 19 (.array .int) true := fun ci hc => by
  cases List.mem_singleton.mp hc
  exact ⟨RX12, TX12, 57, "CrossedFavoursModel", tyX12, rfl, by decide, uw_12, gws_at 1316 (by decide +kernel) rfl, Or.inl rfl, tyX12_ok, nmX12, tyX12_ok 19 (by decide), rfl, fun _ => rfl⟩
theorem fp_12_43 : ∀ ci ∈ [12], xa_FP RX12 43 ci 20 (.array .int) true := fun ci hc => by
  cases List.mem_singleton.mp hc
  exact ⟨RX12, TX12, 57, "CrossedFavoursModel", tyX12, rfl, by decide, uw_12, gws_at 1317 (by decide +kernel) rfl, Or.inl rfl, tyX12_ok, nmX12, tyX12_ok 20 (by decide), rfl, fun _ => rfl⟩
theorem fp_12_46 : ∀ ci ∈ [12], xa_FP RX12 46 ci 21 (.array .int) true := fun ci hc => by
  cases List.mem_singleton.mp hc
  exact ⟨RX12, TX12, 57, "CrossedFavoursModel", tyX12, rfl, by decide, uw_12, gws_at 1318 (by decide +kernel) rfl, Or.inl rfl, tyX12_ok, nmX12, tyX12_ok 21 (by decide), rfl, fun _ => rfl⟩
theorem fp_12_49 : ∀ ci ∈ [12], xa_FP RX12 49 ci 22 (.array .int) true := fun ci hc => by
  cases List.mem_singleton.mp hc
  exact ⟨RX12, TX12, 57, "CrossedFavoursModel", tyX12, rfl, by decide, uw_12, gws_at 1319 (by decide +kernel) rfl, Or.inl rfl, tyX12_ok, nmX12, tyX12_ok 22 (by decide), rfl, fun _ => rfl⟩
theorem fp_12_52 : ∀ ci ∈ [12], xa_FP RX12 52 ci 23 (.array .int) true := fun ci hc => by
  cases List.mem_singleton.mp hc
  exact ⟨RX12, TX12, 57, "CrossedFavoursModel", tyX12, rfl, by decide, uw_12, gws_at 1320 (by decide +kernel) rfl, Or.inl rfl, tyX12_ok, nmX12, tyX12_ok 23 (by decide), rfl, fun _ => rfl⟩
theorem fp_12_55 : ∀ ci ∈ [12], xa_FP RX12 55 ci 24 (.array .int) true := fun ci hc => by
  cases List.mem_singleton.mp hc
  exact ⟨RX12, TX12, 57, "CrossedFavoursModel", tyX12, rfl, by decide, uw_12, gws_at 1321 (by decide +kernel) rfl, Or.inl rfl, tyX12_ok, nmX12, tyX12_ok 24 (by decide), rfl, fun _ => rfl⟩
theorem fp_12_58 : ∀ ci ∈ [12], xa_FP RX12 58 ci 25 (.array .int) true := fun ci hc => by
  cases List.mem_singleton.mp hc
  exact ⟨RX12, TX12, 57, "CrossedFavoursModel", tyX12, rfl, by decide, uw_12, gws_at 1322 (by decide +kernel) rfl, Or.inl rfl, tyX12_ok, nmX12, tyX12_ok 25 (by decide), rfl, fun _ => rfl⟩
theorem fp_12_61 : ∀ ci ∈ [12], xa_FP RX12 61 ci 32 (.array .int) true := fun ci hc => by
  cases List.mem_singleton.mp hc
  exact ⟨RX12, TX12, 57, "CrossedFavoursModel", tyX12, rfl, by decide, uw_12, gws_at 1329 (by decide +kernel) rfl, Or.inl rfl, tyX12_ok, nmX12, tyX12_ok 32 (by decide), rfl, fun _ => rfl⟩
theorem fp_12_64 : ∀ ci ∈ [12], xa_FP RX12 64 ci 33 (.array .int) true := fun ci hc => by
  cases List.mem_singleton.mp hc
  exact ⟨RX12, TX12, 57, "CrossedFavoursModel", tyX12, rfl, by decide, uw_12, gws_at 1330 (by decide +kernel) rfl, Or.inl rfl, tyX12_ok, nmX12, tyX12_ok 33 (by decide), rfl, fun _ => rfl⟩
theorem fp_12_67 : ∀ ci ∈ [12], xa_FP RX12 67 ci 34 (.array .int) true := fun ci hc => by
  cases List.mem_singleton.mp hc
  exact ⟨RX12, TX12, 57, "CrossedFavoursModel", tyX12, rfl, by decide, uw_12, gws_at 1331 (by decide +kernel) rfl, Or.inl rfl, tyX12_ok, nmX12, tyX12_ok 34 (by decide), rfl, fun _ => rfl⟩
theorem fp_12_70 : ∀ ci ∈ [12], xa_FP RX12 70 ci 35 (.int) false := fun ci hc => by
  cases List.mem_singleton.mp hc
  exact ⟨RX12, TX12, 57, "CrossedFavoursModel", tyX12, rfl, by decide, uw_12, gws_at 1332 (by decide +kernel) rfl, Or.inl rfl, tyX12_ok, nmX12, tyX12_ok 35 (by decide), rfl, fun z => by cases z⟩
theorem fp_12_77 : ∀ ci ∈ [12], xa_FP RX12 77 ci 37 (.array .int) true := fun ci hc => by
  cases List.mem_singleton.mp hc
  exact ⟨RX12, TX12, 57, "CrossedFavoursModel", tyX12, rfl, by decide, uw_12, gws_at 1334 (by decide +kernel) rfl, Or.inl rfl, tyX12_ok, nmX12, tyX12_ok 37 (by decide), rfl, fun _ => rfl⟩
theorem fp_12_80 : ∀ ci ∈ [12], xa_FP RX12 80 ci 38 (.array .int) true := fun ci hc => by
  cases List.mem_singleton.mp hc
  exact ⟨RX12, TX12, 57, "CrossedFavoursModel", tyX12, rfl, by decide, uw_12, gws_at 1335 (by decide +kernel) rfl, Or.inl rfl, tyX12_ok, nmX12, tyX12_ok 38 (by decide), rfl, fun _ => rfl⟩
theorem fp_12_83 : ∀ ci ∈ [12], xa_FP RX12 83 ci 39 (.array .int) true := fun ci hc => by
  cases List.mem_singleton.mp hc
  exact ⟨RX12, TX12, 57, "CrossedFavoursModel", tyX12, rfl, by decide, uw_12, gws_at 1336 (by decide +kernel) rfl, Or.inl rfl, tyX12_ok, nmX12, tyX12_ok 39 (by decide), rfl, fun _ => rfl⟩
theorem fp_12_86 : ∀ ci ∈ [12], xa_FP RX12 86 ci 42 (.array .int) true := fun ci hc => by
  cases List.mem_singleton.mp hc
  exact ⟨RX12, TX12, 57, "CrossedFavoursModel", tyX12, rfl, by decide, uw_12, gws_at 1339 (by decide +kernel) rfl, Or.inl rfl, tyX12_ok, nmX12, tyX12_ok 42 (by decide), rfl, fun _ => rfl⟩
theorem co_12_89 : Cond.constant RX12 89 (57600) ∈ gws := gws_at 1296 (by decide +kernel) rfl
theorem fp_12_90 : ∀ ci ∈ [12], xa_FP RX12 90 ci 43 (.array .int) true := fun ci hc => by
  cases List.mem_singleton.mp hc
  exact ⟨RX12, TX12, 57, "CrossedFavoursModel", tyX12, rfl, by decide, uw_12, gws_at 1340 (by decide +kernel) rfl, Or.inl rfl, tyX12_ok, nmX12, tyX12_ok 43 (by decide), rfl, fun _ => rfl⟩
theorem fp_12_93 : ∀ ci ∈ [12], xa_FP RX12 93 ci 44 (.array .int) true := fun ci hc => by
  cases List.mem_singleton.mp hc
  exact ⟨RX12, TX12, 57, "CrossedFavoursModel", tyX12, rfl, by decide, uw_12, gws_at 1341 (by decide +kernel) rfl, Or.inl rfl, tyX12_ok, nmX12, tyX12_ok 44 (by decide), rfl, fun _ => rfl⟩
theorem fp_12_96 : ∀ ci ∈ [12], xa_FP RX12 96 ci 50 (.array .int) true := fun ci hc => by
  cases List.mem_singleton.mp hc
  exact ⟨RX12, TX12, 57, "CrossedFavoursModel", tyX12, rfl, by decide, uw_12, gws_at 1347 (by decide +kernel) rfl, Or.inl rfl, tyX12_ok, nmX12, tyX12_ok 50 (by decide), rfl, fun _ => rfl⟩
theorem fp_12_99 : ∀ ci ∈ [12], xa_FP RX12 99 ci 52 (.array .int) true := fun ci hc => by
  cases List.mem_singleton.mp hc
  exact ⟨RX12, TX12, 57, "CrossedFavoursModel", tyX12, rfl, by decide, uw_12, gws_at 1349 (by decide +kernel) rfl, Or.inl rfl, tyX12_ok, nmX12, tyX12_ok 52 (by decide), rfl, fun _ => rfl⟩
theorem fp_12_102 : ∀ ci ∈ [12], xa_FP RX12 102 ci 53 (.array .int) true := fun ci hc => by
  cases List.mem_singleton.mp hc
  exact ⟨RX12, TX12, 57, "CrossedFavoursModel", tyX12, rfl, by decide, uw_12, gws_at 1350 (by decide +kernel) rfl, Or.inl rfl, tyX12_ok, nmX12, tyX12_ok 53 (by decide), rfl, fun _ => rfl⟩
theorem fp_12_105 : ∀ ci ∈ [12], xa_FP RX12 105 ci 54 (.array .int) true := fun ci hc => by
  cases List.mem_singleton.mp hc
  exact ⟨RX12, TX12, 57, "CrossedFavoursModel", tyX12, rfl, by decide, uw_12, gws_at 1351 (by decide +kernel) rfl, Or.inl rfl, tyX12_ok, nmX12, tyX12_ok 54 (by decide), rfl, fun _ => rfl⟩
theorem fp_12_108 : ∀ ci ∈ [12], xa_FP RX12 108 ci 55 (.array .int) true := fun ci hc => by
  cases List.mem_singleton.mp hc
  exact ⟨RX12, TX12, 57, "CrossedFavoursModel", tyX12, rfl, by decide, uw_12, gws_at 1352 (by decide +kernel) rfl, Or.inl rfl, tyX12_ok, nmX12, tyX12_ok 55 (by decide), rfl, fun _ => rfl⟩
theorem fl_12_86 : ∀ ci ∈ [12], xa_FL RX12 86 ci 42 := fun ci hc => by
  cases List.mem_singleton.mp hc
  exact ⟨RX12, TX12, 57, "CrossedFavoursModel", rfl, by decide, uw_12, gws_at 1339 (by decide +kernel) rfl, Or.inl rfl⟩
theorem ml_12_444 : Cond.methodLink RX12 444 yX12_isLike ∈ gws := gws_at 1820 (by decide +kernel) rfl
theorem im_X12_isLike : Cond.instanceMethod yX12_isLike ∈ gws := gws_at 1822 (by decide +kernel) rfl
theorem se_12_X12_isLike : ∀ ci ∈ [12], ∃ (C : String) (T : u_T) (N : Nat), xclasses[ci]? = some (C, T, N) ∧ Cond.selects C yX12_isLike yX12_isLike ∈ gws := fun ci hc => by
  cases List.mem_singleton.mp hc
  exact ⟨RX12, TX12, 57, rfl, gws_at 90 (by decide +kernel) rfl⟩
theorem col_12_502 : Cond.constantLong RX12 502 (100) ∈ gws := gws_at 1908 (by decide +kernel) rfl
theorem fl_12_102 : ∀ ci ∈ [12], xa_FL RX12 102 ci 53 := fun ci hc => by
  cases List.mem_singleton.mp hc
  exact ⟨RX12, TX12, 57, "CrossedFavoursModel", rfl, by decide, uw_12, gws_at 1350 (by decide +kernel) rfl, Or.inl rfl⟩
theorem ml_12_504 : Cond.methodLink RX12 504 yX12_oddsFrom ∈ gws := gws_at 1910 (by decide +kernel) rfl
theorem im_X12_oddsFrom : Cond.instanceMethod yX12_oddsFrom ∈ gws := gws_at 1912 (by decide +kernel) rfl
theorem se_12_X12_oddsFrom : ∀ ci ∈ [12], ∃ (C : String) (T : u_T) (N : Nat), xclasses[ci]? = some (C, T, N) ∧ Cond.selects C yX12_oddsFrom yX12_oddsFrom ∈ gws := fun ci hc => by
  cases List.mem_singleton.mp hc
  exact ⟨RX12, TX12, 57, rfl, gws_at 100 (by decide +kernel) rfl⟩
theorem co_12_507 : Cond.constant RX12 507 (1000000000) ∈ gws := gws_at 1909 (by decide +kernel) rfl
theorem col_12_478 : Cond.constantLong RX12 478 (-99) ∈ gws := gws_at 1865 (by decide +kernel) rfl
theorem col_12_480 : Cond.constantLong RX12 480 (99) ∈ gws := gws_at 1866 (by decide +kernel) rfl
theorem fp_12_317 : ∀ ci ∈ [12], xa_FP RX12 317 ci 51 (.int) false := fun ci hc => by
  cases List.mem_singleton.mp hc
  exact ⟨RX12, TX12, 57, "CrossedFavoursModel", tyX12, rfl, by decide, uw_12, gws_at 1348 (by decide +kernel) rfl, Or.inl rfl, tyX12_ok, nmX12, tyX12_ok 51 (by decide), rfl, fun z => by cases z⟩
theorem col_12_508 : Cond.constantLong RX12 508 (999) ∈ gws := gws_at 1918 (by decide +kernel) rfl
theorem col_12_426 : Cond.constantLong RX12 426 (5) ∈ gws := gws_at 1780 (by decide +kernel) rfl
theorem col_12_384 : Cond.constantLong RX12 384 (-1) ∈ gws := gws_at 1671 (by decide +kernel) rfl
theorem ml_12_305 : Cond.methodLink RX12 305 yX12_fault ∈ gws := gws_at 1626 (by decide +kernel) rfl
theorem im_X12_fault : Cond.instanceMethod yX12_fault ∈ gws := gws_at 1489 (by decide +kernel) rfl
theorem se_12_X12_fault : ∀ ci ∈ [12], ∃ (C : String) (T : u_T) (N : Nat), xclasses[ci]? = some (C, T, N) ∧ Cond.selects C yX12_fault yX12_fault ∈ gws := fun ci hc => by
  cases List.mem_singleton.mp hc
  exact ⟨RX12, TX12, 57, rfl, gws_at 1490 (by decide +kernel) rfl⟩
theorem fp_12_307 : ∀ ci ∈ [12], xa_FP RX12 307 ci 26 (.int) false := fun ci hc => by
  cases List.mem_singleton.mp hc
  exact ⟨RX12, TX12, 57, "CrossedFavoursModel", tyX12, rfl, by decide, uw_12, gws_at 1323 (by decide +kernel) rfl, Or.inl rfl, tyX12_ok, nmX12, tyX12_ok 26 (by decide), rfl, fun z => by cases z⟩
theorem fp_12_310 : ∀ ci ∈ [12], xa_FP RX12 310 ci 27 (.int) false := fun ci hc => by
  cases List.mem_singleton.mp hc
  exact ⟨RX12, TX12, 57, "CrossedFavoursModel", tyX12, rfl, by decide, uw_12, gws_at 1324 (by decide +kernel) rfl, Or.inl rfl, tyX12_ok, nmX12, tyX12_ok 27 (by decide), rfl, fun z => by cases z⟩
theorem fp_12_302 : ∀ ci ∈ [12], xa_FP RX12 302 ci 30 (.int) false := fun ci hc => by
  cases List.mem_singleton.mp hc
  exact ⟨RX12, TX12, 57, "CrossedFavoursModel", tyX12, rfl, by decide, uw_12, gws_at 1327 (by decide +kernel) rfl, Or.inl rfl, tyX12_ok, nmX12, tyX12_ok 30 (by decide), rfl, fun z => by cases z⟩
theorem fp_12_299 : ∀ ci ∈ [12], xa_FP RX12 299 ci 7 (.int) false := fun ci hc => by
  cases List.mem_singleton.mp hc
  exact ⟨RX12, TX12, 57, "CrossedFavoursModel", tyX12, rfl, by decide, uw_12, gws_at 1304 (by decide +kernel) rfl, Or.inl rfl, tyX12_ok, nmX12, tyX12_ok 7 (by decide), rfl, fun z => by cases z⟩
theorem col_12_421 : Cond.constantLong RX12 421 (30) ∈ gws := gws_at 1769 (by decide +kernel) rfl
theorem ml_12_423 : Cond.methodLink RX12 423 yX12_draw ∈ gws := gws_at 1770 (by decide +kernel) rfl
theorem im_X12_draw : Cond.instanceMethod yX12_draw ∈ gws := gws_at 1772 (by decide +kernel) rfl
theorem se_12_X12_draw : ∀ ci ∈ [12], ∃ (C : String) (T : u_T) (N : Nat), xclasses[ci]? = some (C, T, N) ∧ Cond.selects C yX12_draw yX12_draw ∈ gws := fun ci hc => by
  cases List.mem_singleton.mp hc
  exact ⟨RX12, TX12, 57, rfl, gws_at 87 (by decide +kernel) rfl⟩
