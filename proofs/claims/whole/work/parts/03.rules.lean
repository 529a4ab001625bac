section XB
variable {G : xa_G} {M : xa_M} {d pc : Nat} {loc loc' : List (Option Value)} {st : List Value} {h h' : xa_H} {o : Option Value}
theorem v_iadd {x y : Int32} (hd : decode M.2.1 pc = .ok (.iadd, 1)) (k : xa_V G M d (pc + 1) loc (.int (x + y) :: st) h o h') : xa_V G M d pc loc (.int y :: .int x :: st) h o h' :=
  xa_go1 k (fun _ _ _ _ _ _ _ _ _ _ _ _ _ _ _ A _ _ kk => lv_iadd A.1 A.2.1 hd kk)
theorem v_isub {x y : Int32} (hd : decode M.2.1 pc = .ok (.isub, 1)) (k : xa_V G M d (pc + 1) loc (.int (x - y) :: st) h o h') : xa_V G M d pc loc (.int y :: .int x :: st) h o h' :=
  xa_go1 k (fun _ _ _ _ _ _ _ _ _ _ _ _ _ _ _ A _ _ kk => lv_isub A.1 A.2.1 hd kk)
theorem v_imul {x y : Int32} (hd : decode M.2.1 pc = .ok (.imul, 1)) (k : xa_V G M d (pc + 1) loc (.int (x * y) :: st) h o h') : xa_V G M d pc loc (.int y :: .int x :: st) h o h' :=
  xa_go1 k (fun _ _ _ _ _ _ _ _ _ _ _ _ _ _ _ A _ _ kk => lv_imul A.1 A.2.1 hd kk)
theorem v_iand {x y : Int32} (hd : decode M.2.1 pc = .ok (.iand, 1)) (k : xa_V G M d (pc + 1) loc (.int (x &&& y) :: st) h o h') : xa_V G M d pc loc (.int y :: .int x :: st) h o h' :=
  xa_go1 k (fun _ _ _ _ _ _ _ _ _ _ _ _ _ _ _ A _ _ kk => lv_iand A.1 A.2.1 hd kk)
theorem v_ior {x y : Int32} (hd : decode M.2.1 pc = .ok (.ior, 1)) (k : xa_V G M d (pc + 1) loc (.int (x ||| y) :: st) h o h') : xa_V G M d pc loc (.int y :: .int x :: st) h o h' :=
  xa_go1 k (fun _ _ _ _ _ _ _ _ _ _ _ _ _ _ _ A _ _ kk => lv_ior A.1 A.2.1 hd kk)
theorem v_ixor {x y : Int32} (hd : decode M.2.1 pc = .ok (.ixor, 1)) (k : xa_V G M d (pc + 1) loc (.int (x ^^^ y) :: st) h o h') : xa_V G M d pc loc (.int y :: .int x :: st) h o h' :=
  xa_go1 k (fun _ _ _ _ _ _ _ _ _ _ _ _ _ _ _ A _ _ kk => lv_ixor A.1 A.2.1 hd kk)
theorem v_ishl {x y : Int32} (hd : decode M.2.1 pc = .ok (.ishl, 1)) (k : xa_V G M d (pc + 1) loc (.int (x <<< (y &&& 31)) :: st) h o h') : xa_V G M d pc loc (.int y :: .int x :: st) h o h' :=
  xa_go1 k (fun _ _ _ _ _ _ _ _ _ _ _ _ _ _ _ A _ _ kk => lv_ishl A.1 A.2.1 hd kk)
theorem v_ishr {x y : Int32} (hd : decode M.2.1 pc = .ok (.ishr, 1)) (k : xa_V G M d (pc + 1) loc (.int (x >>> (y &&& 31)) :: st) h o h') : xa_V G M d pc loc (.int y :: .int x :: st) h o h' :=
  xa_go1 k (fun _ _ _ _ _ _ _ _ _ _ _ _ _ _ _ A _ _ kk => lv_ishr A.1 A.2.1 hd kk)
theorem v_idiv {x y : Int32} (hd : decode M.2.1 pc = .ok (.idiv, 1)) (hne : ¬ y = 0) (k : xa_V G M d (pc + 1) loc (.int (x / y) :: st) h o h') : xa_V G M d pc loc (.int y :: .int x :: st) h o h' :=
  xa_go1 k (fun _ _ _ _ _ _ _ _ _ _ _ _ _ _ _ A _ _ kk => lv_idiv A.1 A.2.1 hd hne kk)
theorem v_irem {x y : Int32} (hd : decode M.2.1 pc = .ok (.irem, 1)) (hne : ¬ y = 0) (k : xa_V G M d (pc + 1) loc (.int (x - x / y * y) :: st) h o h') : xa_V G M d pc loc (.int y :: .int x :: st) h o h' :=
  xa_go1 k (fun _ _ _ _ _ _ _ _ _ _ _ _ _ _ _ A _ _ kk => lv_irem A.1 A.2.1 hd hne kk)
theorem v_ladd {x y : Int64} (hd : decode M.2.1 pc = .ok (.ladd, 1)) (k : xa_V G M d (pc + 1) loc (.long (x + y) :: st) h o h') : xa_V G M d pc loc (.long y :: .long x :: st) h o h' :=
  xa_go1 k (fun _ _ _ _ _ _ _ _ _ _ _ _ _ _ _ A _ _ kk => lv_ladd A.1 A.2.1 hd kk)
theorem v_lsub {x y : Int64} (hd : decode M.2.1 pc = .ok (.lsub, 1)) (k : xa_V G M d (pc + 1) loc (.long (x - y) :: st) h o h') : xa_V G M d pc loc (.long y :: .long x :: st) h o h' :=
  xa_go1 k (fun _ _ _ _ _ _ _ _ _ _ _ _ _ _ _ A _ _ kk => lv_lsub A.1 A.2.1 hd kk)
theorem v_lmul {x y : Int64} (hd : decode M.2.1 pc = .ok (.lmul, 1)) (k : xa_V G M d (pc + 1) loc (.long (x * y) :: st) h o h') : xa_V G M d pc loc (.long y :: .long x :: st) h o h' :=
  xa_go1 k (fun _ _ _ _ _ _ _ _ _ _ _ _ _ _ _ A _ _ kk => lv_lmul A.1 A.2.1 hd kk)
theorem v_land {x y : Int64} (hd : decode M.2.1 pc = .ok (.land, 1)) (k : xa_V G M d (pc + 1) loc (.long (x &&& y) :: st) h o h') : xa_V G M d pc loc (.long y :: .long x :: st) h o h' :=
  xa_go1 k (fun _ _ _ _ _ _ _ _ _ _ _ _ _ _ _ A _ _ kk => lv_land A.1 A.2.1 hd kk)
theorem v_lor {x y : Int64} (hd : decode M.2.1 pc = .ok (.lor, 1)) (k : xa_V G M d (pc + 1) loc (.long (x ||| y) :: st) h o h') : xa_V G M d pc loc (.long y :: .long x :: st) h o h' :=
  xa_go1 k (fun _ _ _ _ _ _ _ _ _ _ _ _ _ _ _ A _ _ kk => lv_lor A.1 A.2.1 hd kk)
theorem v_ldiv {x y : Int64} (hd : decode M.2.1 pc = .ok (.ldiv, 1)) (hne : ¬ y = 0) (k : xa_V G M d (pc + 1) loc (.long (x / y) :: st) h o h') : xa_V G M d pc loc (.long y :: .long x :: st) h o h' :=
  xa_go1 k (fun _ _ _ _ _ _ _ _ _ _ _ _ _ _ _ A _ _ kk => lv_ldiv A.1 A.2.1 hd hne kk)
theorem v_lrem {x y : Int64} (hd : decode M.2.1 pc = .ok (.lrem, 1)) (hne : ¬ y = 0) (k : xa_V G M d (pc + 1) loc (.long (x - x / y * y) :: st) h o h') : xa_V G M d pc loc (.long y :: .long x :: st) h o h' :=
  xa_go1 k (fun _ _ _ _ _ _ _ _ _ _ _ _ _ _ _ A _ _ kk => lv_lrem A.1 A.2.1 hd hne kk)
theorem v_iushr {x y : Int32} (hd : decode M.2.1 pc = .ok (.iushr, 1)) (k : xa_V G M d (pc + 1) loc (.int (x.toUInt32 >>> (y.toUInt32 &&& Int32.toUInt32 31)).toInt32 :: st) h o h') : xa_V G M d pc loc (.int y :: .int x :: st) h o h' :=
  xa_go1 k (fun _ _ _ _ _ _ _ _ _ _ _ _ _ _ _ A _ _ kk => lv_iushr A.1 A.2.1 hd rfl kk)
theorem v_lushr {x : Int64} {y : Int32} (hd : decode M.2.1 pc = .ok (.lushr, 1)) (k : xa_V G M d (pc + 1) loc (.long (x.toUInt64 >>> (y.toInt64.toUInt64 &&& Int64.toUInt64 63)).toInt64 :: st) h o h') : xa_V G M d pc loc (.int y :: .long x :: st) h o h' :=
  xa_go1 k (fun _ _ _ _ _ _ _ _ _ _ _ _ _ _ _ A _ _ kk => lv_lushr A.1 A.2.1 hd rfl kk)
theorem v_lshl {x : Int64} {y : Int32} (hd : decode M.2.1 pc = .ok (.lshl, 1)) (k : xa_V G M d (pc + 1) loc (.long (x <<< (y.toInt64 &&& 63)) :: st) h o h') : xa_V G M d pc loc (.int y :: .long x :: st) h o h' :=
  xa_go1 k (fun _ _ _ _ _ _ _ _ _ _ _ _ _ _ _ A _ _ kk => lv_lshl A.1 A.2.1 hd rfl kk)
theorem v_ineg {x : Int32} (hd : decode M.2.1 pc = .ok (.ineg, 1)) (k : xa_V G M d (pc + 1) loc (.int (-x) :: st) h o h') : xa_V G M d pc loc (.int x :: st) h o h' :=
  xa_go1 k (fun _ _ _ _ _ _ _ _ _ _ _ _ _ _ _ A _ _ kk => lv_ineg A.1 A.2.1 hd kk)
theorem v_i2l {x : Int32} (hd : decode M.2.1 pc = .ok (.i2l, 1)) (k : xa_V G M d (pc + 1) loc (.long (x.toInt64) :: st) h o h') : xa_V G M d pc loc (.int x :: st) h o h' :=
  xa_go1 k (fun _ _ _ _ _ _ _ _ _ _ _ _ _ _ _ A _ _ kk => lv_i2l A.1 A.2.1 hd rfl kk)
theorem v_l2i {x : Int64} (hd : decode M.2.1 pc = .ok (.l2i, 1)) (k : xa_V G M d (pc + 1) loc (.int (x.toInt32) :: st) h o h') : xa_V G M d pc loc (.long x :: st) h o h' :=
  xa_go1 k (fun _ _ _ _ _ _ _ _ _ _ _ _ _ _ _ A _ _ kk => lv_l2i A.1 A.2.1 hd rfl kk)
theorem v_i2b {x : Int32} (hd : decode M.2.1 pc = .ok (.i2b, 1)) (k : xa_V G M d (pc + 1) loc (.int (x.toInt8.toInt32) :: st) h o h') : xa_V G M d pc loc (.int x :: st) h o h' :=
  xa_go1 k (fun _ _ _ _ _ _ _ _ _ _ _ _ _ _ _ A _ _ kk => lv_i2b A.1 A.2.1 hd rfl kk)
theorem v_lcmp {x y : Int64} (hd : decode M.2.1 pc = .ok (.lcmp, 1)) (k : xa_V G M d (pc + 1) loc (.int (lg_cmp x y) :: st) h o h') : xa_V G M d pc loc (.long y :: .long x :: st) h o h' :=
  xa_go1 k (fun _ _ _ _ _ _ _ _ _ _ _ _ _ _ _ A _ _ kk => W.lcmp A.1 A.2.1 hd kk)
theorem v_dup {v : Value} (hd : decode M.2.1 pc = .ok (.dup, 1)) (hc : v.category = 1) (k : xa_V G M d (pc + 1) loc (v :: v :: st) h o h') : xa_V G M d pc loc (v :: st) h o h' :=
  xa_go1 k (fun _ _ _ _ _ _ _ _ _ _ _ _ _ _ _ A _ _ kk => lv_dup A.1 A.2.1 hd ((xa_cat _ _).trans hc) kk)
theorem v_pop {v : Value} (hd : decode M.2.1 pc = .ok (.pop, 1)) (hc : v.category = 1) (k : xa_V G M d (pc + 1) loc st h o h') : xa_V G M d pc loc (v :: st) h o h' :=
  xa_go1 k (fun _ _ _ _ _ _ _ _ _ _ _ _ _ _ _ A _ _ kk => lv_pop A.1 A.2.1 hd ((xa_cat _ _).trans hc) kk)
theorem v_dup2 {v u : Value} (hd : decode M.2.1 pc = .ok (.dup2, 1)) (hc : v.category = 1) (hc2 : u.category = 1) (k : xa_V G M d (pc + 1) loc (v :: u :: v :: u :: st) h o h') : xa_V G M d pc loc (v :: u :: st) h o h' :=
  xa_go1 k (fun _ _ _ _ _ _ _ _ _ _ _ _ _ _ _ A _ _ kk => lv_dup2_11 A.1 A.2.1 hd ((xa_cat _ _).trans hc) ((xa_cat _ _).trans hc2) kk)
theorem v_dup2L {x : Int64} (hd : decode M.2.1 pc = .ok (.dup2, 1)) (k : xa_V G M d (pc + 1) loc (.long x :: .long x :: st) h o h') : xa_V G M d pc loc (.long x :: st) h o h' :=
  xa_go1 k (fun _ _ _ _ _ _ _ _ _ _ _ _ _ _ _ A _ _ kk => lv_dup2_2 A.1 A.2.1 hd rfl kk)
theorem v_goto {off : Int} {tgt : Nat} (hd : decode M.2.1 pc = .ok (.goto off, 3)) (ht : (pc : Int) + off = (tgt : Int)) (k : xa_V G M d tgt loc st h o h') : xa_V G M d pc loc st h o h' :=
  xa_go1 k (fun _ _ _ _ _ _ _ _ _ _ _ _ _ _ _ A _ _ kk => lv_goto A.1 A.2.1 hd ht kk)
theorem v_icmp_eq {x y : Int32} {off : Int} {tgt : Nat} (hd : decode M.2.1 pc = .ok (.if_icmp .eq off, 3)) (ht : (pc : Int) + off = (tgt : Int)) (kt : x = y → xa_V G M d tgt loc st h o h') (kf : ¬ x = y → xa_V G M d (pc + 3) loc st h o h') : xa_V G M d pc loc (.int y :: .int x :: st) h o h' := by
  by_cases q : x = y
  · exact xa_go1 (kt q) (fun _ _ _ _ _ _ _ _ _ _ _ _ _ _ _ A _ _ kk => lv_icmp_eq A.1 A.2.1 hd ht (fun _ => kk) (fun z => absurd q z))
  · exact xa_go1 (kf q) (fun _ _ _ _ _ _ _ _ _ _ _ _ _ _ _ A _ _ kk => lv_icmp_eq A.1 A.2.1 hd ht (fun z => absurd z q) (fun _ => kk))
theorem v_if_eq {x : Int32} {off : Int} {tgt : Nat} (hd : decode M.2.1 pc = .ok (.ifCond .eq off, 3)) (ht : (pc : Int) + off = (tgt : Int)) (kt : x = 0 → xa_V G M d tgt loc st h o h') (kf : ¬ x = 0 → xa_V G M d (pc + 3) loc st h o h') : xa_V G M d pc loc (.int x :: st) h o h' := by
  by_cases q : x = 0
  · exact xa_go1 (kt q) (fun _ _ _ _ _ _ _ _ _ _ _ _ _ _ _ A _ _ kk => lv_if_eq A.1 A.2.1 hd ht (fun _ => kk) (fun z => absurd q z))
  · exact xa_go1 (kf q) (fun _ _ _ _ _ _ _ _ _ _ _ _ _ _ _ A _ _ kk => lv_if_eq A.1 A.2.1 hd ht (fun z => absurd z q) (fun _ => kk))
theorem v_icmp_ne {x y : Int32} {off : Int} {tgt : Nat} (hd : decode M.2.1 pc = .ok (.if_icmp .ne off, 3)) (ht : (pc : Int) + off = (tgt : Int)) (kt : ¬ x = y → xa_V G M d tgt loc st h o h') (kf : x = y → xa_V G M d (pc + 3) loc st h o h') : xa_V G M d pc loc (.int y :: .int x :: st) h o h' := by
  by_cases q : x = y
  · exact xa_go1 (kf q) (fun _ _ _ _ _ _ _ _ _ _ _ _ _ _ _ A _ _ kk => lv_icmp_ne A.1 A.2.1 hd ht (fun z => absurd q z) (fun _ => kk))
  · exact xa_go1 (kt q) (fun _ _ _ _ _ _ _ _ _ _ _ _ _ _ _ A _ _ kk => lv_icmp_ne A.1 A.2.1 hd ht (fun _ => kk) (fun z => absurd z q))
theorem v_if_ne {x : Int32} {off : Int} {tgt : Nat} (hd : decode M.2.1 pc = .ok (.ifCond .ne off, 3)) (ht : (pc : Int) + off = (tgt : Int)) (kt : ¬ x = 0 → xa_V G M d tgt loc st h o h') (kf : x = 0 → xa_V G M d (pc + 3) loc st h o h') : xa_V G M d pc loc (.int x :: st) h o h' := by
  by_cases q : x = 0
  · exact xa_go1 (kf q) (fun _ _ _ _ _ _ _ _ _ _ _ _ _ _ _ A _ _ kk => lv_if_ne A.1 A.2.1 hd ht (fun z => absurd q z) (fun _ => kk))
  · exact xa_go1 (kt q) (fun _ _ _ _ _ _ _ _ _ _ _ _ _ _ _ A _ _ kk => lv_if_ne A.1 A.2.1 hd ht (fun _ => kk) (fun z => absurd z q))
theorem v_icmp_lt {x y : Int32} {off : Int} {tgt : Nat} (hd : decode M.2.1 pc = .ok (.if_icmp .lt off, 3)) (ht : (pc : Int) + off = (tgt : Int)) (kt : x < y → xa_V G M d tgt loc st h o h') (kf : ¬ x < y → xa_V G M d (pc + 3) loc st h o h') : xa_V G M d pc loc (.int y :: .int x :: st) h o h' := by
  by_cases q : x < y
  · exact xa_go1 (kt q) (fun _ _ _ _ _ _ _ _ _ _ _ _ _ _ _ A _ _ kk => lv_icmp_lt A.1 A.2.1 hd ht (fun _ => kk) (fun z => absurd q z))
  · exact xa_go1 (kf q) (fun _ _ _ _ _ _ _ _ _ _ _ _ _ _ _ A _ _ kk => lv_icmp_lt A.1 A.2.1 hd ht (fun z => absurd z q) (fun _ => kk))
theorem v_if_lt {x : Int32} {off : Int} {tgt : Nat} (hd : decode M.2.1 pc = .ok (.ifCond .lt off, 3)) (ht : (pc : Int) + off = (tgt : Int)) (kt : x < 0 → xa_V G M d tgt loc st h o h') (kf : ¬ x < 0 → xa_V G M d (pc + 3) loc st h o h') : xa_V G M d pc loc (.int x :: st) h o h' := by
  by_cases q : x < 0
  · exact xa_go1 (kt q) (fun _ _ _ _ _ _ _ _ _ _ _ _ _ _ _ A _ _ kk => lv_if_lt A.1 A.2.1 hd ht (fun _ => kk) (fun z => absurd q z))
  · exact xa_go1 (kf q) (fun _ _ _ _ _ _ _ _ _ _ _ _ _ _ _ A _ _ kk => lv_if_lt A.1 A.2.1 hd ht (fun z => absurd z q) (fun _ => kk))
theorem v_icmp_ge {x y : Int32} {off : Int} {tgt : Nat} (hd : decode M.2.1 pc = .ok (.if_icmp .ge off, 3)) (ht : (pc : Int) + off = (tgt : Int)) (kt : y ≤ x → xa_V G M d tgt loc st h o h') (kf : ¬ y ≤ x → xa_V G M d (pc + 3) loc st h o h') : xa_V G M d pc loc (.int y :: .int x :: st) h o h' := by
  by_cases q : y ≤ x
  · exact xa_go1 (kt q) (fun _ _ _ _ _ _ _ _ _ _ _ _ _ _ _ A _ _ kk => lv_icmp_ge A.1 A.2.1 hd ht (fun _ => kk) (fun z => absurd q z))
  · exact xa_go1 (kf q) (fun _ _ _ _ _ _ _ _ _ _ _ _ _ _ _ A _ _ kk => lv_icmp_ge A.1 A.2.1 hd ht (fun z => absurd z q) (fun _ => kk))
theorem v_if_ge {x : Int32} {off : Int} {tgt : Nat} (hd : decode M.2.1 pc = .ok (.ifCond .ge off, 3)) (ht : (pc : Int) + off = (tgt : Int)) (kt : 0 ≤ x → xa_V G M d tgt loc st h o h') (kf : ¬ 0 ≤ x → xa_V G M d (pc + 3) loc st h o h') : xa_V G M d pc loc (.int x :: st) h o h' := by
  by_cases q : 0 ≤ x
  · exact xa_go1 (kt q) (fun _ _ _ _ _ _ _ _ _ _ _ _ _ _ _ A _ _ kk => lv_if_ge A.1 A.2.1 hd ht (fun _ => kk) (fun z => absurd q z))
  · exact xa_go1 (kf q) (fun _ _ _ _ _ _ _ _ _ _ _ _ _ _ _ A _ _ kk => lv_if_ge A.1 A.2.1 hd ht (fun z => absurd z q) (fun _ => kk))
theorem v_icmp_gt {x y : Int32} {off : Int} {tgt : Nat} (hd : decode M.2.1 pc = .ok (.if_icmp .gt off, 3)) (ht : (pc : Int) + off = (tgt : Int)) (kt : y < x → xa_V G M d tgt loc st h o h') (kf : ¬ y < x → xa_V G M d (pc + 3) loc st h o h') : xa_V G M d pc loc (.int y :: .int x :: st) h o h' := by
  by_cases q : y < x
  · exact xa_go1 (kt q) (fun _ _ _ _ _ _ _ _ _ _ _ _ _ _ _ A _ _ kk => lv_icmp_gt A.1 A.2.1 hd ht (fun _ => kk) (fun z => absurd q z))
  · exact xa_go1 (kf q) (fun _ _ _ _ _ _ _ _ _ _ _ _ _ _ _ A _ _ kk => lv_icmp_gt A.1 A.2.1 hd ht (fun z => absurd z q) (fun _ => kk))
theorem v_if_gt {x : Int32} {off : Int} {tgt : Nat} (hd : decode M.2.1 pc = .ok (.ifCond .gt off, 3)) (ht : (pc : Int) + off = (tgt : Int)) (kt : 0 < x → xa_V G M d tgt loc st h o h') (kf : ¬ 0 < x → xa_V G M d (pc + 3) loc st h o h') : xa_V G M d pc loc (.int x :: st) h o h' := by
  by_cases q : 0 < x
  · exact xa_go1 (kt q) (fun _ _ _ _ _ _ _ _ _ _ _ _ _ _ _ A _ _ kk => lv_if_gt A.1 A.2.1 hd ht (fun _ => kk) (fun z => absurd q z))
  · exact xa_go1 (kf q) (fun _ _ _ _ _ _ _ _ _ _ _ _ _ _ _ A _ _ kk => lv_if_gt A.1 A.2.1 hd ht (fun z => absurd z q) (fun _ => kk))
theorem v_icmp_le {x y : Int32} {off : Int} {tgt : Nat} (hd : decode M.2.1 pc = .ok (.if_icmp .le off, 3)) (ht : (pc : Int) + off = (tgt : Int)) (kt : x ≤ y → xa_V G M d tgt loc st h o h') (kf : ¬ x ≤ y → xa_V G M d (pc + 3) loc st h o h') : xa_V G M d pc loc (.int y :: .int x :: st) h o h' := by
  by_cases q : x ≤ y
  · exact xa_go1 (kt q) (fun _ _ _ _ _ _ _ _ _ _ _ _ _ _ _ A _ _ kk => lv_icmp_le A.1 A.2.1 hd ht (fun _ => kk) (fun z => absurd q z))
  · exact xa_go1 (kf q) (fun _ _ _ _ _ _ _ _ _ _ _ _ _ _ _ A _ _ kk => lv_icmp_le A.1 A.2.1 hd ht (fun z => absurd z q) (fun _ => kk))
theorem v_if_le {x : Int32} {off : Int} {tgt : Nat} (hd : decode M.2.1 pc = .ok (.ifCond .le off, 3)) (ht : (pc : Int) + off = (tgt : Int)) (kt : x ≤ 0 → xa_V G M d tgt loc st h o h') (kf : ¬ x ≤ 0 → xa_V G M d (pc + 3) loc st h o h') : xa_V G M d pc loc (.int x :: st) h o h' := by
  by_cases q : x ≤ 0
  · exact xa_go1 (kt q) (fun _ _ _ _ _ _ _ _ _ _ _ _ _ _ _ A _ _ kk => lv_if_le A.1 A.2.1 hd ht (fun _ => kk) (fun z => absurd q z))
  · exact xa_go1 (kf q) (fun _ _ _ _ _ _ _ _ _ _ _ _ _ _ _ A _ _ kk => lv_if_le A.1 A.2.1 hd ht (fun z => absurd z q) (fun _ => kk))
theorem v_tabIn {dflt lo hi : Int} {offs : Array Int} {len : Nat} {x : Int32} {off : Int} {tgt : Nat} (hd : decode M.2.1 pc = .ok (.tableswitch dflt lo hi offs, len)) (kk0 : Int32) (hx : x = kk0) (h1 : ¬ kk0.toInt < lo) (h2 : ¬ hi < kk0.toInt) (ho : offs[(kk0.toInt - lo).toNat]? = some off) (ht : (pc : Int) + off = (tgt : Int)) (k : xa_V G M d tgt loc st h o h') : xa_V G M d pc loc (.int x :: st) h o h' := by
  subst hx
  exact xa_go1 k (fun _ _ _ _ _ _ _ _ _ _ _ _ _ _ _ A _ _ kk => lv_tableIn A.1 A.2.1 hd h1 h2 ho ht kk)
theorem v_tabOut {dflt lo hi : Int} {offs : Array Int} {len : Nat} {x : Int32} {tgt : Nat} (hd : decode M.2.1 pc = .ok (.tableswitch dflt lo hi offs, len)) (hx : x.toInt < lo ∨ hi < x.toInt) (ht : (pc : Int) + dflt = (tgt : Int)) (k : xa_V G M d tgt loc st h o h') : xa_V G M d pc loc (.int x :: st) h o h' :=
  xa_go1 k (fun _ _ _ _ _ _ _ _ _ _ _ _ _ _ _ A _ _ kk => lv_tableOut A.1 A.2.1 hd hx ht kk)
theorem v_lookup {dflt : Int} {ps : Array (Int × Int)} {len : Nat} {x : Int32} {off : Int} {tgt : Nat} (hd : decode M.2.1 pc = .ok (.lookupswitch dflt ps, len)) (hp : (ps.toList.zip (ps.toList.drop 1)).all (fun (a, next) => a.1 < next.1) = true) (ho : Op.lookupswitch.offset ps.toList dflt x.toInt = off) (ht : (pc : Int) + off = (tgt : Int)) (k : xa_V G M d tgt loc st h o h') : xa_V G M d pc loc (.int x :: st) h o h' :=
  xa_go1 k (fun _ _ _ _ _ _ _ _ _ _ _ _ _ _ _ A _ _ kk => lv_lookup A.1 A.2.1 hd hp ho ht kk)
end XB
/-- the told locals as the kit has them -/
def xa_asl (G : xa_G) (loc : List (Option Value)) : List (Nat × Value) := (List.range loc.length).filterMap (fun i => match loc[i]? with | some (some v) => some (i, xa_sh G v) | _ => none)
theorem xa_asl_mem {G : xa_G} {loc : List (Option Value)} {i : Nat} {w : Value} : (i, w) ∈ xa_asl G loc ↔ ∃ v, loc[i]? = some (some v) ∧ w = xa_sh G v := by
  unfold xa_asl
  rw [List.mem_filterMap]
  constructor
  · rintro ⟨j, -, hj⟩
    split at hj
    · rename_i v hv
      cases hj
      exact ⟨v, hv, rfl⟩
    · cases hj
  · rintro ⟨v, hv, rfl⟩
    refine ⟨i, List.mem_range.mpr (List.getElem?_eq_some_iff.mp hv).1, ?_⟩
    rw [hv]
theorem xa_lh.has {G : xa_G} {ls : Array Slot} {nL : Nat} {loc : List (Option Value)} (h : xa_lh G ls nL loc) : lv_has ls nL (xa_asl G loc) := by
  refine ⟨h.1, h.2.1, fun q hq => ?_⟩
  obtain ⟨i, w⟩ := q
  obtain ⟨v, h1, rfl⟩ := xa_asl_mem.mp hq
  exact h.2.2 i v h1
def xa_c2 : Option (Option Value) → Bool
  | some (some v) => v.category == 2
  | _ => false
/-- what stands ahead of i, if it is a long, is gone -/
def xa_pre (loc : List (Option Value)) : Nat → List (Option Value)
  | 0 => loc
  | j + 1 => if xa_c2 loc[j]? then loc.set j none else loc
def xa_st1 (loc : List (Option Value)) (i : Nat) (v : Value) : List (Option Value) := (xa_pre loc i).set i (some v)
def xa_st2 (loc : List (Option Value)) (i : Nat) (v : Value) : List (Option Value) := ((xa_pre loc i).set i (some v)).set (i + 1) none
theorem xa_pre_at {loc : List (Option Value)} {i j : Nat} {w : Value} (h : (xa_pre loc i)[j]? = some (some w)) : loc[j]? = some (some w) ∧ ¬ (j + 1 = i ∧ w.category = 2) := by
  cases i with
  | zero => exact ⟨h, fun q => by omega⟩
  | succ i =>
    replace h : (if xa_c2 loc[i]? then loc.set i none else loc)[j]? = some (some w) := h
    by_cases c : xa_c2 loc[i]? = true
    · rw [if_pos c, List.getElem?_set] at h
      by_cases e : i = j
      · subst e
        rw [if_pos rfl] at h
        split at h <;> cases h
      · rw [if_neg e] at h
        exact ⟨h, fun q => e (by omega)⟩
    · rw [if_neg c] at h
      refine ⟨h, fun q => c ?_⟩
      have e : j = i := by omega
      subst e
      rw [h]
      simp [xa_c2, q.2]
theorem xa_lh.st1 {G : xa_G} {ls : Array Slot} {nL i : Nat} {loc : List (Option Value)} {v : Value} (h : lv_has ls nL ((i, xa_sh G v) :: (xa_asl G loc).filter (fun q => !(q.1 == i) && !(q.1 + 1 == i && q.2.category == 2)))) : xa_lh G ls nL (xa_st1 loc i v) := by
  refine ⟨h.1, h.2.1, fun j w hj => ?_⟩
  unfold xa_st1 at hj
  rw [List.getElem?_set] at hj
  by_cases e : i = j
  · subst e
    rw [if_pos rfl] at hj
    split at hj
    · cases hj
      exact h.2.2 _ List.mem_cons_self
    · cases hj
  · rw [if_neg e] at hj
    obtain ⟨h1, h2⟩ := xa_pre_at hj
    refine h.2.2 (j, xa_sh G w) (List.mem_cons_of_mem _ (List.mem_filter.mpr ⟨xa_asl_mem.mpr ⟨w, h1, rfl⟩, ?_⟩))
    simp only [xa_cat, Bool.and_eq_true, Bool.not_eq_true', beq_eq_false_iff_ne, ne_eq, Bool.and_eq_false_iff]
    refine ⟨fun q => e q.symm, ?_⟩
    by_cases z : j + 1 = i
    · exact Or.inr (fun q => h2 ⟨z, q⟩)
    · exact Or.inl z
theorem xa_lh.st2 {G : xa_G} {ls : Array Slot} {nL i : Nat} {loc : List (Option Value)} {v : Value} (h : lv_has ls nL ((i, xa_sh G v) :: (xa_asl G loc).filter (fun q => !(q.1 == i) && (!(q.1 == i + 1) && !(q.1 + 1 == i && q.2.category == 2))))) : xa_lh G ls nL (xa_st2 loc i v) := by
  refine ⟨h.1, h.2.1, fun j w hj => ?_⟩
  unfold xa_st2 at hj
  rw [List.getElem?_set] at hj
  by_cases e1 : i + 1 = j
  · rw [if_pos e1] at hj
    split at hj <;> cases hj
  · rw [if_neg e1, List.getElem?_set] at hj
    by_cases e : i = j
    · subst e
      rw [if_pos rfl] at hj
      split at hj
      · cases hj
        exact h.2.2 _ List.mem_cons_self
      · cases hj
    · rw [if_neg e] at hj
      obtain ⟨h1, h2⟩ := xa_pre_at hj
      refine h.2.2 (j, xa_sh G w) (List.mem_cons_of_mem _ (List.mem_filter.mpr ⟨xa_asl_mem.mpr ⟨w, h1, rfl⟩, ?_⟩))
      simp only [xa_cat, Bool.and_eq_true, Bool.not_eq_true', beq_eq_false_iff_ne, ne_eq, Bool.and_eq_false_iff]
      refine ⟨fun q => e q.symm, fun q => e1 q.symm, ?_⟩
      by_cases z : j + 1 = i
      · exact Or.inr (fun q => h2 ⟨z, q⟩)
      · exact Or.inl z
section XC
variable {G : xa_G} {M : xa_M} {d pc : Nat} {loc loc' : List (Option Value)} {st : List Value} {h h' : xa_H} {o : Option Value}
theorem v_istore_n {i : Nat} {j : Fin 4} (hj : (j : Nat) = i) {x : Int32} (hd : decode M.2.1 pc = .ok (.istore_n j, 1)) (hn : i < M.2.2.1) (hl : xa_st1 loc i (.int x) = loc') (k : xa_V G M d (pc + 1) loc' st h o h') : xa_V G M d pc loc (.int x :: st) h o h' :=
  xa_go k (fun _ _ _ _ _ _ _ _ _ _ _ _ _ _ _ A L _ kk => lv_istore_n A.1 A.2.1 hd hj L.has hn rfl (fun ls' hl' => kk ls' (hl ▸ xa_lh.st1 hl')))
theorem v_istore {i : Nat} {x : Int32} (hd : decode M.2.1 pc = .ok (.istore i, 2)) (hn : i < M.2.2.1) (hl : xa_st1 loc i (.int x) = loc') (k : xa_V G M d (pc + 2) loc' st h o h') : xa_V G M d pc loc (.int x :: st) h o h' :=
  xa_go k (fun _ _ _ _ _ _ _ _ _ _ _ _ _ _ _ A L _ kk => lv_istore A.1 A.2.1 hd L.has hn rfl (fun ls' hl' => kk ls' (hl ▸ xa_lh.st1 hl')))
theorem v_astore_n {i : Nat} {j : Fin 4} (hj : (j : Nat) = i) {x : Nat} (hd : decode M.2.1 pc = .ok (.astore_n j, 1)) (hn : i < M.2.2.1) (hl : xa_st1 loc i (.ref x) = loc') (k : xa_V G M d (pc + 1) loc' st h o h') : xa_V G M d pc loc (.ref x :: st) h o h' :=
  xa_go k (fun _ _ _ _ _ _ _ _ _ _ _ _ _ _ _ A L _ kk => lv_astore_n A.1 A.2.1 hd hj L.has hn rfl (fun ls' hl' => kk ls' (hl ▸ xa_lh.st1 hl')))
theorem v_astore {i : Nat} {x : Nat} (hd : decode M.2.1 pc = .ok (.astore i, 2)) (hn : i < M.2.2.1) (hl : xa_st1 loc i (.ref x) = loc') (k : xa_V G M d (pc + 2) loc' st h o h') : xa_V G M d pc loc (.ref x :: st) h o h' :=
  xa_go k (fun _ _ _ _ _ _ _ _ _ _ _ _ _ _ _ A L _ kk => lv_astore A.1 A.2.1 hd L.has hn rfl (fun ls' hl' => kk ls' (hl ▸ xa_lh.st1 hl')))
theorem v_lstore_n {i : Nat} {j : Fin 4} (hj : (j : Nat) = i) {x : Int64} (hd : decode M.2.1 pc = .ok (.lstore_n j, 1)) (hn : i + 1 < M.2.2.1) (hl : xa_st2 loc i (.long x) = loc') (k : xa_V G M d (pc + 1) loc' st h o h') : xa_V G M d pc loc (.long x :: st) h o h' :=
  xa_go k (fun _ _ _ _ _ _ _ _ _ _ _ _ _ _ _ A L _ kk => lv_lstore_n A.1 A.2.1 hd hj L.has hn rfl (fun ls' hl' => kk ls' (hl ▸ xa_lh.st2 hl')))
theorem v_lstore {i : Nat} {x : Int64} (hd : decode M.2.1 pc = .ok (.lstore i, 2)) (hn : i + 1 < M.2.2.1) (hl : xa_st2 loc i (.long x) = loc') (k : xa_V G M d (pc + 2) loc' st h o h') : xa_V G M d pc loc (.long x :: st) h o h' :=
  xa_go k (fun _ _ _ _ _ _ _ _ _ _ _ _ _ _ _ A L _ kk => lv_lstore A.1 A.2.1 hd L.has hn rfl (fun ls' hl' => kk ls' (hl ▸ xa_lh.st2 hl')))
theorem v_iinc {i : Nat} {n : Int} {x v : Int32} (hd : decode M.2.1 pc = .ok (.iinc i n, 3)) (hx : loc[i]? = some (some (.int x))) (hv : x + Int32.ofInt n = v) (hn : i < M.2.2.1) (hl : xa_st1 loc i (.int v) = loc') (k : xa_V G M d (pc + 3) loc' st h o h') : xa_V G M d pc loc st h o h' := by
  refine xa_go k (fun _ _ _ _ _ _ _ _ _ _ _ _ _ _ _ A L _ kk => ?_)
  obtain ⟨j, hj⟩ := List.getElem?_of_mem (xa_asl_mem (G := G).mpr ⟨_, hx, rfl⟩)
  exact lv_iinc A.1 A.2.1 hd L.has hj hv hn rfl (fun ls' hl' => kk ls' (hl ▸ xa_lh.st1 hl'))
end XC
