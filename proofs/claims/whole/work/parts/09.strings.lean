theorem dJ0_length_8abf5_0 : decode cJ0_length_8abf5 0 = .ok (.aload_n 0, 1) := by decide +kernel
theorem dJ0_length_8abf5_1 : decode cJ0_length_8abf5 1 = .ok (.getfield 9, 3) := by decide +kernel
theorem dJ0_length_8abf5_4 : decode cJ0_length_8abf5 4 = .ok (.arraylength, 1) := by decide +kernel
theorem dJ0_length_8abf5_5 : decode cJ0_length_8abf5 5 = .ok (.aload_n 0, 1) := by decide +kernel
theorem dJ0_length_8abf5_6 : decode cJ0_length_8abf5 6 = .ok (.invokevirtual 335, 3) := by decide +kernel
theorem dJ0_length_8abf5_9 : decode cJ0_length_8abf5 9 = .ok (.ishr, 1) := by decide +kernel
theorem dJ0_length_8abf5_10 : decode cJ0_length_8abf5 10 = .ok (.ireturn, 1) := by decide +kernel
theorem dJ0_charAt_5068e_0 : decode cJ0_charAt_5068e 0 = .ok (.aload_n 0, 1) := by decide +kernel
theorem dJ0_charAt_5068e_1 : decode cJ0_charAt_5068e 1 = .ok (.invokevirtual 492, 3) := by decide +kernel
theorem dJ0_charAt_5068e_4 : decode cJ0_charAt_5068e 4 = .ok (.ifCond .eq 12, 3) := by decide +kernel
theorem dJ0_charAt_5068e_7 : decode cJ0_charAt_5068e 7 = .ok (.aload_n 0, 1) := by decide +kernel
theorem dJ0_charAt_5068e_8 : decode cJ0_charAt_5068e 8 = .ok (.getfield 9, 3) := by decide +kernel
theorem dJ0_charAt_5068e_11 : decode cJ0_charAt_5068e 11 = .ok (.iload_n 1, 1) := by decide +kernel
theorem dJ0_charAt_5068e_12 : decode cJ0_charAt_5068e 12 = .ok (.invokestatic 495, 3) := by decide +kernel
theorem dJ0_charAt_5068e_15 : decode cJ0_charAt_5068e 15 = .ok (.ireturn, 1) := by decide +kernel
theorem dJ0_charAt_5068e_16 : decode cJ0_charAt_5068e 16 = .ok (.aload_n 0, 1) := by decide +kernel
theorem dJ0_charAt_5068e_17 : decode cJ0_charAt_5068e 17 = .ok (.getfield 9, 3) := by decide +kernel
theorem dJ0_charAt_5068e_20 : decode cJ0_charAt_5068e 20 = .ok (.iload_n 1, 1) := by decide +kernel
theorem dJ0_charAt_5068e_21 : decode cJ0_charAt_5068e 21 = .ok (.invokestatic 498, 3) := by decide +kernel
theorem dJ0_charAt_5068e_24 : decode cJ0_charAt_5068e 24 = .ok (.ireturn, 1) := by decide +kernel
theorem dJ0_coder_7d493_0 : decode cJ0_coder_7d493 0 = .ok (.getstatic 38, 3) := by decide +kernel
theorem dJ0_coder_7d493_3 : decode cJ0_coder_7d493 3 = .ok (.ifCond .eq 10, 3) := by decide +kernel
theorem dJ0_coder_7d493_6 : decode cJ0_coder_7d493 6 = .ok (.aload_n 0, 1) := by decide +kernel
theorem dJ0_coder_7d493_7 : decode cJ0_coder_7d493 7 = .ok (.getfield 15, 3) := by decide +kernel
theorem dJ0_coder_7d493_10 : decode cJ0_coder_7d493 10 = .ok (.goto 4, 3) := by decide +kernel
theorem dJ0_coder_7d493_13 : decode cJ0_coder_7d493 13 = .ok (.iconst 1, 1) := by decide +kernel
theorem dJ0_coder_7d493_14 : decode cJ0_coder_7d493 14 = .ok (.ireturn, 1) := by decide +kernel
theorem dJ0_isLatin1_aae02_0 : decode cJ0_isLatin1_aae02 0 = .ok (.getstatic 38, 3) := by decide +kernel
theorem dJ0_isLatin1_aae02_3 : decode cJ0_isLatin1_aae02 3 = .ok (.ifCond .eq 14, 3) := by decide +kernel
theorem dJ0_isLatin1_aae02_6 : decode cJ0_isLatin1_aae02 6 = .ok (.aload_n 0, 1) := by decide +kernel
theorem dJ0_isLatin1_aae02_7 : decode cJ0_isLatin1_aae02 7 = .ok (.getfield 15, 3) := by decide +kernel
theorem dJ0_isLatin1_aae02_10 : decode cJ0_isLatin1_aae02 10 = .ok (.ifCond .ne 7, 3) := by decide +kernel
theorem dJ0_isLatin1_aae02_13 : decode cJ0_isLatin1_aae02 13 = .ok (.iconst 1, 1) := by decide +kernel
theorem dJ0_isLatin1_aae02_14 : decode cJ0_isLatin1_aae02 14 = .ok (.goto 4, 3) := by decide +kernel
theorem dJ0_isLatin1_aae02_17 : decode cJ0_isLatin1_aae02 17 = .ok (.iconst 0, 1) := by decide +kernel
theorem dJ0_isLatin1_aae02_18 : decode cJ0_isLatin1_aae02 18 = .ok (.ireturn, 1) := by decide +kernel
theorem dJ0_checkIndex_df160_0 : decode cJ0_checkIndex_df160 0 = .ok (.iload_n 0, 1) := by decide +kernel
theorem dJ0_checkIndex_df160_1 : decode cJ0_checkIndex_df160 1 = .ok (.iload_n 1, 1) := by decide +kernel
theorem dJ0_checkIndex_df160_2 : decode cJ0_checkIndex_df160 2 = .ok (.getstatic 1053, 3) := by decide +kernel
theorem dJ0_checkIndex_df160_5 : decode cJ0_checkIndex_df160 5 = .ok (.invokestatic 1059, 3) := by decide +kernel
theorem dJ0_checkIndex_df160_8 : decode cJ0_checkIndex_df160 8 = .ok (.pop, 1) := by decide +kernel
theorem dJ0_checkIndex_df160_9 : decode cJ0_checkIndex_df160 9 = .ok (.return_, 1) := by decide +kernel
theorem dJ1_charAt_3b067_0 : decode cJ1_charAt_3b067 0 = .ok (.iload_n 1, 1) := by decide +kernel
theorem dJ1_charAt_3b067_1 : decode cJ1_charAt_3b067 1 = .ok (.aload_n 0, 1) := by decide +kernel
theorem dJ1_charAt_3b067_2 : decode cJ1_charAt_3b067 2 = .ok (.arraylength, 1) := by decide +kernel
theorem dJ1_charAt_3b067_3 : decode cJ1_charAt_3b067 3 = .ok (.invokestatic 9, 3) := by decide +kernel
theorem dJ1_charAt_3b067_6 : decode cJ1_charAt_3b067 6 = .ok (.aload_n 0, 1) := by decide +kernel
theorem dJ1_charAt_3b067_7 : decode cJ1_charAt_3b067 7 = .ok (.iload_n 1, 1) := by decide +kernel
theorem dJ1_charAt_3b067_8 : decode cJ1_charAt_3b067 8 = .ok (.baload, 1) := by decide +kernel
theorem dJ1_charAt_3b067_9 : decode cJ1_charAt_3b067 9 = .ok (.sipush 255, 3) := by decide +kernel
theorem dJ1_charAt_3b067_12 : decode cJ1_charAt_3b067 12 = .ok (.iand, 1) := by decide +kernel
theorem dJ1_charAt_3b067_13 : decode cJ1_charAt_3b067 13 = .ok (.i2c, 1) := by decide +kernel
theorem dJ1_charAt_3b067_14 : decode cJ1_charAt_3b067 14 = .ok (.ireturn, 1) := by decide +kernel
theorem dJ3_checkIndex_8e157_0 : decode cJ3_checkIndex_8e157 0 = .ok (.iload_n 0, 1) := by decide +kernel
theorem dJ3_checkIndex_8e157_1 : decode cJ3_checkIndex_8e157 1 = .ok (.ifCond .lt 8, 3) := by decide +kernel
theorem dJ3_checkIndex_8e157_4 : decode cJ3_checkIndex_8e157 4 = .ok (.iload_n 0, 1) := by decide +kernel
theorem dJ3_checkIndex_8e157_5 : decode cJ3_checkIndex_8e157 5 = .ok (.iload_n 1, 1) := by decide +kernel
theorem dJ3_checkIndex_8e157_6 : decode cJ3_checkIndex_8e157 6 = .ok (.if_icmp .lt 10, 3) := by decide +kernel
theorem dJ3_checkIndex_8e157_9 : decode cJ3_checkIndex_8e157 9 = .ok (.aload_n 2, 1) := by decide +kernel
theorem dJ3_checkIndex_8e157_10 : decode cJ3_checkIndex_8e157 10 = .ok (.iload_n 0, 1) := by decide +kernel
theorem dJ3_checkIndex_8e157_11 : decode cJ3_checkIndex_8e157 11 = .ok (.iload_n 1, 1) := by decide +kernel
theorem dJ3_checkIndex_8e157_12 : decode cJ3_checkIndex_8e157 12 = .ok (.invokestatic 95, 3) := by decide +kernel
theorem dJ3_checkIndex_8e157_15 : decode cJ3_checkIndex_8e157 15 = .ok (.athrow, 1) := by decide +kernel
theorem dJ3_checkIndex_8e157_16 : decode cJ3_checkIndex_8e157 16 = .ok (.iload_n 0, 1) := by decide +kernel
theorem dJ3_checkIndex_8e157_17 : decode cJ3_checkIndex_8e157 17 = .ok (.ireturn, 1) := by decide +kernel
def M_J0_length_8abf5 : xa_M := (yJ0_length_8abf5, cJ0_length_8abf5, 1, some .int)
theorem cb_J0_length_8abf5 : xa_CB M_J0_length_8abf5 0 := ⟨gws_at 254 (by decide +kernel) rfl, gws_at 114 (by decide +kernel) rfl, by decide +kernel, Nat.le_of_ble_eq_true rfl⟩
def M_J0_charAt_5068e : xa_M := (yJ0_charAt_5068e, cJ0_charAt_5068e, 2, some .char)
theorem cb_J0_charAt_5068e : xa_CB M_J0_charAt_5068e 1 := ⟨gws_at 596 (by decide +kernel) rfl, gws_at 114 (by decide +kernel) rfl, by decide +kernel, Nat.le_of_ble_eq_true rfl⟩
def M_J0_coder_7d493 : xa_M := (yJ0_coder_7d493, cJ0_coder_7d493, 1, some .byte)
theorem cb_J0_coder_7d493 : xa_CB M_J0_coder_7d493 0 := ⟨gws_at 258 (by decide +kernel) rfl, gws_at 114 (by decide +kernel) rfl, by decide +kernel, Nat.le_of_ble_eq_true rfl⟩
def M_J0_isLatin1_aae02 : xa_M := (yJ0_isLatin1_aae02, cJ0_isLatin1_aae02, 1, some .boolean)
theorem cb_J0_isLatin1_aae02 : xa_CB M_J0_isLatin1_aae02 0 := ⟨gws_at 600 (by decide +kernel) rfl, gws_at 114 (by decide +kernel) rfl, by decide +kernel, Nat.le_of_ble_eq_true rfl⟩
def M_J0_checkIndex_df160 : xa_M := (yJ0_checkIndex_df160, cJ0_checkIndex_df160, 2, none)
theorem cb_J0_checkIndex_df160 : xa_CB M_J0_checkIndex_df160 2 := ⟨gws_at 606 (by decide +kernel) rfl, gws_at 114 (by decide +kernel) rfl, by decide +kernel, Nat.le_of_ble_eq_true rfl⟩
def M_J1_charAt_3b067 : xa_M := (yJ1_charAt_3b067, cJ1_charAt_3b067, 2, some .char)
theorem cb_J1_charAt_3b067 : xa_CB M_J1_charAt_3b067 2 := ⟨gws_at 603 (by decide +kernel) rfl, gws_at 124 (by decide +kernel) rfl, by decide +kernel, Nat.le_of_ble_eq_true rfl⟩
def M_J3_checkIndex_8e157 : xa_M := (yJ3_checkIndex_8e157, cJ3_checkIndex_8e157, 3, some .int)
theorem cb_J3_checkIndex_8e157 : xa_CB M_J3_checkIndex_8e157 3 := ⟨gws_at 611 (by decide +kernel) rfl, gws_at 125 (by decide +kernel) rfl, by decide +kernel, Nat.le_of_ble_eq_true rfl⟩
section XS
variable {G : xa_G} {M M1 : xa_M} {d d1 pc idx n j : Nat} {loc : List (Option Value)} {st st0 st1 : List Value} {h h1 h' : xa_H} {o o1 : Option Value} {As : List Value}
theorem xa_adX (k : Nat) : xa_ad G (1000000000 + k) = G.2.2.2.2.1 k := by
  unfold xa_ad
  rw [if_neg (by omega), show 1000000000 + k - 1000000000 = k by omega]
theorem xa_adS (k : Nat) : xa_ad G (1000000010 + k) = G.2.2.2.2.1 (10 + k) := by
  rw [show 1000000010 + k = 1000000000 + (10 + k) by omega]
  exact xa_adX _
theorem xa_adV (k : Nat) : xa_ad G (1000000040 + k) = G.2.2.2.2.1 (40 + k) := by
  rw [show 1000000040 + k = 1000000000 + (40 + k) by omega]
  exact xa_adX _
theorem v_getXc (hd : decode M.2.1 pc = .ok (.getfield idx, 3)) (hw : Cond.fieldLink M.1.cls idx "java/lang/String" "coder" "B" ∈ gws) (hj : j < 9) (k : xa_V G M d (pc + 3) loc (.int 0 :: st) h o h') : xa_V G M d pc loc (.ref (1000000010 + j) :: st) h o h' := by
  refine xa_go1 k (fun p e R s m args below meth c H locs cells slots Q ls A _ hW kk => ?_)
  obtain ⟨cf, kk0, fi, f, cell, g1, g2, g3, g4, g5, g6⟩ := (A.2.2.2.2.2.2.2.2.2.2.2.1.1 j hj).2.1
  have ha : G.2.2.2.2.1 (10 + j) < xa_b G := Nat.not_le.mp g6
  refine W.getf A.1 A.2.1 A.2.2.2.2.1 (A.2.2.2.2.2.2.2.1 _ hw) g1 g2 (a := xa_ad G (1000000010 + j)) (by rw [xa_adS, hW.2.2.1 _ ha]; exact g3) g4 g5 rfl rfl hd kk
theorem v_getXv (hd : decode M.2.1 pc = .ok (.getfield idx, 3)) (hw : Cond.fieldLink M.1.cls idx "java/lang/String" "value" "[B" ∈ gws) (hj : j < 9) (k : xa_V G M d (pc + 3) loc (.ref (1000000040 + j) :: st) h o h') : xa_V G M d pc loc (.ref (1000000010 + j) :: st) h o h' := by
  refine xa_go1 k (fun p e R s m args below meth c H locs cells slots Q ls A _ hW kk => ?_)
  obtain ⟨cf, kk0, fi, f, cell, g1, g2, g3, g4, g5, g6⟩ := (A.2.2.2.2.2.2.2.2.2.2.2.1.1 j hj).2.2.1
  have ha : G.2.2.2.2.1 (10 + j) < xa_b G := Nat.not_le.mp g6
  refine W.getf A.1 A.2.1 A.2.2.2.2.1 (A.2.2.2.2.2.2.2.1 _ hw) g1 g2 (a := xa_ad G (1000000010 + j)) (by rw [xa_adS, hW.2.2.1 _ ha]; exact g3) g4 g5 rfl rfl hd ?_
  rw [← xa_adV (G := G) j]
  exact kk
theorem v_alenX (hd : decode M.2.1 pc = .ok (.arraylength, 1)) (hj : j < 9) (k : xa_V G M d (pc + 1) loc (.int (nI (xs_tab.getD j []).length) :: st) h o h') : xa_V G M d pc loc (.ref (1000000040 + j) :: st) h o h' := by
  refine xa_go1 k (fun p e R s m args below meth c H locs cells slots Q ls A _ hW kk => ?_)
  obtain ⟨cell, g1, g2, g3, g4, g5, g6, g7⟩ := (A.2.2.2.2.2.2.2.2.2.2.2.1.1 j hj).2.2.2
  have ha : G.2.2.2.2.1 (40 + j) < xa_b G := Nat.not_le.mp g7
  exact W.alen (a := xa_ad G (1000000040 + j)) A.1 A.2.1 (by rw [xa_adV, hW.2.2.1 _ ha]; exact g1) g2 g5 rfl rfl hd kk
theorem v_baloadX {i : Int32} (hd : decode M.2.1 pc = .ok (.baload, 1)) (hj : j < 9) (hin : vp_in i (xs_tab.getD j []).length) (k : xa_V G M d (pc + 1) loc (.int ((xs_tab.getD j []).getD i.toNatClampNeg 0) :: st) h o h') : xa_V G M d pc loc (.int i :: .ref (1000000040 + j) :: st) h o h' := by
  refine xa_go1 k (fun p e R s m args below meth c H locs cells slots Q ls A _ hW kk => ?_)
  obtain ⟨cell, g1, g2, g3, g4, g5, g6, g7⟩ := (A.2.2.2.2.2.2.2.2.2.2.2.1.1 j hj).2.2.2
  have ha : G.2.2.2.2.1 (40 + j) < xa_b G := Nat.not_le.mp g7
  have hlt : i.toNatClampNeg < (xs_tab.getD j []).length := Nat.not_le.mp fun z => hin (Or.inr z)
  exact W.bald (a := xa_ad G (1000000040 + j)) (v := .int ((xs_tab.getD j []).getD i.toNatClampNeg 0)) A.1 A.2.1 (by rw [xa_adV, hW.2.2.1 _ ha]; exact g1) g2 g3 (fun z => by
    rcases z with z | z
    · exact hin (Or.inl z)
    · omega) (g6 _ hlt) rfl rfl hd kk
theorem v_i2c {x : Int32} (hd : decode M.2.1 pc = .ok (.i2c, 1)) (k : xa_V G M d (pc + 1) loc (.int (x.toUInt32 % 65536).toInt32 :: st) h o h') : xa_V G M d pc loc (.int x :: st) h o h' :=
  xa_go1 k (fun _ _ _ _ _ _ _ _ _ _ _ _ _ _ _ A _ _ kk => lv_i2c A.1 A.2.1 hd rfl kk)
theorem v_nret {x : Int32} {ty : FieldType} (hd : decode M.2.1 pc = .ok (.ireturn, 1)) (hr : M.2.2.2 = some ty) (hn : narrow ty (.int x) = .int x) : xa_V G M d pc loc [.int x] h (some (.int x)) h :=
  xa_ret (fun p e R s m args below meth c H locs cells slots ls A hL hq => W.zret A.1 A.2.1 (A.2.2.1.trans hr) hn (fun t ht _ => hq t ht) hL hd A.2.2.2.2.2.1)
theorem v_getsC (hd : decode M.2.1 pc = .ok (.getstatic idx, 3)) (hw : Cond.fieldLink M.1.cls idx "java/lang/String" "COMPACT_STRINGS" "Z" ∈ gws) (k : xa_V G M d (pc + 3) loc (.int 1 :: st) h o h') : xa_V G M d pc loc st h o h' := by
  refine xa_go1 k (fun p e R s m args below meth c H locs cells slots Q ls A _ hW kk => ?_)
  obtain ⟨cf, kf, fi, f, a, cell, g1, g2, g3, g4, g5, g6, g7, g8⟩ := A.2.2.2.2.2.2.2.2.2.2.2.1.2.2.1
  have ha : a < xa_b G := Nat.not_le.mp g8
  exact W.gets A.1 A.2.1 A.2.2.2.2.1 (A.2.2.2.2.2.2.2.1 _ hw) g1 g2 g3 g4 (by rw [hW.2.2.1 a ha]; exact g5) (fun e => by rw [e] at g6; cases g6) g7 rfl hd kk
theorem v_getsF (hd : decode M.2.1 pc = .ok (.getstatic idx, 3)) (hw : Cond.fieldLink M.1.cls idx "jdk/internal/util/Preconditions" "SIOOBE_FORMATTER" "Ljava/util/function/BiFunction;" ∈ gws) (k : ∀ v : Value, v.category = 1 → xa_V G M d (pc + 3) loc (v :: st) h o h') : xa_V G M d pc loc st h o h' := by
  refine ⟨(k .null rfl).1, (k .null rfl).2.1, fun p e R s m args below meth c H locs cells slots ls A h1 h2 h3 h4 hW hL hl => ?_⟩
  rcases A.2.2.2.2.2.2.2.2.2.2.2.1.2.2.2.1 with hz | hz
  · obtain ⟨cf, kf, fi, f, a, cell, g1, g2, g3, g4, g5, g6, g7, g8⟩ := hz
    have ha : a < xa_b G := Nat.not_le.mp g8
    exact W.gets A.1 A.2.1 A.2.2.2.2.1 (A.2.2.2.2.2.2.2.1 _ hw) g1 g2 g3 g4 (by rw [hW.2.2.1 a ha]; exact g5) (fun e => by rw [e] at g6; cases g6) g7 rfl hd ((k .null rfl).2.2 p e R s m args below meth c H locs cells slots ls A h1 h2 h3 h4 hW hL hl)
  · obtain ⟨cf, kf, fi, f, a, cell, g1, g2, g3, g4, g5, g6, g7, g8⟩ := hz
    have ha : a < xa_b G := Nat.not_le.mp g8
    have key := (k (.ref (1000000000 + 5)) rfl).2.2 p e R s m args below meth c H locs cells slots ls A h1 h2 h3 h4 hW hL hl
    rw [List.map_cons, show xa_sh G (.ref (1000000000 + 5)) = .ref (G.2.2.2.2.1 5) from congrArg Value.ref (xa_adX 5)] at key
    exact W.gets A.1 A.2.1 A.2.2.2.2.1 (A.2.2.2.2.2.2.2.1 _ hw) g1 g2 g3 g4 (by rw [hW.2.2.1 a ha]; exact g5) (fun e => by rw [e] at g6; cases g6) g7 rfl hd key
theorem v_ldcs {tx : String} {i jj : Nat} (hd : decode M.2.1 pc = .ok (.ldc i, 2)) (hm : (M.1.cls, i, tx, jj) ∈ xs_ref) (k : xa_V G M d (pc + 2) loc (.ref (1000000010 + jj) :: st) h o h') : xa_V G M d pc loc st h o h' := by
  refine xa_go1 k (fun p e R s m args below meth c H locs cells slots Q ls A _ hW kk => ?_)
  have hz := A.2.2.2.2.2.2.2.2.2.2.2.1.2.1 _ hm
  refine va_ldcS A.1 A.2.1 A.2.2.2.2.1 hz hd ?_
  rw [← xa_adS (G := G) jj]
  exact kk
/-- a call on a String constant -/
theorem v_callX (hd : decode M.2.1 pc = .ok (.invokevirtual idx, 3)) (hC : xa_CB M1 n ∧ Cond.methodLink M.1.cls idx M1.1 ∈ gws ∧ Cond.instanceMethod M1.1 ∈ gws ∧ Cond.selects "java/lang/String" M1.1 M1.1 ∈ gws) (hj : j < 9) (hE : xa_Ev G M1 d1 (.ref (1000000010 + j) :: As) h o1 h1) (hdd : d1 + 1 ≤ d) (hn : As.length = n) (hs : st0 = As.reverse ++ .ref (1000000010 + j) :: st) (hcat : (st.map fun v => v.category).sum ≤ 8) (hs1 : o1.toList ++ st = st1) (k : xa_V G M d (pc + 3) loc st1 h1 o h') : xa_V G M d pc loc st0 h o h' := by
  refine xa_call hE hs1 k (fun p e R s m args below meth c H locs cells slots ls A q1 q2 hl hW hf => ⟨(Value.ref (xa_ad G (1000000010 + j)) :: As.map (xa_sh G)).toArray, ?_⟩)
  have hts := A.2.2.2.2.2.2.2.1
  have hEn := A.2.2.2.2.2.2.2.2
  have hrec : ∃ cell : Cell, H[xa_ad G (1000000010 + j)]? = some cell ∧ cell.vm.isStatics = false ∧ s.vm.findClass "java/lang/String" = some cell.cls := by
    obtain ⟨cell, g1, g2, g3, g4⟩ := (hEn.2.2.2.1.1 j hj).1
    have ha : G.2.2.2.2.1 (10 + j) < xa_b G := Nat.not_le.mp g4
    exact ⟨cell, by rw [xa_adS, hW.2.2.1 _ ha]; exact g1, g2, g3⟩
  refine va_runV (As := As.map (xa_sh G)) (C := "java/lang/String") ⟨A.1, A.2.1, A.2.2.2.1, A.2.2.2.2.1, hts⟩ hE.2.2 ⟨callB_of n hts (gws_sub hC.1.1) rfl rfl rfl (hts _ hC.1.2.1) (hts _ hC.2.1) hC.1.2.2.1 (xa_room hdd q1 q2 hC.1.2.2.2), hts _ hC.2.2.1, hts _ hC.2.2.2⟩ ⟨xa_blind, hrec, xa_prec (av := .ref (1000000010 + j) :: As) hW hEn⟩ rfl (by rw [List.length_map]; exact hn) hl.1 ?_ (xa_catR hcat) hd hf
  show st0.map (xa_sh G) = _
  rw [hs, List.map_append, List.map_reverse]
  rfl
end XS
theorem xs_b : ∀ j, j < 9 → ∀ i, i < (xs_tab.getD j []).length → (((xs_tab.getD j []).getD i 0 &&& 255).toUInt32 % 65536).toInt32 = (xs_tab.getD j []).getD i 0 := by decide +kernel
theorem xs_len : ∀ j, j < 9 → (xs_tab.getD j []).length < 100 := by decide +kernel
theorem ev_J0_coder_7d493 {G : xa_G} {h : xa_H} {j : Nat} (hj : j < 9) : xa_Ev G M_J0_coder_7d493 0 [.ref (1000000010 + j)] h (some (.int 0)) h := by
  refine xa_entry (by decide +kernel) (loc := [some (.ref (1000000010 + j))]) rfl (Nat.le_of_ble_eq_true rfl) ?_
  refine v_getsC dJ0_coder_7d493_0 (gws_at 259 (by decide +kernel) rfl) ?_
  refine v_if_eq dJ0_coder_7d493_3 (tgt := 13) (by decide) (fun c => absurd c (by decide)) (fun c => ?_)
  refine v_aload_n dJ0_coder_7d493_6 rfl ?_
  refine v_getXc dJ0_coder_7d493_7 (gws_at 1985 (by decide +kernel) rfl) hj ?_
  refine v_goto dJ0_coder_7d493_10 (tgt := 14) (by decide) ?_
  exact v_nret dJ0_coder_7d493_14 rfl rfl
theorem ev_J0_isLatin1_aae02 {G : xa_G} {h : xa_H} {j : Nat} (hj : j < 9) : xa_Ev G M_J0_isLatin1_aae02 0 [.ref (1000000010 + j)] h (some (.int 1)) h := by
  refine xa_entry (by decide +kernel) (loc := [some (.ref (1000000010 + j))]) rfl (Nat.le_of_ble_eq_true rfl) ?_
  refine v_getsC dJ0_isLatin1_aae02_0 (gws_at 259 (by decide +kernel) rfl) ?_
  refine v_if_eq dJ0_isLatin1_aae02_3 (tgt := 17) (by decide) (fun c => absurd c (by decide)) (fun c => ?_)
  refine v_aload_n dJ0_isLatin1_aae02_6 rfl ?_
  refine v_getXc dJ0_isLatin1_aae02_7 (gws_at 1985 (by decide +kernel) rfl) hj ?_
  refine v_if_ne dJ0_isLatin1_aae02_10 (tgt := 17) (by decide) (fun c => absurd rfl c) (fun c => ?_)
  refine v_iconst dJ0_isLatin1_aae02_13 (by decide) (v := 1) ?_
  refine v_goto dJ0_isLatin1_aae02_14 (tgt := 18) (by decide) ?_
  exact v_zret dJ0_isLatin1_aae02_18 rfl (by decide)
theorem ev_J0_length_8abf5 {G : xa_G} {h : xa_H} {j : Nat} (hj : j < 9) : xa_Ev G M_J0_length_8abf5 1 [.ref (1000000010 + j)] h (some (.int (nI (xs_tab.getD j []).length))) h := by
  refine xa_entry (by decide +kernel) (loc := [some (.ref (1000000010 + j))]) rfl (Nat.le_of_ble_eq_true rfl) ?_
  refine v_aload_n dJ0_length_8abf5_0 rfl ?_
  refine v_getXv dJ0_length_8abf5_1 (gws_at 1984 (by decide +kernel) rfl) hj ?_
  refine v_alenX dJ0_length_8abf5_4 hj ?_
  refine v_aload_n dJ0_length_8abf5_5 rfl ?_
  refine v_callX dJ0_length_8abf5_6 ⟨cb_J0_coder_7d493, gws_at 255 (by decide +kernel) rfl, gws_at 256 (by decide +kernel) rfl, gws_at 257 (by decide +kernel) rfl⟩ hj (ev_J0_coder_7d493 hj) (by decide) (As := []) rfl (st := [.int (nI (xs_tab.getD j []).length)]) rfl (Nat.le_of_ble_eq_true rfl) rfl ?_
  refine v_ishr dJ0_length_8abf5_9 ?_
  rw [sb_shr0]
  exact v_iret dJ0_length_8abf5_10 rfl
theorem ev_J3_checkIndex_8e157 {G : xa_G} {h : xa_H} {i n : Int32} {v : Value} (hv : v.category = 1) (h0 : ¬ i < 0) (h1 : i < n) : xa_Ev G M_J3_checkIndex_8e157 0 [.int i, .int n, v] h (some (.int i)) h := by
  refine xa_entry (by decide +kernel) (loc := [some (.int i), some (.int n), some v]) (by cases v <;> first | rfl | cases hv) (by cases v <;> first | exact Nat.le_of_ble_eq_true rfl | cases hv) ?_
  refine v_iload_n dJ3_checkIndex_8e157_0 rfl ?_
  refine v_if_lt dJ3_checkIndex_8e157_1 (tgt := 9) (by decide) (fun c => absurd c h0) (fun c => ?_)
  refine v_iload_n dJ3_checkIndex_8e157_4 rfl ?_
  refine v_iload_n dJ3_checkIndex_8e157_5 rfl ?_
  refine v_icmp_lt dJ3_checkIndex_8e157_6 (tgt := 16) (by decide) (fun c => ?_) (fun c => absurd h1 c)
  refine v_iload_n dJ3_checkIndex_8e157_16 rfl ?_
  exact v_iret dJ3_checkIndex_8e157_17 rfl
theorem ev_J0_checkIndex_df160 {G : xa_G} {h : xa_H} {i n : Int32} (h0 : ¬ i < 0) (h1 : i < n) : xa_Ev G M_J0_checkIndex_df160 1 [.int i, .int n] h none h := by
  refine xa_entry (by decide +kernel) (loc := [some (.int i), some (.int n)]) rfl (Nat.le_of_ble_eq_true rfl) ?_
  refine v_iload_n dJ0_checkIndex_df160_0 rfl ?_
  refine v_iload_n dJ0_checkIndex_df160_1 rfl ?_
  refine v_getsF dJ0_checkIndex_df160_2 (gws_at 607 (by decide +kernel) rfl) (fun v hv => ?_)
  refine v_callS dJ0_checkIndex_df160_5 ⟨cb_J3_checkIndex_8e157, gws_at 609 (by decide +kernel) rfl, gws_at 610 (by decide +kernel) rfl⟩ (ev_J3_checkIndex_8e157 hv h0 h1) (by decide) (As := [.int i, .int n, v]) rfl (st := []) rfl (Nat.le_of_ble_eq_true rfl) rfl ?_
  refine v_pop dJ0_checkIndex_df160_8 rfl ?_
  exact v_vret dJ0_checkIndex_df160_9 rfl
theorem ev_J1_charAt_3b067 {G : xa_G} {h : xa_H} {i : Int32} {j : Nat} (hj : j < 9) (hin : vp_in i (xs_tab.getD j []).length) : xa_Ev G M_J1_charAt_3b067 2 [.ref (1000000040 + j), .int i] h (some (.int ((xs_tab.getD j []).getD i.toNatClampNeg 0))) h := by
  have hl := xs_len j hj
  obtain ⟨k, hk, rfl⟩ := vp_in_of hin (by omega)
  have hcl : (nI k).toNatClampNeg = k := nI_clamp (by omega)
  refine xa_entry (by decide +kernel) (loc := [some (.ref (1000000040 + j)), some (.int (nI k))]) rfl (Nat.le_of_ble_eq_true rfl) ?_
  refine v_iload_n dJ1_charAt_3b067_0 rfl ?_
  refine v_aload_n dJ1_charAt_3b067_1 rfl ?_
  refine v_alenX dJ1_charAt_3b067_2 hj ?_
  refine v_callS dJ1_charAt_3b067_3 ⟨cb_J0_checkIndex_df160, gws_at 604 (by decide +kernel) rfl, gws_at 605 (by decide +kernel) rfl⟩ (ev_J0_checkIndex_df160 (nI_pos (by omega)) (nI_lt hk (by omega))) (by decide) (As := [.int (nI k), .int (nI (xs_tab.getD j []).length)]) rfl (st := []) rfl (Nat.le_of_ble_eq_true rfl) rfl ?_
  refine v_aload_n dJ1_charAt_3b067_6 rfl ?_
  refine v_iload_n dJ1_charAt_3b067_7 rfl ?_
  refine v_baloadX dJ1_charAt_3b067_8 hj hin ?_
  refine v_sipush dJ1_charAt_3b067_9 (by decide) (v := 255) ?_
  refine v_iand dJ1_charAt_3b067_12 ?_
  refine v_i2c dJ1_charAt_3b067_13 ?_
  have hb := xs_b j hj k hk
  rw [hcl, hb]
  refine v_nret dJ1_charAt_3b067_14 rfl ?_
  rw [← hb]
  exact pk_nc _
theorem ev_J0_charAt_5068e {G : xa_G} {h : xa_H} {i : Int32} {j : Nat} (hj : j < 9) (hin : vp_in i (xs_tab.getD j []).length) : xa_Ev G M_J0_charAt_5068e 3 [.ref (1000000010 + j), .int i] h (some (.int ((xs_tab.getD j []).getD i.toNatClampNeg 0))) h := by
  have hl := xs_len j hj
  obtain ⟨k, hk, rfl⟩ := vp_in_of hin (by omega)
  have hcl : (nI k).toNatClampNeg = k := nI_clamp (by omega)
  have hb := xs_b j hj k hk
  refine xa_entry (by decide +kernel) (loc := [some (.ref (1000000010 + j)), some (.int (nI k))]) rfl (Nat.le_of_ble_eq_true rfl) ?_
  refine v_aload_n dJ0_charAt_5068e_0 rfl ?_
  refine v_callX dJ0_charAt_5068e_1 ⟨cb_J0_isLatin1_aae02, gws_at 597 (by decide +kernel) rfl, gws_at 598 (by decide +kernel) rfl, gws_at 599 (by decide +kernel) rfl⟩ hj (ev_J0_isLatin1_aae02 hj) (by decide) (As := []) rfl (st := []) rfl (Nat.le_of_ble_eq_true rfl) rfl ?_
  refine v_if_eq dJ0_charAt_5068e_4 (tgt := 16) (by decide) (fun c => absurd c (by decide)) (fun c => ?_)
  refine v_aload_n dJ0_charAt_5068e_7 rfl ?_
  refine v_getXv dJ0_charAt_5068e_8 (gws_at 1984 (by decide +kernel) rfl) hj ?_
  refine v_iload_n dJ0_charAt_5068e_11 rfl ?_
  refine v_callS dJ0_charAt_5068e_12 ⟨cb_J1_charAt_3b067, gws_at 601 (by decide +kernel) rfl, gws_at 602 (by decide +kernel) rfl⟩ (ev_J1_charAt_3b067 hj hin) (by decide) (As := [.ref (1000000040 + j), .int (nI k)]) rfl (st := []) rfl (Nat.le_of_ble_eq_true rfl) rfl ?_
  rw [hcl]
  refine v_nret dJ0_charAt_5068e_15 rfl ?_
  rw [← hb]
  exact pk_nc _
def sLen (a : Nat) : Option Int32 := if 1000000010 ≤ a ∧ a < 1000000010 + 9 then some (nI (xs_tab.getD (a - 1000000010) []).length) else none
def sAt (a : Nat) (i : Int32) : Option Int32 := if 1000000010 ≤ a ∧ a < 1000000010 + 9 then (if i < 0 ∨ (xs_tab.getD (a - 1000000010) []).length ≤ i.toNatClampNeg then none else some ((xs_tab.getD (a - 1000000010) []).getD i.toNatClampNeg 0)) else none
section XT
variable {G : xa_G} {M : xa_M} {d pc idx a : Nat} {loc : List (Option Value)} {st : List Value} {h h' : xa_H} {o : Option Value}
theorem v_slen {x : Int32} (hd : decode M.2.1 pc = .ok (.invokevirtual idx, 3)) (hw : Cond.methodLink M.1.cls idx yJ0_length_8abf5 ∈ gws) (h1 : 2 ≤ d) (hcat : (st.map fun v => v.category).sum ≤ 8) (e : sLen a = some x) (k : xa_V G M d (pc + 3) loc (.int x :: st) h o h') : xa_V G M d pc loc (.ref a :: st) h o h' := by
  unfold sLen at e
  split at e
  · rename_i c
    replace e := Option.some.inj e
    subst e
    obtain ⟨j, rfl⟩ : ∃ j, a = 1000000010 + j := ⟨a - 1000000010, by omega⟩
    rw [show 1000000010 + j - 1000000010 = j by omega] at k
    exact v_callX hd ⟨cb_J0_length_8abf5, hw, gws_at 252 (by decide +kernel) rfl, gws_at 253 (by decide +kernel) rfl⟩ (by omega) (ev_J0_length_8abf5 (by omega)) h1 (As := []) rfl rfl hcat rfl k
  · cases e
theorem v_sat {i x : Int32} (hd : decode M.2.1 pc = .ok (.invokevirtual idx, 3)) (hw : Cond.methodLink M.1.cls idx yJ0_charAt_5068e ∈ gws) (h1 : 4 ≤ d) (hcat : (st.map fun v => v.category).sum ≤ 8) (e : sAt a i = some x) (k : xa_V G M d (pc + 3) loc (.int x :: st) h o h') : xa_V G M d pc loc (.int i :: .ref a :: st) h o h' := by
  unfold sAt at e
  split at e
  · rename_i c
    split at e
    · cases e
    · rename_i hin
      replace e := Option.some.inj e
      subst e
      obtain ⟨j, rfl⟩ : ∃ j, a = 1000000010 + j := ⟨a - 1000000010, by omega⟩
      rw [show 1000000010 + j - 1000000010 = j by omega] at k hin
      exact v_callX hd ⟨cb_J0_charAt_5068e, hw, gws_at 594 (by decide +kernel) rfl, gws_at 595 (by decide +kernel) rfl⟩ (by omega) (ev_J0_charAt_5068e (by omega) hin) h1 (As := [.int i]) rfl rfl hcat rfl k
  · cases e
end XT
