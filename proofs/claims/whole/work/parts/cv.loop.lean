/-! the law's loop -/
section LL
variable {G : xa_G} {b L : Nat} {xs : Nat → Int32}
theorem lw_cont {L a : Nat} (h : ¬ nI L - 6 < nI a) (hL : L ≤ 3072) (ha : a ≤ 3072) : a + 6 ≤ L := by
  by_cases h6 : 6 ≤ L
  · have e : nI L - 6 = nI (L - 6) := by
      have h1 : nI (L - 6) + nI 6 = nI L := by
        rw [lw_idx (by omega), show L - 6 + 6 = L by omega]
      rw [← h1]
      exact Int32.add_sub_cancel _ _
    rw [e] at h
    exact Classical.byContradiction fun z => h (nI_lt (by omega) (by omega))
  · exfalso
    apply h
    have hz : (nI a).toInt = (a : Int) := nI_toInt (by omega)
    rw [Int32.lt_iff_toInt_lt, hz]
    have : (nI L - 6).toInt < 0 := by
      rcases (by omega : L = 0 ∨ L = 1 ∨ L = 2 ∨ L = 3 ∨ L = 4 ∨ L = 5) with rfl | rfl | rfl | rfl | rfl | rfl <;> decide
    omega
theorem lw_sw {S : XS} {c : Nat × Nat} {n : Nat} (htr : G.1.stackTraces = false) (hb0 : G.2.2.2.2.2.size = xa_b G) (hS : lwS G b L) (hi : 6 * n + 6 ≤ L) (hc : c.1 + 1 ≤ 601024 ∧ c.2 + 6 ≤ 7293034) (R : RR n (pj S)) (K : LWK G b L xs n c) (K1 : LWK G b L xs n (c.1 + 1, c.2 + 6)) (x : Int32) : xa_L G M_L_law (lwP G b L xs) room_1 c.1 c.2 40 (lwl n) [.int x] (hp S c) (lwZ b) := by
  have hc0 : c.1 ≤ 601024 ∧ c.2 ≤ 7293034 := ⟨by omega, by omega⟩
  by_cases c0 : x = (0 : Int32)
  · exact l_tabIn dL_law_40 (0 : Int32) c0 (by decide) (by decide) (off := 172) rfl (tgt := 212) (by decide) (lc_feed hS hi hc0 R K)
  by_cases c1 : x = (1 : Int32)
  · exact l_tabIn dL_law_40 (1 : Int32) c1 (by decide) (by decide) (off := 245) rfl (tgt := 285) (by decide) (lc_end hS hi hc0 R K)
  by_cases c2 : x = (2 : Int32)
  · exact l_tabIn dL_law_40 (2 : Int32) c2 (by decide) (by decide) (off := 270) rfl (tgt := 310) (by decide) (lc_fault hS hi hc0 R K)
  by_cases c3 : x = (3 : Int32)
  · exact l_tabIn dL_law_40 (3 : Int32) c3 (by decide) (by decide) (off := 295) rfl (tgt := 335) (by decide) (lc_text hS hi hc0 R K)
  by_cases c4 : x = (4 : Int32)
  · exact l_tabIn dL_law_40 (4 : Int32) c4 (by decide) (by decide) (off := 320) rfl (tgt := 360) (by decide) (lc_house htr hb0 hS hi hc R K K1)
  by_cases c5 : x = (5 : Int32)
  · exact l_tabIn dL_law_40 (5 : Int32) c5 (by decide) (by decide) (off := 388) rfl (tgt := 428) (by decide) (lc_owes hS hi hc0 R K)
  by_cases c6 : x = (6 : Int32)
  · exact l_tabIn dL_law_40 (6 : Int32) c6 (by decide) (by decide) (off := 425) rfl (tgt := 465) (by decide) (lc_law hS hi hc0 R K)
  by_cases c7 : x = (7 : Int32)
  · exact l_tabIn dL_law_40 (7 : Int32) c7 (by decide) (by decide) (off := 450) rfl (tgt := 490) (by decide) (lc_sung hS hi hc0 R K)
  by_cases c8 : x = (8 : Int32)
  · exact l_tabIn dL_law_40 (8 : Int32) c8 (by decide) (by decide) (off := 487) rfl (tgt := 527) (by decide) (lc_grace hS hi hc0 R K)
  by_cases c9 : x = (9 : Int32)
  · exact l_tabIn dL_law_40 (9 : Int32) c9 (by decide) (by decide) (off := 512) rfl (tgt := 552) (by decide) (lc_cross hS hi hc0 R K)
  by_cases c10 : x = (10 : Int32)
  · exact l_tabIn dL_law_40 (10 : Int32) c10 (by decide) (by decide) (off := 537) rfl (tgt := 577) (by decide) (lc_sing hS hi hc0 R K)
  by_cases c11 : x = (11 : Int32)
  · exact l_tabIn dL_law_40 (11 : Int32) c11 (by decide) (by decide) (off := 562) rfl (tgt := 602) (by decide) (lc_gives hS hi hc0 R K)
  by_cases c12 : x = (12 : Int32)
  · exact l_tabIn dL_law_40 (12 : Int32) c12 (by decide) (by decide) (off := 611) rfl (tgt := 651) (by decide) (lc_forgives hS hi hc0 R K)
  by_cases c13 : x = (13 : Int32)
  · exact l_tabIn dL_law_40 (13 : Int32) c13 (by decide) (by decide) (off := 648) rfl (tgt := 688) (by decide) (lc_keep hS hi hc0 R K)
  by_cases c14 : x = (14 : Int32)
  · exact l_tabIn dL_law_40 (14 : Int32) c14 (by decide) (by decide) (off := 673) rfl (tgt := 713) (by decide) (lc_give hS hi hc0 R K)
  by_cases c15 : x = (15 : Int32)
  · exact l_tabIn dL_law_40 (15 : Int32) c15 (by decide) (by decide) (off := 698) rfl (tgt := 738) (by decide) (lc_years hS hi hc0 R K)
  by_cases c16 : x = (16 : Int32)
  · exact l_tabIn dL_law_40 (16 : Int32) c16 (by decide) (by decide) (off := 767) rfl (tgt := 807) (by decide) (lc_status hS hi hc0 R K)
  by_cases c17 : x = (17 : Int32)
  · exact l_tabIn dL_law_40 (17 : Int32) c17 (by decide) (by decide) (off := 792) rfl (tgt := 832) (by decide) (lc_undo hS hi hc0 R K)
  by_cases c18 : x = (18 : Int32)
  · exact l_tabIn dL_law_40 (18 : Int32) c18 (by decide) (by decide) (off := 805) rfl (tgt := 845) (by decide) (lc_log hS hi hc0 R K)
  by_cases c19 : x = (19 : Int32)
  · exact l_tabIn dL_law_40 (19 : Int32) c19 (by decide) (by decide) (off := 842) rfl (tgt := 882) (by decide) (lc_after hS hi hc0 R K)
  by_cases c20 : x = (20 : Int32)
  · exact l_tabIn dL_law_40 (20 : Int32) c20 (by decide) (by decide) (off := 903) rfl (tgt := 943) (by decide) (lc_worthAfter hS hi hc0 R K)
  by_cases c21 : x = (21 : Int32)
  · exact l_tabIn dL_law_40 (21 : Int32) c21 (by decide) (by decide) (off := 952) rfl (tgt := 992) (by decide) (lc_again hS hi hc0 R K)
  by_cases c22 : x = (22 : Int32)
  · exact l_tabIn dL_law_40 (22 : Int32) c22 (by decide) (by decide) (off := 989) rfl (tgt := 1029) (by decide) (lc_like hS hi hc0 R K)
  by_cases c23 : x = (23 : Int32)
  · exact l_tabIn dL_law_40 (23 : Int32) c23 (by decide) (by decide) (off := 1014) rfl (tgt := 1054) (by decide) (lc_reach hS hi hc0 R K)
  by_cases c24 : x = (24 : Int32)
  · exact l_tabIn dL_law_40 (24 : Int32) c24 (by decide) (by decide) (off := 1039) rfl (tgt := 1079) (by decide) (lc_straight hS hi hc0 R K)
  by_cases c25 : x = (25 : Int32)
  · exact l_tabIn dL_law_40 (25 : Int32) c25 (by decide) (by decide) (off := 1064) rfl (tgt := 1104) (by decide) (lc_fewest hS hi hc0 R K)
  by_cases c26 : x = (26 : Int32)
  · exact l_tabIn dL_law_40 (26 : Int32) c26 (by decide) (by decide) (off := 1101) rfl (tgt := 1141) (by decide) (lc_ring hS hi hc0 R K)
  by_cases c27 : x = (27 : Int32)
  · exact l_tabIn dL_law_40 (27 : Int32) c27 (by decide) (by decide) (off := 1114) rfl (tgt := 1154) (by decide) (lc_chain hS hi hc0 R K)
  by_cases c28 : x = (28 : Int32)
  · exact l_tabIn dL_law_40 (28 : Int32) c28 (by decide) (by decide) (off := 1151) rfl (tgt := 1191) (by decide) (lc_seen hS hi hc0 R K)
  by_cases c29 : x = (29 : Int32)
  · exact l_tabIn dL_law_40 (29 : Int32) c29 (by decide) (by decide) (off := 1240) rfl (tgt := 1280) (by decide) (lc_fits hS hi hc0 R K)
  by_cases c30 : x = (30 : Int32)
  · exact l_tabIn dL_law_40 (30 : Int32) c30 (by decide) (by decide) (off := 1253) rfl (tgt := 1293) (by decide) (lc_ask hS hi hc0 R K)
  by_cases c31 : x = (31 : Int32)
  · exact l_tabIn dL_law_40 (31 : Int32) c31 (by decide) (by decide) (off := 1290) rfl (tgt := 1330) (by decide) (lc_game hS hi hc0 R K)
  by_cases c32 : x = (32 : Int32)
  · exact l_tabIn dL_law_40 (32 : Int32) c32 (by decide) (by decide) (off := 1363) rfl (tgt := 1403) (by decide) (lc_rests hS hi hc0 R K)
  by_cases c33 : x = (33 : Int32)
  · exact l_tabIn dL_law_40 (33 : Int32) c33 (by decide) (by decide) (off := 1412) rfl (tgt := 1452) (by decide) (lc_odds hS hi hc0 R K)
  by_cases c34 : x = (34 : Int32)
  · exact l_tabIn dL_law_40 (34 : Int32) c34 (by decide) (by decide) (off := 1449) rfl (tgt := 1489) (by decide) (lc_shares hS hi hc0 R K)
  by_cases c35 : x = (35 : Int32)
  · exact l_tabIn dL_law_40 (35 : Int32) c35 (by decide) (by decide) (off := 1486) rfl (tgt := 1526) (by decide) (lc_all hS hi hc0 R K)
  by_cases c36 : x = (36 : Int32)
  · exact l_tabIn dL_law_40 (36 : Int32) c36 (by decide) (by decide) (off := 1511) rfl (tgt := 1551) (by decide) (lc_image hS hi hc0 R K)
  by_cases c37 : x = (37 : Int32)
  · exact l_tabIn dL_law_40 (37 : Int32) c37 (by decide) (by decide) (off := 1524) rfl (tgt := 1564) (by decide) (lc_back hS hi hc0 R K)
  by_cases c38 : x = (38 : Int32)
  · exact l_tabIn dL_law_40 (38 : Int32) c38 (by decide) (by decide) (off := 1537) rfl (tgt := 1577) (by decide) (lc_count hS hi hc0 R K)
  refine l_tabOut dL_law_40 ?_ (tgt := 1602) (by decide) (K S (R.mono (by omega)))
  have z0 := tsx (n := 0) (by decide) c0
  have z1 := tsx (n := 1) (by decide) c1
  have z2 := tsx (n := 2) (by decide) c2
  have z3 := tsx (n := 3) (by decide) c3
  have z4 := tsx (n := 4) (by decide) c4
  have z5 := tsx (n := 5) (by decide) c5
  have z6 := tsx (n := 6) (by decide) c6
  have z7 := tsx (n := 7) (by decide) c7
  have z8 := tsx (n := 8) (by decide) c8
  have z9 := tsx (n := 9) (by decide) c9
  have z10 := tsx (n := 10) (by decide) c10
  have z11 := tsx (n := 11) (by decide) c11
  have z12 := tsx (n := 12) (by decide) c12
  have z13 := tsx (n := 13) (by decide) c13
  have z14 := tsx (n := 14) (by decide) c14
  have z15 := tsx (n := 15) (by decide) c15
  have z16 := tsx (n := 16) (by decide) c16
  have z17 := tsx (n := 17) (by decide) c17
  have z18 := tsx (n := 18) (by decide) c18
  have z19 := tsx (n := 19) (by decide) c19
  have z20 := tsx (n := 20) (by decide) c20
  have z21 := tsx (n := 21) (by decide) c21
  have z22 := tsx (n := 22) (by decide) c22
  have z23 := tsx (n := 23) (by decide) c23
  have z24 := tsx (n := 24) (by decide) c24
  have z25 := tsx (n := 25) (by decide) c25
  have z26 := tsx (n := 26) (by decide) c26
  have z27 := tsx (n := 27) (by decide) c27
  have z28 := tsx (n := 28) (by decide) c28
  have z29 := tsx (n := 29) (by decide) c29
  have z30 := tsx (n := 30) (by decide) c30
  have z31 := tsx (n := 31) (by decide) c31
  have z32 := tsx (n := 32) (by decide) c32
  have z33 := tsx (n := 33) (by decide) c33
  have z34 := tsx (n := 34) (by decide) c34
  have z35 := tsx (n := 35) (by decide) c35
  have z36 := tsx (n := 36) (by decide) c36
  have z37 := tsx (n := 37) (by decide) c37
  have z38 := tsx (n := 38) (by decide) c38
  omega
theorem lw_loop (htr : G.1.stackTraces = false) (hb0 : G.2.2.2.2.2.size = xa_b G) (hS : lwS G b L) : ∀ (r n : Nat) (S : XS) (c : Nat × Nat), L ≤ 6 * n + 6 * r → 6 * n ≤ 3072 → RR n (pj S) → c.1 ≤ 379 + n → c.2 ≤ 100000 + 6 * n → xa_L G M_L_law (lwP G b L xs) room_1 c.1 c.2 23 (lwl n) [] (hp S c) (lwZ b) := by
  intro r
  induction r with
  | zero =>
    intro n S c h1 h2 R k1 k2
    refine l_iload dL_law_23 rfl (l_aload_n dL_law_25 rfl (l_slen hS dL_law_26 (l_bipush dL_law_27 (v := 6) (by decide) (l_isub dL_law_29 ?_))))
    refine l_icmp_gt dL_law_30 (tgt := 1608) (by decide) (fun _ => ?_) (fun z => ?_)
    · exact l_iconst dL_law_1608 (v := 1) (by decide) (l_lawret dL_law_1609 (by omega) (by omega))
    · have := lw_cont z hS.2.2 h2
      omega
  | succ r ih =>
    intro n S c h1 h2 R k1 k2
    refine l_iload dL_law_23 rfl (l_aload_n dL_law_25 rfl (l_slen hS dL_law_26 (l_bipush dL_law_27 (v := 6) (by decide) (l_isub dL_law_29 ?_))))
    refine l_icmp_gt dL_law_30 (tgt := 1608) (by decide) (fun _ => ?_) (fun z => ?_)
    · exact l_iconst dL_law_1608 (v := 1) (by decide) (l_lawret dL_law_1609 (by omega) (by omega))
    · have hi := lw_cont z hS.2.2 h2
      have hL := hS.2.2
      have KK : ∀ c2 : Nat × Nat, c2.1 ≤ 379 + (n + 1) → c2.2 ≤ 100000 + 6 * (n + 1) → LWK G b L xs n c2 := fun c2 q1 q2 S2 R2 => by
        refine l_iinc dL_law_1602 rfl (v := nI (6 * (n + 1))) ?_ (Nat.le_of_ble_eq_true rfl) (loc' := lwl (n + 1)) rfl (l_goto dL_law_1605 (tgt := 23) (by decide) (ih (n + 1) S2 c2 (by omega) (by omega) R2 q1 q2))
        rw [show Int32.ofInt 6 = nI 6 from rfl, lw_idx (by omega)]
        rfl
      refine l_aload_n dL_law_33 rfl (l_iload dL_law_34 rfl (l_sld hS (nI_in (by omega) (by omega)) dL_law_36 (l_bipush dL_law_37 (v := 63) (by decide) (l_iand dL_law_39 ?_))))
      exact lw_sw htr hb0 hS hi ⟨by omega, by omega⟩ R (KK c (by omega) (by omega)) (KK (c.1 + 1, c.2 + 6) (by show c.1 + 1 ≤ _; omega) (by show c.2 + 6 ≤ _; omega)) _
end LL
