/-! the cases of the law -/
section LC
variable {G : xa_G} {b L : Nat} {xs : Nat → Int32} {S : XS} {c : Nat × Nat} {n : Nat}
theorem lc_worthAfter (hS : lwS G b L) (hi : 6 * n + 6 ≤ L) (hc : c.1 ≤ 601024 ∧ c.2 ≤ 7293034) (R : RR n (pj S)) (K : LWK G b L xs n c) : xa_L G M_L_law (lwP G b L xs) room_1 c.1 c.2 943 (lwl n) [] (hp S c) (lwZ b) := by
  obtain ⟨v, S1, S2, e1, e2, R2⟩ := pr_worthAfter (c := c) R (xs (6 * n + 1)) (xs (6 * n + 2)) (xs (6 * n + 3))
  refine l_aload_n dL_law_943 rfl ?_
  refine l_sc hS 1 (by decide) (by omega) rfl rfl dL_law_944 dL_law_945 dL_law_947 dL_law_948 dL_law_949 ?_
  refine l_sc hS 2 (by decide) (by omega) rfl rfl dL_law_950 dL_law_951 dL_law_953 dL_law_954 dL_law_955 ?_
  refine l_sc hS 3 (by decide) (by omega) rfl rfl dL_law_956 dL_law_957 dL_law_959 dL_law_960 dL_law_961 ?_
  refine l_callK dL_law_962 ⟨cb_X11_worthAfter, ml_L_113, im_X11_worthAfter⟩ se_11_X11_worthAfter (ckf_X11_worthAfter e1) (ev_X11_worthAfter e1) ⟨Nat.le_of_ble_eq_true rfl, Nat.le_of_ble_eq_true rfl⟩ hc rfl (As := [.int (xs (6 * n + 1)), .int (xs (6 * n + 2)), .int (xs (6 * n + 3))]) rfl (st := []) rfl (Nat.le_of_ble_eq_true rfl) rfl ?_
  refine l_aload_n dL_law_965 rfl ?_
  refine l_sc hS 1 (by decide) (by omega) rfl rfl dL_law_966 dL_law_967 dL_law_969 dL_law_970 dL_law_971 ?_
  refine l_sc hS 2 (by decide) (by omega) rfl rfl dL_law_972 dL_law_973 dL_law_975 dL_law_976 dL_law_977 ?_
  refine l_sc hS 3 (by decide) (by omega) rfl rfl dL_law_978 dL_law_979 dL_law_981 dL_law_982 dL_law_983 ?_
  refine l_callK dL_law_984 ⟨cb_X12_worthAfter, ml_L_116, im_X12_worthAfter⟩ se_12_X12_worthAfter (ckf_X12_worthAfter e2) (ev_X12_worthAfter e2) ⟨Nat.le_of_ble_eq_true rfl, Nat.le_of_ble_eq_true rfl⟩ hc rfl (As := [.int (xs (6 * n + 1)), .int (xs (6 * n + 2)), .int (xs (6 * n + 3))]) rfl (st := [.int v]) rfl (Nat.le_of_ble_eq_true rfl) rfl ?_
  exact l_icmp_eq dL_law_987 (tgt := 1602) (by decide) (fun _ => K S2 R2) (fun z => absurd rfl z)
theorem lc_again (hS : lwS G b L) (hi : 6 * n + 6 ≤ L) (hc : c.1 ≤ 601024 ∧ c.2 ≤ 7293034) (R : RR n (pj S)) (K : LWK G b L xs n c) : xa_L G M_L_law (lwP G b L xs) room_1 c.1 c.2 992 (lwl n) [] (hp S c) (lwZ b) := by
  obtain ⟨v, S1, S2, e1, e2, R2⟩ := pr_again (c := c) R (xs (6 * n + 1)) (xs (6 * n + 2))
  refine l_aload_n dL_law_992 rfl ?_
  refine l_sc hS 1 (by decide) (by omega) rfl rfl dL_law_993 dL_law_994 dL_law_996 dL_law_997 dL_law_998 ?_
  refine l_sc hS 2 (by decide) (by omega) rfl rfl dL_law_999 dL_law_1000 dL_law_1002 dL_law_1003 dL_law_1004 ?_
  refine l_callK dL_law_1005 ⟨cb_X11_again, ml_L_117, im_X11_again⟩ se_11_X11_again (ckf_X11_again e1) (ev_X11_again e1) ⟨Nat.le_of_ble_eq_true rfl, Nat.le_of_ble_eq_true rfl⟩ hc rfl (As := [.int (xs (6 * n + 1)), .int (xs (6 * n + 2))]) rfl (st := []) rfl (Nat.le_of_ble_eq_true rfl) rfl ?_
  refine l_aload_n dL_law_1008 rfl ?_
  refine l_sc hS 1 (by decide) (by omega) rfl rfl dL_law_1009 dL_law_1010 dL_law_1012 dL_law_1013 dL_law_1014 ?_
  refine l_sc hS 2 (by decide) (by omega) rfl rfl dL_law_1015 dL_law_1016 dL_law_1018 dL_law_1019 dL_law_1020 ?_
  refine l_callK dL_law_1021 ⟨cb_X12_again, ml_L_120, im_X12_again⟩ se_12_X12_again (ckf_X12_again e2) (ev_X12_again e2) ⟨Nat.le_of_ble_eq_true rfl, Nat.le_of_ble_eq_true rfl⟩ hc rfl (As := [.int (xs (6 * n + 1)), .int (xs (6 * n + 2))]) rfl (st := [.int v]) rfl (Nat.le_of_ble_eq_true rfl) rfl ?_
  exact l_icmp_eq dL_law_1024 (tgt := 1602) (by decide) (fun _ => K S2 R2) (fun z => absurd rfl z)
theorem lc_like (hS : lwS G b L) (hi : 6 * n + 6 ≤ L) (hc : c.1 ≤ 601024 ∧ c.2 ≤ 7293034) (R : RR n (pj S)) (K : LWK G b L xs n c) : xa_L G M_L_law (lwP G b L xs) room_1 c.1 c.2 1029 (lwl n) [] (hp S c) (lwZ b) := by
  obtain ⟨v, S1, S2, e1, e2, R2⟩ := pr_like (c := c) R (xs (6 * n + 1))
  refine l_aload_n dL_law_1029 rfl ?_
  refine l_sc hS 1 (by decide) (by omega) rfl rfl dL_law_1030 dL_law_1031 dL_law_1033 dL_law_1034 dL_law_1035 ?_
  refine l_callK dL_law_1036 ⟨cb_X11_like, ml_L_121, im_X11_like⟩ se_11_X11_like (ckf_X11_like e1) (ev_X11_like e1) ⟨Nat.le_of_ble_eq_true rfl, Nat.le_of_ble_eq_true rfl⟩ hc rfl (As := [.int (xs (6 * n + 1))]) rfl (st := []) rfl (Nat.le_of_ble_eq_true rfl) rfl ?_
  refine l_aload_n dL_law_1039 rfl ?_
  refine l_sc hS 1 (by decide) (by omega) rfl rfl dL_law_1040 dL_law_1041 dL_law_1043 dL_law_1044 dL_law_1045 ?_
  refine l_callK dL_law_1046 ⟨cb_X12_like, ml_L_124, im_X12_like⟩ se_12_X12_like (ckf_X12_like e2) (ev_X12_like e2) ⟨Nat.le_of_ble_eq_true rfl, Nat.le_of_ble_eq_true rfl⟩ hc rfl (As := [.int (xs (6 * n + 1))]) rfl (st := [.int v]) rfl (Nat.le_of_ble_eq_true rfl) rfl ?_
  exact l_icmp_eq dL_law_1049 (tgt := 1602) (by decide) (fun _ => K S2 R2) (fun z => absurd rfl z)
theorem lc_reach (hS : lwS G b L) (hi : 6 * n + 6 ≤ L) (hc : c.1 ≤ 601024 ∧ c.2 ≤ 7293034) (R : RR n (pj S)) (K : LWK G b L xs n c) : xa_L G M_L_law (lwP G b L xs) room_1 c.1 c.2 1054 (lwl n) [] (hp S c) (lwZ b) := by
  obtain ⟨v, S1, S2, e1, e2, R2⟩ := pr_reach (c := c) R (by have := hS.2.2; omega) (xs (6 * n + 1))
  refine l_aload_n dL_law_1054 rfl ?_
  refine l_sc hS 1 (by decide) (by omega) rfl rfl dL_law_1055 dL_law_1056 dL_law_1058 dL_law_1059 dL_law_1060 ?_
  refine l_callK dL_law_1061 ⟨cb_X11_reach, ml_L_125, im_X11_reach⟩ se_11_X11_reach (ckf_X11_reach e1) (ev_X11_reach e1) ⟨Nat.le_of_ble_eq_true rfl, Nat.le_of_ble_eq_true rfl⟩ hc rfl (As := [.int (xs (6 * n + 1))]) rfl (st := []) rfl (Nat.le_of_ble_eq_true rfl) rfl ?_
  refine l_aload_n dL_law_1064 rfl ?_
  refine l_sc hS 1 (by decide) (by omega) rfl rfl dL_law_1065 dL_law_1066 dL_law_1068 dL_law_1069 dL_law_1070 ?_
  refine l_callK dL_law_1071 ⟨cb_X12_reach, ml_L_128, im_X12_reach⟩ se_12_X12_reach (ckf_X12_reach e2) (ev_X12_reach e2) ⟨Nat.le_of_ble_eq_true rfl, Nat.le_of_ble_eq_true rfl⟩ hc rfl (As := [.int (xs (6 * n + 1))]) rfl (st := [.int v]) rfl (Nat.le_of_ble_eq_true rfl) rfl ?_
  exact l_icmp_eq dL_law_1074 (tgt := 1602) (by decide) (fun _ => K S2 R2) (fun z => absurd rfl z)
theorem lc_straight (hS : lwS G b L) (hi : 6 * n + 6 ≤ L) (hc : c.1 ≤ 601024 ∧ c.2 ≤ 7293034) (R : RR n (pj S)) (K : LWK G b L xs n c) : xa_L G M_L_law (lwP G b L xs) room_1 c.1 c.2 1079 (lwl n) [] (hp S c) (lwZ b) := by
  obtain ⟨v, S1, S2, e1, e2, R2⟩ := pr_straight (c := c) R (xs (6 * n + 1))
  refine l_aload_n dL_law_1079 rfl ?_
  refine l_sc hS 1 (by decide) (by omega) rfl rfl dL_law_1080 dL_law_1081 dL_law_1083 dL_law_1084 dL_law_1085 ?_
  refine l_callK dL_law_1086 ⟨cb_X11_straight, ml_L_129, im_X11_straight⟩ se_11_X11_straight (ckf_X11_straight e1) (ev_X11_straight e1) ⟨Nat.le_of_ble_eq_true rfl, Nat.le_of_ble_eq_true rfl⟩ hc rfl (As := [.int (xs (6 * n + 1))]) rfl (st := []) rfl (Nat.le_of_ble_eq_true rfl) rfl ?_
  refine l_aload_n dL_law_1089 rfl ?_
  refine l_sc hS 1 (by decide) (by omega) rfl rfl dL_law_1090 dL_law_1091 dL_law_1093 dL_law_1094 dL_law_1095 ?_
  refine l_callK dL_law_1096 ⟨cb_X12_straight, ml_L_132, im_X12_straight⟩ se_12_X12_straight (ckf_X12_straight e2) (ev_X12_straight e2) ⟨Nat.le_of_ble_eq_true rfl, Nat.le_of_ble_eq_true rfl⟩ hc rfl (As := [.int (xs (6 * n + 1))]) rfl (st := [.int v]) rfl (Nat.le_of_ble_eq_true rfl) rfl ?_
  exact l_icmp_eq dL_law_1099 (tgt := 1602) (by decide) (fun _ => K S2 R2) (fun z => absurd rfl z)
theorem lc_fewest (hS : lwS G b L) (hi : 6 * n + 6 ≤ L) (hc : c.1 ≤ 601024 ∧ c.2 ≤ 7293034) (R : RR n (pj S)) (K : LWK G b L xs n c) : xa_L G M_L_law (lwP G b L xs) room_1 c.1 c.2 1104 (lwl n) [] (hp S c) (lwZ b) := by
  obtain ⟨v, S1, S2, e1, e2, R2⟩ := pr_fewest (c := c) R (xs (6 * n + 1)) (xs (6 * n + 2))
  refine l_aload_n dL_law_1104 rfl ?_
  refine l_sc hS 1 (by decide) (by omega) rfl rfl dL_law_1105 dL_law_1106 dL_law_1108 dL_law_1109 dL_law_1110 ?_
  refine l_sc hS 2 (by decide) (by omega) rfl rfl dL_law_1111 dL_law_1112 dL_law_1114 dL_law_1115 dL_law_1116 ?_
  refine l_callK dL_law_1117 ⟨cb_X11_fewest, ml_L_133, im_X11_fewest⟩ se_11_X11_fewest (ckf_X11_fewest e1) (ev_X11_fewest e1) ⟨Nat.le_of_ble_eq_true rfl, Nat.le_of_ble_eq_true rfl⟩ hc rfl (As := [.int (xs (6 * n + 1)), .int (xs (6 * n + 2))]) rfl (st := []) rfl (Nat.le_of_ble_eq_true rfl) rfl ?_
  refine l_aload_n dL_law_1120 rfl ?_
  refine l_sc hS 1 (by decide) (by omega) rfl rfl dL_law_1121 dL_law_1122 dL_law_1124 dL_law_1125 dL_law_1126 ?_
  refine l_sc hS 2 (by decide) (by omega) rfl rfl dL_law_1127 dL_law_1128 dL_law_1130 dL_law_1131 dL_law_1132 ?_
  refine l_callK dL_law_1133 ⟨cb_X12_fewest, ml_L_136, im_X12_fewest⟩ se_12_X12_fewest (ckf_X12_fewest e2) (ev_X12_fewest e2) ⟨Nat.le_of_ble_eq_true rfl, Nat.le_of_ble_eq_true rfl⟩ hc rfl (As := [.int (xs (6 * n + 1)), .int (xs (6 * n + 2))]) rfl (st := [.int v]) rfl (Nat.le_of_ble_eq_true rfl) rfl ?_
  exact l_icmp_eq dL_law_1136 (tgt := 1602) (by decide) (fun _ => K S2 R2) (fun z => absurd rfl z)
theorem lc_ring (hS : lwS G b L) (hi : 6 * n + 6 ≤ L) (hc : c.1 ≤ 601024 ∧ c.2 ≤ 7293034) (R : RR n (pj S)) (K : LWK G b L xs n c) : xa_L G M_L_law (lwP G b L xs) room_1 c.1 c.2 1141 (lwl n) [] (hp S c) (lwZ b) := by
  obtain ⟨v, S2, e1, e2, R2⟩ := pr_ring (c := c) R 
  refine l_aload_n dL_law_1141 rfl ?_
  refine l_callK dL_law_1142 ⟨cb_X11_ring, ml_L_137, im_X11_ring⟩ se_11_X11_ring (ckf_X11_ring e1) (ev_X11_ring e1) ⟨Nat.le_of_ble_eq_true rfl, Nat.le_of_ble_eq_true rfl⟩ hc rfl (As := []) rfl (st := []) rfl (Nat.le_of_ble_eq_true rfl) rfl ?_
  refine l_aload_n dL_law_1145 rfl ?_
  refine l_callK dL_law_1146 ⟨cb_X12_ring, ml_L_140, im_X12_ring⟩ se_12_X12_ring (ckf_X12_ring e2) (ev_X12_ring e2) ⟨Nat.le_of_ble_eq_true rfl, Nat.le_of_ble_eq_true rfl⟩ hc rfl (As := []) rfl (st := [.int v]) rfl (Nat.le_of_ble_eq_true rfl) rfl ?_
  exact l_icmp_eq dL_law_1149 (tgt := 1602) (by decide) (fun _ => K S2 R2) (fun z => absurd rfl z)
theorem lc_chain (hS : lwS G b L) (hi : 6 * n + 6 ≤ L) (hc : c.1 ≤ 601024 ∧ c.2 ≤ 7293034) (R : RR n (pj S)) (K : LWK G b L xs n c) : xa_L G M_L_law (lwP G b L xs) room_1 c.1 c.2 1154 (lwl n) [] (hp S c) (lwZ b) := by
  obtain ⟨v, S2, e1, e2, R2⟩ := pr_chain (c := c) R (xs (6 * n + 1)) (xs (6 * n + 2))
  refine l_aload_n dL_law_1154 rfl ?_
  refine l_sc hS 1 (by decide) (by omega) rfl rfl dL_law_1155 dL_law_1156 dL_law_1158 dL_law_1159 dL_law_1160 ?_
  refine l_sc hS 2 (by decide) (by omega) rfl rfl dL_law_1161 dL_law_1162 dL_law_1164 dL_law_1165 dL_law_1166 ?_
  refine l_callK dL_law_1167 ⟨cb_X11_chain, ml_L_141, im_X11_chain⟩ se_11_X11_chain (ckf_X11_chain e1) (ev_X11_chain e1) ⟨Nat.le_of_ble_eq_true rfl, Nat.le_of_ble_eq_true rfl⟩ hc rfl (As := [.int (xs (6 * n + 1)), .int (xs (6 * n + 2))]) rfl (st := []) rfl (Nat.le_of_ble_eq_true rfl) rfl ?_
  refine l_aload_n dL_law_1170 rfl ?_
  refine l_sc hS 1 (by decide) (by omega) rfl rfl dL_law_1171 dL_law_1172 dL_law_1174 dL_law_1175 dL_law_1176 ?_
  refine l_sc hS 2 (by decide) (by omega) rfl rfl dL_law_1177 dL_law_1178 dL_law_1180 dL_law_1181 dL_law_1182 ?_
  refine l_callK dL_law_1183 ⟨cb_X12_chain, ml_L_144, im_X12_chain⟩ se_12_X12_chain (ckf_X12_chain e2) (ev_X12_chain e2) ⟨Nat.le_of_ble_eq_true rfl, Nat.le_of_ble_eq_true rfl⟩ hc rfl (As := [.int (xs (6 * n + 1)), .int (xs (6 * n + 2))]) rfl (st := [.int v]) rfl (Nat.le_of_ble_eq_true rfl) rfl ?_
  exact l_icmp_eq dL_law_1186 (tgt := 1602) (by decide) (fun _ => K S2 R2) (fun z => absurd rfl z)
theorem lc_seen (hS : lwS G b L) (hi : 6 * n + 6 ≤ L) (hc : c.1 ≤ 601024 ∧ c.2 ≤ 7293034) (R : RR n (pj S)) (K : LWK G b L xs n c) : xa_L G M_L_law (lwP G b L xs) room_1 c.1 c.2 1191 (lwl n) [] (hp S c) (lwZ b) := by
  obtain ⟨v, S1, S2, e1, e2, R2⟩ := pr_seen (c := c) R (xs (6 * n + 1)) (xs (6 * n + 2)) (xs (6 * n + 3)) (xs (6 * n + 4)) (!decide (xs (6 * n + 5) = 0))
  refine l_aload_n dL_law_1191 rfl ?_
  refine l_sc hS 1 (by decide) (by omega) rfl rfl dL_law_1192 dL_law_1193 dL_law_1195 dL_law_1196 dL_law_1197 ?_
  refine l_sc hS 2 (by decide) (by omega) rfl rfl dL_law_1198 dL_law_1199 dL_law_1201 dL_law_1202 dL_law_1203 ?_
  refine l_sc hS 3 (by decide) (by omega) rfl rfl dL_law_1204 dL_law_1205 dL_law_1207 dL_law_1208 dL_law_1209 ?_
  refine l_sc hS 4 (by decide) (by omega) rfl rfl dL_law_1210 dL_law_1211 dL_law_1213 dL_law_1214 dL_law_1215 ?_
  refine l_sc hS 5 (by decide) (by omega) rfl rfl dL_law_1216 dL_law_1217 dL_law_1219 dL_law_1220 dL_law_1221 ?_
  refine l_nz dL_law_1222 dL_law_1225 dL_law_1226 dL_law_1229 ?_
  refine l_callK dL_law_1230 ⟨cb_X11_seen, ml_L_145, im_X11_seen⟩ se_11_X11_seen (ckf_X11_seen e1) (ev_X11_seen e1) ⟨Nat.le_of_ble_eq_true rfl, Nat.le_of_ble_eq_true rfl⟩ hc rfl (As := [.int (xs (6 * n + 1)), .int (xs (6 * n + 2)), .int (xs (6 * n + 3)), .int (xs (6 * n + 4)), .int (bI (!decide (xs (6 * n + 5) = 0)))]) rfl (st := []) rfl (Nat.le_of_ble_eq_true rfl) rfl ?_
  refine l_aload_n dL_law_1233 rfl ?_
  refine l_sc hS 1 (by decide) (by omega) rfl rfl dL_law_1234 dL_law_1235 dL_law_1237 dL_law_1238 dL_law_1239 ?_
  refine l_sc hS 2 (by decide) (by omega) rfl rfl dL_law_1240 dL_law_1241 dL_law_1243 dL_law_1244 dL_law_1245 ?_
  refine l_sc hS 3 (by decide) (by omega) rfl rfl dL_law_1246 dL_law_1247 dL_law_1249 dL_law_1250 dL_law_1251 ?_
  refine l_sc hS 4 (by decide) (by omega) rfl rfl dL_law_1252 dL_law_1253 dL_law_1255 dL_law_1256 dL_law_1257 ?_
  refine l_sc hS 5 (by decide) (by omega) rfl rfl dL_law_1258 dL_law_1259 dL_law_1261 dL_law_1262 dL_law_1263 ?_
  refine l_nz dL_law_1264 dL_law_1267 dL_law_1268 dL_law_1271 ?_
  refine l_callK dL_law_1272 ⟨cb_X12_seen, ml_L_149, im_X12_seen⟩ se_12_X12_seen (ckf_X12_seen e2) (ev_X12_seen e2) ⟨Nat.le_of_ble_eq_true rfl, Nat.le_of_ble_eq_true rfl⟩ hc rfl (As := [.int (xs (6 * n + 1)), .int (xs (6 * n + 2)), .int (xs (6 * n + 3)), .int (xs (6 * n + 4)), .int (bI (!decide (xs (6 * n + 5) = 0)))]) rfl (st := [.int v]) rfl (Nat.le_of_ble_eq_true rfl) rfl ?_
  exact l_icmp_eq dL_law_1275 (tgt := 1602) (by decide) (fun _ => K S2 R2) (fun z => absurd rfl z)
theorem lc_fits (hS : lwS G b L) (hi : 6 * n + 6 ≤ L) (hc : c.1 ≤ 601024 ∧ c.2 ≤ 7293034) (R : RR n (pj S)) (K : LWK G b L xs n c) : xa_L G M_L_law (lwP G b L xs) room_1 c.1 c.2 1280 (lwl n) [] (hp S c) (lwZ b) := by
  obtain ⟨v, S1, S2, e1, e2, R2⟩ := pr_fits (c := c) R 
  refine l_aload_n dL_law_1280 rfl ?_
  refine l_callK dL_law_1281 ⟨cb_X11_fits, ml_L_150, im_X11_fits⟩ se_11_X11_fits (ckf_X11_fits e1) (ev_X11_fits e1) ⟨Nat.le_of_ble_eq_true rfl, Nat.le_of_ble_eq_true rfl⟩ hc rfl (As := []) rfl (st := []) rfl (Nat.le_of_ble_eq_true rfl) rfl ?_
  refine l_aload_n dL_law_1284 rfl ?_
  refine l_callK dL_law_1285 ⟨cb_X12_fits, ml_L_153, im_X12_fits⟩ se_12_X12_fits (ckf_X12_fits e2) (ev_X12_fits e2) ⟨Nat.le_of_ble_eq_true rfl, Nat.le_of_ble_eq_true rfl⟩ hc rfl (As := []) rfl (st := [.int v]) rfl (Nat.le_of_ble_eq_true rfl) rfl ?_
  exact l_icmp_eq dL_law_1288 (tgt := 1602) (by decide) (fun _ => K S2 R2) (fun z => absurd rfl z)
theorem lc_ask (hS : lwS G b L) (hi : 6 * n + 6 ≤ L) (hc : c.1 ≤ 601024 ∧ c.2 ≤ 7293034) (R : RR n (pj S)) (K : LWK G b L xs n c) : xa_L G M_L_law (lwP G b L xs) room_1 c.1 c.2 1293 (lwl n) [] (hp S c) (lwZ b) := by
  obtain ⟨v, S1, S2, e1, e2, R2⟩ := pr_ask (c := c) R (xs (6 * n + 1)) (xs (6 * n + 2))
  refine l_aload_n dL_law_1293 rfl ?_
  refine l_sc hS 1 (by decide) (by omega) rfl rfl dL_law_1294 dL_law_1295 dL_law_1297 dL_law_1298 dL_law_1299 ?_
  refine l_sc hS 2 (by decide) (by omega) rfl rfl dL_law_1300 dL_law_1301 dL_law_1303 dL_law_1304 dL_law_1305 ?_
  refine l_callK dL_law_1306 ⟨cb_X11_ask, ml_L_154, im_X11_ask⟩ se_11_X11_ask (ckf_X11_ask e1) (ev_X11_ask e1) ⟨Nat.le_of_ble_eq_true rfl, Nat.le_of_ble_eq_true rfl⟩ hc rfl (As := [.int (xs (6 * n + 1)), .int (xs (6 * n + 2))]) rfl (st := []) rfl (Nat.le_of_ble_eq_true rfl) rfl ?_
  refine l_aload_n dL_law_1309 rfl ?_
  refine l_sc hS 1 (by decide) (by omega) rfl rfl dL_law_1310 dL_law_1311 dL_law_1313 dL_law_1314 dL_law_1315 ?_
  refine l_sc hS 2 (by decide) (by omega) rfl rfl dL_law_1316 dL_law_1317 dL_law_1319 dL_law_1320 dL_law_1321 ?_
  refine l_callK dL_law_1322 ⟨cb_X12_ask, ml_L_157, im_X12_ask⟩ se_12_X12_ask (ckf_X12_ask e2) (ev_X12_ask e2) ⟨Nat.le_of_ble_eq_true rfl, Nat.le_of_ble_eq_true rfl⟩ hc rfl (As := [.int (xs (6 * n + 1)), .int (xs (6 * n + 2))]) rfl (st := [.int v]) rfl (Nat.le_of_ble_eq_true rfl) rfl ?_
  exact l_icmp_eq dL_law_1325 (tgt := 1602) (by decide) (fun _ => K S2 R2) (fun z => absurd rfl z)
theorem lc_game (hS : lwS G b L) (hi : 6 * n + 6 ≤ L) (hc : c.1 ≤ 601024 ∧ c.2 ≤ 7293034) (R : RR n (pj S)) (K : LWK G b L xs n c) : xa_L G M_L_law (lwP G b L xs) room_1 c.1 c.2 1330 (lwl n) [] (hp S c) (lwZ b) := by
  obtain ⟨v, S1, S2, e1, e2, R2⟩ := pr_game (c := c) R (xs (6 * n + 1)) (xs (6 * n + 2)) (xs (6 * n + 3)) (xs (6 * n + 4)) (xs (6 * n + 5))
  refine l_aload_n dL_law_1330 rfl ?_
  refine l_sc hS 1 (by decide) (by omega) rfl rfl dL_law_1331 dL_law_1332 dL_law_1334 dL_law_1335 dL_law_1336 ?_
  refine l_sc hS 2 (by decide) (by omega) rfl rfl dL_law_1337 dL_law_1338 dL_law_1340 dL_law_1341 dL_law_1342 ?_
  refine l_sc hS 3 (by decide) (by omega) rfl rfl dL_law_1343 dL_law_1344 dL_law_1346 dL_law_1347 dL_law_1348 ?_
  refine l_sc hS 4 (by decide) (by omega) rfl rfl dL_law_1349 dL_law_1350 dL_law_1352 dL_law_1353 dL_law_1354 ?_
  refine l_sc hS 5 (by decide) (by omega) rfl rfl dL_law_1355 dL_law_1356 dL_law_1358 dL_law_1359 dL_law_1360 ?_
  refine l_callK dL_law_1361 ⟨cb_X11_game, ml_L_158, im_X11_game⟩ se_11_X11_game (ckf_X11_game e1) (ev_X11_game e1) ⟨Nat.le_of_ble_eq_true rfl, Nat.le_of_ble_eq_true rfl⟩ hc rfl (As := [.int (xs (6 * n + 1)), .int (xs (6 * n + 2)), .int (xs (6 * n + 3)), .int (xs (6 * n + 4)), .int (xs (6 * n + 5))]) rfl (st := []) rfl (Nat.le_of_ble_eq_true rfl) rfl ?_
  refine l_aload_n dL_law_1364 rfl ?_
  refine l_sc hS 1 (by decide) (by omega) rfl rfl dL_law_1365 dL_law_1366 dL_law_1368 dL_law_1369 dL_law_1370 ?_
  refine l_sc hS 2 (by decide) (by omega) rfl rfl dL_law_1371 dL_law_1372 dL_law_1374 dL_law_1375 dL_law_1376 ?_
  refine l_sc hS 3 (by decide) (by omega) rfl rfl dL_law_1377 dL_law_1378 dL_law_1380 dL_law_1381 dL_law_1382 ?_
  refine l_sc hS 4 (by decide) (by omega) rfl rfl dL_law_1383 dL_law_1384 dL_law_1386 dL_law_1387 dL_law_1388 ?_
  refine l_sc hS 5 (by decide) (by omega) rfl rfl dL_law_1389 dL_law_1390 dL_law_1392 dL_law_1393 dL_law_1394 ?_
  refine l_callK dL_law_1395 ⟨cb_X12_game, ml_L_161, im_X12_game⟩ se_12_X12_game (ckf_X12_game e2) (ev_X12_game e2) ⟨Nat.le_of_ble_eq_true rfl, Nat.le_of_ble_eq_true rfl⟩ hc rfl (As := [.int (xs (6 * n + 1)), .int (xs (6 * n + 2)), .int (xs (6 * n + 3)), .int (xs (6 * n + 4)), .int (xs (6 * n + 5))]) rfl (st := [.int v]) rfl (Nat.le_of_ble_eq_true rfl) rfl ?_
  exact l_icmp_eq dL_law_1398 (tgt := 1602) (by decide) (fun _ => K S2 R2) (fun z => absurd rfl z)
theorem lc_rests (hS : lwS G b L) (hi : 6 * n + 6 ≤ L) (hc : c.1 ≤ 601024 ∧ c.2 ≤ 7293034) (R : RR n (pj S)) (K : LWK G b L xs n c) : xa_L G M_L_law (lwP G b L xs) room_1 c.1 c.2 1403 (lwl n) [] (hp S c) (lwZ b) := by
  obtain ⟨v, S1, S2, e1, e2, R2⟩ := pr_rests (c := c) R (xs (6 * n + 1)) (xs (6 * n + 2)) (xs (6 * n + 3))
  refine l_aload_n dL_law_1403 rfl ?_
  refine l_sc hS 1 (by decide) (by omega) rfl rfl dL_law_1404 dL_law_1405 dL_law_1407 dL_law_1408 dL_law_1409 ?_
  refine l_sc hS 2 (by decide) (by omega) rfl rfl dL_law_1410 dL_law_1411 dL_law_1413 dL_law_1414 dL_law_1415 ?_
  refine l_sc hS 3 (by decide) (by omega) rfl rfl dL_law_1416 dL_law_1417 dL_law_1419 dL_law_1420 dL_law_1421 ?_
  refine l_callK dL_law_1422 ⟨cb_X11_rests, ml_L_162, im_X11_rests⟩ se_11_X11_rests (ckf_X11_rests e1) (ev_X11_rests e1) ⟨Nat.le_of_ble_eq_true rfl, Nat.le_of_ble_eq_true rfl⟩ hc rfl (As := [.int (xs (6 * n + 1)), .int (xs (6 * n + 2)), .int (xs (6 * n + 3))]) rfl (st := []) rfl (Nat.le_of_ble_eq_true rfl) rfl ?_
  refine l_aload_n dL_law_1425 rfl ?_
  refine l_sc hS 1 (by decide) (by omega) rfl rfl dL_law_1426 dL_law_1427 dL_law_1429 dL_law_1430 dL_law_1431 ?_
  refine l_sc hS 2 (by decide) (by omega) rfl rfl dL_law_1432 dL_law_1433 dL_law_1435 dL_law_1436 dL_law_1437 ?_
  refine l_sc hS 3 (by decide) (by omega) rfl rfl dL_law_1438 dL_law_1439 dL_law_1441 dL_law_1442 dL_law_1443 ?_
  refine l_callK dL_law_1444 ⟨cb_X12_rests, ml_L_165, im_X12_rests⟩ se_12_X12_rests (ckf_X12_rests e2) (ev_X12_rests e2) ⟨Nat.le_of_ble_eq_true rfl, Nat.le_of_ble_eq_true rfl⟩ hc rfl (As := [.int (xs (6 * n + 1)), .int (xs (6 * n + 2)), .int (xs (6 * n + 3))]) rfl (st := [.int v]) rfl (Nat.le_of_ble_eq_true rfl) rfl ?_
  exact l_icmp_eq dL_law_1447 (tgt := 1602) (by decide) (fun _ => K S2 R2) (fun z => absurd rfl z)
theorem lc_odds (hS : lwS G b L) (hi : 6 * n + 6 ≤ L) (hc : c.1 ≤ 601024 ∧ c.2 ≤ 7293034) (R : RR n (pj S)) (K : LWK G b L xs n c) : xa_L G M_L_law (lwP G b L xs) room_1 c.1 c.2 1452 (lwl n) [] (hp S c) (lwZ b) := by
  obtain ⟨v, S1, S2, e1, e2, R2⟩ := pr_odds (c := c) R (xs (6 * n + 1)) (xs (6 * n + 2))
  refine l_aload_n dL_law_1452 rfl ?_
  refine l_sc hS 1 (by decide) (by omega) rfl rfl dL_law_1453 dL_law_1454 dL_law_1456 dL_law_1457 dL_law_1458 ?_
  refine l_sc hS 2 (by decide) (by omega) rfl rfl dL_law_1459 dL_law_1460 dL_law_1462 dL_law_1463 dL_law_1464 ?_
  refine l_callK dL_law_1465 ⟨cb_X11_odds, ml_L_166, im_X11_odds⟩ se_11_X11_odds (ckf_X11_odds e1) (ev_X11_odds e1) ⟨Nat.le_of_ble_eq_true rfl, Nat.le_of_ble_eq_true rfl⟩ hc rfl (As := [.int (xs (6 * n + 1)), .int (xs (6 * n + 2))]) rfl (st := []) rfl (Nat.le_of_ble_eq_true rfl) rfl ?_
  refine l_aload_n dL_law_1468 rfl ?_
  refine l_sc hS 1 (by decide) (by omega) rfl rfl dL_law_1469 dL_law_1470 dL_law_1472 dL_law_1473 dL_law_1474 ?_
  refine l_sc hS 2 (by decide) (by omega) rfl rfl dL_law_1475 dL_law_1476 dL_law_1478 dL_law_1479 dL_law_1480 ?_
  refine l_callK dL_law_1481 ⟨cb_X12_odds, ml_L_169, im_X12_odds⟩ se_12_X12_odds (ckf_X12_odds e2) (ev_X12_odds e2) ⟨Nat.le_of_ble_eq_true rfl, Nat.le_of_ble_eq_true rfl⟩ hc rfl (As := [.int (xs (6 * n + 1)), .int (xs (6 * n + 2))]) rfl (st := [.int v]) rfl (Nat.le_of_ble_eq_true rfl) rfl ?_
  exact l_icmp_eq dL_law_1484 (tgt := 1602) (by decide) (fun _ => K S2 R2) (fun z => absurd rfl z)
theorem lc_shares (hS : lwS G b L) (hi : 6 * n + 6 ≤ L) (hc : c.1 ≤ 601024 ∧ c.2 ≤ 7293034) (R : RR n (pj S)) (K : LWK G b L xs n c) : xa_L G M_L_law (lwP G b L xs) room_1 c.1 c.2 1489 (lwl n) [] (hp S c) (lwZ b) := by
  obtain ⟨v, S2, e1, e2, R2⟩ := pr_shares (c := c) R (xs (6 * n + 1)) (xs (6 * n + 2))
  refine l_aload_n dL_law_1489 rfl ?_
  refine l_sc hS 1 (by decide) (by omega) rfl rfl dL_law_1490 dL_law_1491 dL_law_1493 dL_law_1494 dL_law_1495 ?_
  refine l_sc hS 2 (by decide) (by omega) rfl rfl dL_law_1496 dL_law_1497 dL_law_1499 dL_law_1500 dL_law_1501 ?_
  refine l_callK dL_law_1502 ⟨cb_X11_shares, ml_L_170, im_X11_shares⟩ se_11_X11_shares (ckf_X11_shares e1) (ev_X11_shares e1) ⟨Nat.le_of_ble_eq_true rfl, Nat.le_of_ble_eq_true rfl⟩ hc rfl (As := [.int (xs (6 * n + 1)), .int (xs (6 * n + 2))]) rfl (st := []) rfl (Nat.le_of_ble_eq_true rfl) rfl ?_
  refine l_aload_n dL_law_1505 rfl ?_
  refine l_sc hS 1 (by decide) (by omega) rfl rfl dL_law_1506 dL_law_1507 dL_law_1509 dL_law_1510 dL_law_1511 ?_
  refine l_sc hS 2 (by decide) (by omega) rfl rfl dL_law_1512 dL_law_1513 dL_law_1515 dL_law_1516 dL_law_1517 ?_
  refine l_callK dL_law_1518 ⟨cb_X12_shares, ml_L_173, im_X12_shares⟩ se_12_X12_shares (ckf_X12_shares e2) (ev_X12_shares e2) ⟨Nat.le_of_ble_eq_true rfl, Nat.le_of_ble_eq_true rfl⟩ hc rfl (As := [.int (xs (6 * n + 1)), .int (xs (6 * n + 2))]) rfl (st := [.int v]) rfl (Nat.le_of_ble_eq_true rfl) rfl ?_
  exact l_icmp_eq dL_law_1521 (tgt := 1602) (by decide) (fun _ => K S2 R2) (fun z => absurd rfl z)
theorem lc_all (hS : lwS G b L) (hi : 6 * n + 6 ≤ L) (hc : c.1 ≤ 601024 ∧ c.2 ≤ 7293034) (R : RR n (pj S)) (K : LWK G b L xs n c) : xa_L G M_L_law (lwP G b L xs) room_1 c.1 c.2 1526 (lwl n) [] (hp S c) (lwZ b) := by
  obtain ⟨v, S2, e1, e2, R2⟩ := pr_all (c := c) R (xs (6 * n + 1))
  refine l_aload_n dL_law_1526 rfl ?_
  refine l_sc hS 1 (by decide) (by omega) rfl rfl dL_law_1527 dL_law_1528 dL_law_1530 dL_law_1531 dL_law_1532 ?_
  refine l_callK dL_law_1533 ⟨cb_X11_all, ml_L_174, im_X11_all⟩ se_11_X11_all (ckf_X11_all e1) (ev_X11_all e1) ⟨Nat.le_of_ble_eq_true rfl, Nat.le_of_ble_eq_true rfl⟩ hc rfl (As := [.int (xs (6 * n + 1))]) rfl (st := []) rfl (Nat.le_of_ble_eq_true rfl) rfl ?_
  refine l_aload_n dL_law_1536 rfl ?_
  refine l_sc hS 1 (by decide) (by omega) rfl rfl dL_law_1537 dL_law_1538 dL_law_1540 dL_law_1541 dL_law_1542 ?_
  refine l_callK dL_law_1543 ⟨cb_X12_all, ml_L_177, im_X12_all⟩ se_12_X12_all (ckf_X12_all e2) (ev_X12_all e2) ⟨Nat.le_of_ble_eq_true rfl, Nat.le_of_ble_eq_true rfl⟩ hc rfl (As := [.int (xs (6 * n + 1))]) rfl (st := [.int v]) rfl (Nat.le_of_ble_eq_true rfl) rfl ?_
  exact l_icmp_eq dL_law_1546 (tgt := 1602) (by decide) (fun _ => K S2 R2) (fun z => absurd rfl z)
theorem lc_image (hS : lwS G b L) (hi : 6 * n + 6 ≤ L) (hc : c.1 ≤ 601024 ∧ c.2 ≤ 7293034) (R : RR n (pj S)) (K : LWK G b L xs n c) : xa_L G M_L_law (lwP G b L xs) room_1 c.1 c.2 1551 (lwl n) [] (hp S c) (lwZ b) := by
  obtain ⟨v, S1, S2, e1, e2, R2⟩ := pr_image (c := c) R 
  refine l_aload_n dL_law_1551 rfl ?_
  refine l_callK dL_law_1552 ⟨cb_X11_image, ml_L_178, im_X11_image⟩ se_11_X11_image (ckf_X11_image e1) (ev_X11_image e1) ⟨Nat.le_of_ble_eq_true rfl, Nat.le_of_ble_eq_true rfl⟩ hc rfl (As := []) rfl (st := []) rfl (Nat.le_of_ble_eq_true rfl) rfl ?_
  refine l_aload_n dL_law_1555 rfl ?_
  refine l_callK dL_law_1556 ⟨cb_X12_image, ml_L_181, im_X12_image⟩ se_12_X12_image (ckf_X12_image e2) (ev_X12_image e2) ⟨Nat.le_of_ble_eq_true rfl, Nat.le_of_ble_eq_true rfl⟩ hc rfl (As := []) rfl (st := [.int v]) rfl (Nat.le_of_ble_eq_true rfl) rfl ?_
  exact l_icmp_eq dL_law_1559 (tgt := 1602) (by decide) (fun _ => K S2 R2) (fun z => absurd rfl z)
theorem lc_back (hS : lwS G b L) (hi : 6 * n + 6 ≤ L) (hc : c.1 ≤ 601024 ∧ c.2 ≤ 7293034) (R : RR n (pj S)) (K : LWK G b L xs n c) : xa_L G M_L_law (lwP G b L xs) room_1 c.1 c.2 1564 (lwl n) [] (hp S c) (lwZ b) := by
  obtain ⟨v, S1, S2, e1, e2, R2⟩ := pr_back (c := c) R 
  refine l_aload_n dL_law_1564 rfl ?_
  refine l_callK dL_law_1565 ⟨cb_X11_back, ml_L_182, im_X11_back⟩ se_11_X11_back (ckf_X11_back e1) (ev_X11_back e1) ⟨Nat.le_of_ble_eq_true rfl, Nat.le_of_ble_eq_true rfl⟩ hc rfl (As := []) rfl (st := []) rfl (Nat.le_of_ble_eq_true rfl) rfl ?_
  refine l_aload_n dL_law_1568 rfl ?_
  refine l_callK dL_law_1569 ⟨cb_X12_back, ml_L_185, im_X12_back⟩ se_12_X12_back (ckf_X12_back e2) (ev_X12_back e2) ⟨Nat.le_of_ble_eq_true rfl, Nat.le_of_ble_eq_true rfl⟩ hc rfl (As := []) rfl (st := [.int v]) rfl (Nat.le_of_ble_eq_true rfl) rfl ?_
  exact l_icmp_eq dL_law_1572 (tgt := 1602) (by decide) (fun _ => K S2 R2) (fun z => absurd rfl z)
theorem lc_count (hS : lwS G b L) (hi : 6 * n + 6 ≤ L) (hc : c.1 ≤ 601024 ∧ c.2 ≤ 7293034) (R : RR n (pj S)) (K : LWK G b L xs n c) : xa_L G M_L_law (lwP G b L xs) room_1 c.1 c.2 1577 (lwl n) [] (hp S c) (lwZ b) := by
  obtain ⟨v, S2, e1, e2, R2⟩ := pr_count (c := c) R (xs (6 * n + 1))
  refine l_aload_n dL_law_1577 rfl ?_
  refine l_sc hS 1 (by decide) (by omega) rfl rfl dL_law_1578 dL_law_1579 dL_law_1581 dL_law_1582 dL_law_1583 ?_
  refine l_callK dL_law_1584 ⟨cb_X11_count, ml_L_186, im_X11_count⟩ se_11_X11_count (ckf_X11_count e1) (ev_X11_count e1) ⟨Nat.le_of_ble_eq_true rfl, Nat.le_of_ble_eq_true rfl⟩ hc rfl (As := [.int (xs (6 * n + 1))]) rfl (st := []) rfl (Nat.le_of_ble_eq_true rfl) rfl ?_
  refine l_aload_n dL_law_1587 rfl ?_
  refine l_sc hS 1 (by decide) (by omega) rfl rfl dL_law_1588 dL_law_1589 dL_law_1591 dL_law_1592 dL_law_1593 ?_
  refine l_callK dL_law_1594 ⟨cb_X12_count, ml_L_189, im_X12_count⟩ se_12_X12_count (ckf_X12_count e2) (ev_X12_count e2) ⟨Nat.le_of_ble_eq_true rfl, Nat.le_of_ble_eq_true rfl⟩ hc rfl (As := [.int (xs (6 * n + 1))]) rfl (st := [.int v]) rfl (Nat.le_of_ble_eq_true rfl) rfl ?_
  exact l_icmp_eq dL_law_1597 (tgt := 1602) (by decide) (fun _ => K S2 R2) (fun z => absurd rfl z)
end LC
