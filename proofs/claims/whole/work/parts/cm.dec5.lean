theorem dL_law_1070 : decode cL_law 1070 = .ok (.iaload, 1) := by decide +kernel
theorem dL_law_1071 : decode cL_law 1071 = .ok (.invokevirtual 128, 3) := by decide +kernel
theorem dL_law_1074 : decode cL_law 1074 = .ok (.if_icmp .eq 528, 3) := by decide +kernel
theorem dL_law_1077 : decode cL_law 1077 = .ok (.iconst 0, 1) := by decide +kernel
theorem dL_law_1078 : decode cL_law 1078 = .ok (.ireturn, 1) := by decide +kernel
theorem dL_law_1079 : decode cL_law 1079 = .ok (.aload_n 1, 1) := by decide +kernel
theorem dL_law_1080 : decode cL_law 1080 = .ok (.aload_n 0, 1) := by decide +kernel
theorem dL_law_1081 : decode cL_law 1081 = .ok (.iload 4, 2) := by decide +kernel
theorem dL_law_1083 : decode cL_law 1083 = .ok (.iconst 1, 1) := by decide +kernel
theorem dL_law_1084 : decode cL_law 1084 = .ok (.iadd, 1) := by decide +kernel
theorem dL_law_1085 : decode cL_law 1085 = .ok (.iaload, 1) := by decide +kernel
theorem dL_law_1086 : decode cL_law 1086 = .ok (.invokevirtual 129, 3) := by decide +kernel
theorem dL_law_1089 : decode cL_law 1089 = .ok (.aload_n 2, 1) := by decide +kernel
theorem dL_law_1090 : decode cL_law 1090 = .ok (.aload_n 0, 1) := by decide +kernel
theorem dL_law_1091 : decode cL_law 1091 = .ok (.iload 4, 2) := by decide +kernel
theorem dL_law_1093 : decode cL_law 1093 = .ok (.iconst 1, 1) := by decide +kernel
theorem dL_law_1094 : decode cL_law 1094 = .ok (.iadd, 1) := by decide +kernel
theorem dL_law_1095 : decode cL_law 1095 = .ok (.iaload, 1) := by decide +kernel
theorem dL_law_1096 : decode cL_law 1096 = .ok (.invokevirtual 132, 3) := by decide +kernel
theorem dL_law_1099 : decode cL_law 1099 = .ok (.if_icmp .eq 503, 3) := by decide +kernel
theorem dL_law_1102 : decode cL_law 1102 = .ok (.iconst 0, 1) := by decide +kernel
theorem dL_law_1103 : decode cL_law 1103 = .ok (.ireturn, 1) := by decide +kernel
theorem dL_law_1104 : decode cL_law 1104 = .ok (.aload_n 1, 1) := by decide +kernel
theorem dL_law_1105 : decode cL_law 1105 = .ok (.aload_n 0, 1) := by decide +kernel
theorem dL_law_1106 : decode cL_law 1106 = .ok (.iload 4, 2) := by decide +kernel
theorem dL_law_1108 : decode cL_law 1108 = .ok (.iconst 1, 1) := by decide +kernel
theorem dL_law_1109 : decode cL_law 1109 = .ok (.iadd, 1) := by decide +kernel
theorem dL_law_1110 : decode cL_law 1110 = .ok (.iaload, 1) := by decide +kernel
theorem dL_law_1111 : decode cL_law 1111 = .ok (.aload_n 0, 1) := by decide +kernel
theorem dL_law_1112 : decode cL_law 1112 = .ok (.iload 4, 2) := by decide +kernel
theorem dL_law_1114 : decode cL_law 1114 = .ok (.iconst 2, 1) := by decide +kernel
theorem dL_law_1115 : decode cL_law 1115 = .ok (.iadd, 1) := by decide +kernel
theorem dL_law_1116 : decode cL_law 1116 = .ok (.iaload, 1) := by decide +kernel
theorem dL_law_1117 : decode cL_law 1117 = .ok (.invokevirtual 133, 3) := by decide +kernel
theorem dL_law_1120 : decode cL_law 1120 = .ok (.aload_n 2, 1) := by decide +kernel
theorem dL_law_1121 : decode cL_law 1121 = .ok (.aload_n 0, 1) := by decide +kernel
theorem dL_law_1122 : decode cL_law 1122 = .ok (.iload 4, 2) := by decide +kernel
theorem dL_law_1124 : decode cL_law 1124 = .ok (.iconst 1, 1) := by decide +kernel
theorem dL_law_1125 : decode cL_law 1125 = .ok (.iadd, 1) := by decide +kernel
theorem dL_law_1126 : decode cL_law 1126 = .ok (.iaload, 1) := by decide +kernel
theorem dL_law_1127 : decode cL_law 1127 = .ok (.aload_n 0, 1) := by decide +kernel
theorem dL_law_1128 : decode cL_law 1128 = .ok (.iload 4, 2) := by decide +kernel
theorem dL_law_1130 : decode cL_law 1130 = .ok (.iconst 2, 1) := by decide +kernel
theorem dL_law_1131 : decode cL_law 1131 = .ok (.iadd, 1) := by decide +kernel
theorem dL_law_1132 : decode cL_law 1132 = .ok (.iaload, 1) := by decide +kernel
theorem dL_law_1133 : decode cL_law 1133 = .ok (.invokevirtual 136, 3) := by decide +kernel
theorem dL_law_1136 : decode cL_law 1136 = .ok (.if_icmp .eq 466, 3) := by decide +kernel
theorem dL_law_1139 : decode cL_law 1139 = .ok (.iconst 0, 1) := by decide +kernel
theorem dL_law_1140 : decode cL_law 1140 = .ok (.ireturn, 1) := by decide +kernel
theorem dL_law_1141 : decode cL_law 1141 = .ok (.aload_n 1, 1) := by decide +kernel
theorem dL_law_1142 : decode cL_law 1142 = .ok (.invokevirtual 137, 3) := by decide +kernel
theorem dL_law_1145 : decode cL_law 1145 = .ok (.aload_n 2, 1) := by decide +kernel
theorem dL_law_1146 : decode cL_law 1146 = .ok (.invokevirtual 140, 3) := by decide +kernel
theorem dL_law_1149 : decode cL_law 1149 = .ok (.if_icmp .eq 453, 3) := by decide +kernel
theorem dL_law_1152 : decode cL_law 1152 = .ok (.iconst 0, 1) := by decide +kernel
theorem dL_law_1153 : decode cL_law 1153 = .ok (.ireturn, 1) := by decide +kernel
theorem dL_law_1154 : decode cL_law 1154 = .ok (.aload_n 1, 1) := by decide +kernel
theorem dL_law_1155 : decode cL_law 1155 = .ok (.aload_n 0, 1) := by decide +kernel
theorem dL_law_1156 : decode cL_law 1156 = .ok (.iload 4, 2) := by decide +kernel
theorem dL_law_1158 : decode cL_law 1158 = .ok (.iconst 1, 1) := by decide +kernel
theorem dL_law_1159 : decode cL_law 1159 = .ok (.iadd, 1) := by decide +kernel
theorem dL_law_1160 : decode cL_law 1160 = .ok (.iaload, 1) := by decide +kernel
theorem dL_law_1161 : decode cL_law 1161 = .ok (.aload_n 0, 1) := by decide +kernel
theorem dL_law_1162 : decode cL_law 1162 = .ok (.iload 4, 2) := by decide +kernel
theorem dL_law_1164 : decode cL_law 1164 = .ok (.iconst 2, 1) := by decide +kernel
theorem dL_law_1165 : decode cL_law 1165 = .ok (.iadd, 1) := by decide +kernel
theorem dL_law_1166 : decode cL_law 1166 = .ok (.iaload, 1) := by decide +kernel
theorem dL_law_1167 : decode cL_law 1167 = .ok (.invokevirtual 141, 3) := by decide +kernel
theorem dL_law_1170 : decode cL_law 1170 = .ok (.aload_n 2, 1) := by decide +kernel
theorem dL_law_1171 : decode cL_law 1171 = .ok (.aload_n 0, 1) := by decide +kernel
theorem dL_law_1172 : decode cL_law 1172 = .ok (.iload 4, 2) := by decide +kernel
theorem dL_law_1174 : decode cL_law 1174 = .ok (.iconst 1, 1) := by decide +kernel
theorem dL_law_1175 : decode cL_law 1175 = .ok (.iadd, 1) := by decide +kernel
theorem dL_law_1176 : decode cL_law 1176 = .ok (.iaload, 1) := by decide +kernel
theorem dL_law_1177 : decode cL_law 1177 = .ok (.aload_n 0, 1) := by decide +kernel
theorem dL_law_1178 : decode cL_law 1178 = .ok (.iload 4, 2) := by decide +kernel
theorem dL_law_1180 : decode cL_law 1180 = .ok (.iconst 2, 1) := by decide +kernel
theorem dL_law_1181 : decode cL_law 1181 = .ok (.iadd, 1) := by decide +kernel
theorem dL_law_1182 : decode cL_law 1182 = .ok (.iaload, 1) := by decide +kernel
theorem dL_law_1183 : decode cL_law 1183 = .ok (.invokevirtual 144, 3) := by decide +kernel
theorem dL_law_1186 : decode cL_law 1186 = .ok (.if_icmp .eq 416, 3) := by decide +kernel
theorem dL_law_1189 : decode cL_law 1189 = .ok (.iconst 0, 1) := by decide +kernel
theorem dL_law_1190 : decode cL_law 1190 = .ok (.ireturn, 1) := by decide +kernel
theorem dL_law_1191 : decode cL_law 1191 = .ok (.aload_n 1, 1) := by decide +kernel
theorem dL_law_1192 : decode cL_law 1192 = .ok (.aload_n 0, 1) := by decide +kernel
theorem dL_law_1193 : decode cL_law 1193 = .ok (.iload 4, 2) := by decide +kernel
theorem dL_law_1195 : decode cL_law 1195 = .ok (.iconst 1, 1) := by decide +kernel
theorem dL_law_1196 : decode cL_law 1196 = .ok (.iadd, 1) := by decide +kernel
theorem dL_law_1197 : decode cL_law 1197 = .ok (.iaload, 1) := by decide +kernel
theorem dL_law_1198 : decode cL_law 1198 = .ok (.aload_n 0, 1) := by decide +kernel
theorem dL_law_1199 : decode cL_law 1199 = .ok (.iload 4, 2) := by decide +kernel
theorem dL_law_1201 : decode cL_law 1201 = .ok (.iconst 2, 1) := by decide +kernel
theorem dL_law_1202 : decode cL_law 1202 = .ok (.iadd, 1) := by decide +kernel
theorem dL_law_1203 : decode cL_law 1203 = .ok (.iaload, 1) := by decide +kernel
theorem dL_law_1204 : decode cL_law 1204 = .ok (.aload_n 0, 1) := by decide +kernel
theorem dL_law_1205 : decode cL_law 1205 = .ok (.iload 4, 2) := by decide +kernel
theorem dL_law_1207 : decode cL_law 1207 = .ok (.iconst 3, 1) := by decide +kernel
theorem dL_law_1208 : decode cL_law 1208 = .ok (.iadd, 1) := by decide +kernel
theorem dL_law_1209 : decode cL_law 1209 = .ok (.iaload, 1) := by decide +kernel
theorem dL_law_1210 : decode cL_law 1210 = .ok (.aload_n 0, 1) := by decide +kernel
theorem dL_law_1211 : decode cL_law 1211 = .ok (.iload 4, 2) := by decide +kernel
theorem dL_law_1213 : decode cL_law 1213 = .ok (.iconst 4, 1) := by decide +kernel
theorem dL_law_1214 : decode cL_law 1214 = .ok (.iadd, 1) := by decide +kernel
theorem dL_law_1215 : decode cL_law 1215 = .ok (.iaload, 1) := by decide +kernel
theorem dL_law_1216 : decode cL_law 1216 = .ok (.aload_n 0, 1) := by decide +kernel
theorem dL_law_1217 : decode cL_law 1217 = .ok (.iload 4, 2) := by decide +kernel
theorem dL_law_1219 : decode cL_law 1219 = .ok (.iconst 5, 1) := by decide +kernel
theorem dL_law_1220 : decode cL_law 1220 = .ok (.iadd, 1) := by decide +kernel
theorem dL_law_1221 : decode cL_law 1221 = .ok (.iaload, 1) := by decide +kernel
theorem dL_law_1222 : decode cL_law 1222 = .ok (.ifCond .eq 7, 3) := by decide +kernel
theorem dL_law_1225 : decode cL_law 1225 = .ok (.iconst 1, 1) := by decide +kernel
theorem dL_law_1226 : decode cL_law 1226 = .ok (.goto 4, 3) := by decide +kernel
theorem dL_law_1229 : decode cL_law 1229 = .ok (.iconst 0, 1) := by decide +kernel
theorem dL_law_1230 : decode cL_law 1230 = .ok (.invokevirtual 145, 3) := by decide +kernel
theorem dL_law_1233 : decode cL_law 1233 = .ok (.aload_n 2, 1) := by decide +kernel
theorem dL_law_1234 : decode cL_law 1234 = .ok (.aload_n 0, 1) := by decide +kernel
theorem dL_law_1235 : decode cL_law 1235 = .ok (.iload 4, 2) := by decide +kernel
theorem dL_law_1237 : decode cL_law 1237 = .ok (.iconst 1, 1) := by decide +kernel
theorem dL_law_1238 : decode cL_law 1238 = .ok (.iadd, 1) := by decide +kernel
theorem dL_law_1239 : decode cL_law 1239 = .ok (.iaload, 1) := by decide +kernel
theorem dL_law_1240 : decode cL_law 1240 = .ok (.aload_n 0, 1) := by decide +kernel
theorem dL_law_1241 : decode cL_law 1241 = .ok (.iload 4, 2) := by decide +kernel
theorem dL_law_1243 : decode cL_law 1243 = .ok (.iconst 2, 1) := by decide +kernel
theorem dL_law_1244 : decode cL_law 1244 = .ok (.iadd, 1) := by decide +kernel
theorem dL_law_1245 : decode cL_law 1245 = .ok (.iaload, 1) := by decide +kernel
theorem dL_law_1246 : decode cL_law 1246 = .ok (.aload_n 0, 1) := by decide +kernel
theorem dL_law_1247 : decode cL_law 1247 = .ok (.iload 4, 2) := by decide +kernel
theorem dL_law_1249 : decode cL_law 1249 = .ok (.iconst 3, 1) := by decide +kernel
