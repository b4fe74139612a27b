theorem dc_L_law_1116 : decode bc_L_law 1116 = .ok (.iconst 1, 1) := by decide +kernel
theorem dc_L_law_1117 : decode bc_L_law 1117 = .ok (.iadd, 1) := by decide +kernel
theorem dc_L_law_1118 : decode bc_L_law 1118 = .ok (.iaload, 1) := by decide +kernel
theorem dc_L_law_1119 : decode bc_L_law 1119 = .ok (.aload_n 0, 1) := by decide +kernel
theorem dc_L_law_1120 : decode bc_L_law 1120 = .ok (.iload 4, 2) := by decide +kernel
theorem dc_L_law_1122 : decode bc_L_law 1122 = .ok (.iconst 2, 1) := by decide +kernel
theorem dc_L_law_1123 : decode bc_L_law 1123 = .ok (.iadd, 1) := by decide +kernel
theorem dc_L_law_1124 : decode bc_L_law 1124 = .ok (.iaload, 1) := by decide +kernel
theorem dc_L_law_1125 : decode bc_L_law 1125 = .ok (.aload_n 3, 1) := by decide +kernel
theorem dc_L_law_1126 : decode bc_L_law 1126 = .ok (.invokestatic 134, 3) := by decide +kernel
theorem dc_L_law_1129 : decode bc_L_law 1129 = .ok (.istore 5, 2) := by decide +kernel
theorem dc_L_law_1131 : decode bc_L_law 1131 = .ok (.aload_n 2, 1) := by decide +kernel
theorem dc_L_law_1132 : decode bc_L_law 1132 = .ok (.aload_n 0, 1) := by decide +kernel
theorem dc_L_law_1133 : decode bc_L_law 1133 = .ok (.iload 4, 2) := by decide +kernel
theorem dc_L_law_1135 : decode bc_L_law 1135 = .ok (.iconst 1, 1) := by decide +kernel
theorem dc_L_law_1136 : decode bc_L_law 1136 = .ok (.iadd, 1) := by decide +kernel
theorem dc_L_law_1137 : decode bc_L_law 1137 = .ok (.iaload, 1) := by decide +kernel
theorem dc_L_law_1138 : decode bc_L_law 1138 = .ok (.aload_n 0, 1) := by decide +kernel
theorem dc_L_law_1139 : decode bc_L_law 1139 = .ok (.iload 4, 2) := by decide +kernel
theorem dc_L_law_1141 : decode bc_L_law 1141 = .ok (.iconst 2, 1) := by decide +kernel
theorem dc_L_law_1142 : decode bc_L_law 1142 = .ok (.iadd, 1) := by decide +kernel
theorem dc_L_law_1143 : decode bc_L_law 1143 = .ok (.iaload, 1) := by decide +kernel
theorem dc_L_law_1144 : decode bc_L_law 1144 = .ok (.invokevirtual 136, 3) := by decide +kernel
theorem dc_L_law_1147 : decode bc_L_law 1147 = .ok (.istore 6, 2) := by decide +kernel
theorem dc_L_law_1149 : decode bc_L_law 1149 = .ok (.aload_n 2, 1) := by decide +kernel
theorem dc_L_law_1150 : decode bc_L_law 1150 = .ok (.invokevirtual 83, 3) := by decide +kernel
theorem dc_L_law_1153 : decode bc_L_law 1153 = .ok (.iload 5, 2) := by decide +kernel
theorem dc_L_law_1155 : decode bc_L_law 1155 = .ok (.if_icmp .eq 5, 3) := by decide +kernel
theorem dc_L_law_1158 : decode bc_L_law 1158 = .ok (.iconst 0, 1) := by decide +kernel
theorem dc_L_law_1159 : decode bc_L_law 1159 = .ok (.ireturn, 1) := by decide +kernel
theorem dc_L_law_1160 : decode bc_L_law 1160 = .ok (.iload 5, 2) := by decide +kernel
theorem dc_L_law_1162 : decode bc_L_law 1162 = .ok (.ifCond .ne 15, 3) := by decide +kernel
theorem dc_L_law_1165 : decode bc_L_law 1165 = .ok (.aload_n 3, 1) := by decide +kernel
theorem dc_L_law_1166 : decode bc_L_law 1166 = .ok (.iconst 0, 1) := by decide +kernel
theorem dc_L_law_1167 : decode bc_L_law 1167 = .ok (.laload, 1) := by decide +kernel
theorem dc_L_law_1168 : decode bc_L_law 1168 = .ok (.iload 6, 2) := by decide +kernel
theorem dc_L_law_1170 : decode bc_L_law 1170 = .ok (.i2l, 1) := by decide +kernel
theorem dc_L_law_1171 : decode bc_L_law 1171 = .ok (.lcmp, 1) := by decide +kernel
theorem dc_L_law_1172 : decode bc_L_law 1172 = .ok (.ifCond .eq 5, 3) := by decide +kernel
theorem dc_L_law_1175 : decode bc_L_law 1175 = .ok (.iconst 0, 1) := by decide +kernel
theorem dc_L_law_1176 : decode bc_L_law 1176 = .ok (.ireturn, 1) := by decide +kernel
theorem dc_L_law_1177 : decode bc_L_law 1177 = .ok (.goto 72, 3) := by decide +kernel
theorem dc_L_law_1180 : decode bc_L_law 1180 = .ok (.aload_n 1, 1) := by decide +kernel
theorem dc_L_law_1181 : decode bc_L_law 1181 = .ok (.aload_n 0, 1) := by decide +kernel
theorem dc_L_law_1182 : decode bc_L_law 1182 = .ok (.iload 4, 2) := by decide +kernel
theorem dc_L_law_1184 : decode bc_L_law 1184 = .ok (.iconst 1, 1) := by decide +kernel
theorem dc_L_law_1185 : decode bc_L_law 1185 = .ok (.iadd, 1) := by decide +kernel
theorem dc_L_law_1186 : decode bc_L_law 1186 = .ok (.iaload, 1) := by decide +kernel
theorem dc_L_law_1187 : decode bc_L_law 1187 = .ok (.aload_n 3, 1) := by decide +kernel
theorem dc_L_law_1188 : decode bc_L_law 1188 = .ok (.invokestatic 137, 3) := by decide +kernel
theorem dc_L_law_1191 : decode bc_L_law 1191 = .ok (.istore 5, 2) := by decide +kernel
theorem dc_L_law_1193 : decode bc_L_law 1193 = .ok (.aload_n 2, 1) := by decide +kernel
theorem dc_L_law_1194 : decode bc_L_law 1194 = .ok (.aload_n 0, 1) := by decide +kernel
theorem dc_L_law_1195 : decode bc_L_law 1195 = .ok (.iload 4, 2) := by decide +kernel
theorem dc_L_law_1197 : decode bc_L_law 1197 = .ok (.iconst 1, 1) := by decide +kernel
theorem dc_L_law_1198 : decode bc_L_law 1198 = .ok (.iadd, 1) := by decide +kernel
theorem dc_L_law_1199 : decode bc_L_law 1199 = .ok (.iaload, 1) := by decide +kernel
theorem dc_L_law_1200 : decode bc_L_law 1200 = .ok (.invokevirtual 139, 3) := by decide +kernel
theorem dc_L_law_1203 : decode bc_L_law 1203 = .ok (.istore 6, 2) := by decide +kernel
theorem dc_L_law_1205 : decode bc_L_law 1205 = .ok (.aload_n 2, 1) := by decide +kernel
theorem dc_L_law_1206 : decode bc_L_law 1206 = .ok (.invokevirtual 83, 3) := by decide +kernel
theorem dc_L_law_1209 : decode bc_L_law 1209 = .ok (.iload 5, 2) := by decide +kernel
theorem dc_L_law_1211 : decode bc_L_law 1211 = .ok (.if_icmp .eq 5, 3) := by decide +kernel
theorem dc_L_law_1214 : decode bc_L_law 1214 = .ok (.iconst 0, 1) := by decide +kernel
theorem dc_L_law_1215 : decode bc_L_law 1215 = .ok (.ireturn, 1) := by decide +kernel
theorem dc_L_law_1216 : decode bc_L_law 1216 = .ok (.iload 5, 2) := by decide +kernel
theorem dc_L_law_1218 : decode bc_L_law 1218 = .ok (.ifCond .ne 15, 3) := by decide +kernel
theorem dc_L_law_1221 : decode bc_L_law 1221 = .ok (.aload_n 3, 1) := by decide +kernel
theorem dc_L_law_1222 : decode bc_L_law 1222 = .ok (.iconst 0, 1) := by decide +kernel
theorem dc_L_law_1223 : decode bc_L_law 1223 = .ok (.laload, 1) := by decide +kernel
theorem dc_L_law_1224 : decode bc_L_law 1224 = .ok (.iload 6, 2) := by decide +kernel
theorem dc_L_law_1226 : decode bc_L_law 1226 = .ok (.i2l, 1) := by decide +kernel
theorem dc_L_law_1227 : decode bc_L_law 1227 = .ok (.lcmp, 1) := by decide +kernel
theorem dc_L_law_1228 : decode bc_L_law 1228 = .ok (.ifCond .eq 5, 3) := by decide +kernel
theorem dc_L_law_1231 : decode bc_L_law 1231 = .ok (.iconst 0, 1) := by decide +kernel
theorem dc_L_law_1232 : decode bc_L_law 1232 = .ok (.ireturn, 1) := by decide +kernel
theorem dc_L_law_1233 : decode bc_L_law 1233 = .ok (.goto 16, 3) := by decide +kernel
theorem dc_L_law_1236 : decode bc_L_law 1236 = .ok (.aload_n 1, 1) := by decide +kernel
theorem dc_L_law_1237 : decode bc_L_law 1237 = .ok (.invokevirtual 140, 3) := by decide +kernel
theorem dc_L_law_1240 : decode bc_L_law 1240 = .ok (.aload_n 2, 1) := by decide +kernel
theorem dc_L_law_1241 : decode bc_L_law 1241 = .ok (.invokevirtual 143, 3) := by decide +kernel
theorem dc_L_law_1244 : decode bc_L_law 1244 = .ok (.if_icmp .eq 5, 3) := by decide +kernel
theorem dc_L_law_1247 : decode bc_L_law 1247 = .ok (.iconst 0, 1) := by decide +kernel
theorem dc_L_law_1248 : decode bc_L_law 1248 = .ok (.ireturn, 1) := by decide +kernel
theorem dc_L_law_1249 : decode bc_L_law 1249 = .ok (.iinc 4 5, 3) := by decide +kernel
theorem dc_L_law_1252 : decode bc_L_law 1252 = .ok (.goto (-1229), 3) := by decide +kernel
theorem dc_L_law_1255 : decode bc_L_law 1255 = .ok (.iconst 1, 1) := by decide +kernel
theorem dc_L_law_1256 : decode bc_L_law 1256 = .ok (.ireturn, 1) := by decide +kernel
