theorem d_L_law_1057 : decode code 1057 = .ok (.invokestatic 147, 3) := by decide +kernel
theorem d_L_law_1060 : decode code 1060 = .ok (.istore 5, 2) := by decide +kernel
theorem d_L_law_1062 : decode code 1062 = .ok (.aload_n 2, 1) := by decide +kernel
theorem d_L_law_1063 : decode code 1063 = .ok (.aload_n 0, 1) := by decide +kernel
theorem d_L_law_1064 : decode code 1064 = .ok (.iload 4, 2) := by decide +kernel
theorem d_L_law_1066 : decode code 1066 = .ok (.iconst 1, 1) := by decide +kernel
theorem d_L_law_1067 : decode code 1067 = .ok (.iadd, 1) := by decide +kernel
theorem d_L_law_1068 : decode code 1068 = .ok (.iaload, 1) := by decide +kernel
theorem d_L_law_1069 : decode code 1069 = .ok (.aload_n 0, 1) := by decide +kernel
theorem d_L_law_1070 : decode code 1070 = .ok (.iload 4, 2) := by decide +kernel
theorem d_L_law_1072 : decode code 1072 = .ok (.iconst 2, 1) := by decide +kernel
theorem d_L_law_1073 : decode code 1073 = .ok (.iadd, 1) := by decide +kernel
theorem d_L_law_1074 : decode code 1074 = .ok (.iaload, 1) := by decide +kernel
theorem d_L_law_1075 : decode code 1075 = .ok (.invokevirtual 149, 3) := by decide +kernel
theorem d_L_law_1078 : decode code 1078 = .ok (.istore 6, 2) := by decide +kernel
theorem d_L_law_1080 : decode code 1080 = .ok (.aload_n 2, 1) := by decide +kernel
theorem d_L_law_1081 : decode code 1081 = .ok (.invokevirtual 100, 3) := by decide +kernel
theorem d_L_law_1084 : decode code 1084 = .ok (.iload 5, 2) := by decide +kernel
theorem d_L_law_1086 : decode code 1086 = .ok (.if_icmp .eq 5, 3) := by decide +kernel
theorem d_L_law_1089 : decode code 1089 = .ok (.iconst 0, 1) := by decide +kernel
theorem d_L_law_1090 : decode code 1090 = .ok (.ireturn, 1) := by decide +kernel
theorem d_L_law_1091 : decode code 1091 = .ok (.iload 5, 2) := by decide +kernel
theorem d_L_law_1093 : decode code 1093 = .ok (.ifCond .ne 15, 3) := by decide +kernel
theorem d_L_law_1096 : decode code 1096 = .ok (.aload_n 3, 1) := by decide +kernel
theorem d_L_law_1097 : decode code 1097 = .ok (.iconst 0, 1) := by decide +kernel
theorem d_L_law_1098 : decode code 1098 = .ok (.laload, 1) := by decide +kernel
theorem d_L_law_1099 : decode code 1099 = .ok (.iload 6, 2) := by decide +kernel
theorem d_L_law_1101 : decode code 1101 = .ok (.i2l, 1) := by decide +kernel
theorem d_L_law_1102 : decode code 1102 = .ok (.lcmp, 1) := by decide +kernel
theorem d_L_law_1103 : decode code 1103 = .ok (.ifCond .eq 5, 3) := by decide +kernel
theorem d_L_law_1106 : decode code 1106 = .ok (.iconst 0, 1) := by decide +kernel
theorem d_L_law_1107 : decode code 1107 = .ok (.ireturn, 1) := by decide +kernel
theorem d_L_law_1108 : decode code 1108 = .ok (.goto 403, 3) := by decide +kernel
theorem d_L_law_1111 : decode code 1111 = .ok (.aload_n 1, 1) := by decide +kernel
theorem d_L_law_1112 : decode code 1112 = .ok (.aload_n 0, 1) := by decide +kernel
theorem d_L_law_1113 : decode code 1113 = .ok (.iload 4, 2) := by decide +kernel
theorem d_L_law_1115 : decode code 1115 = .ok (.iconst 1, 1) := by decide +kernel
theorem d_L_law_1116 : decode code 1116 = .ok (.iadd, 1) := by decide +kernel
theorem d_L_law_1117 : decode code 1117 = .ok (.iaload, 1) := by decide +kernel
theorem d_L_law_1118 : decode code 1118 = .ok (.aload_n 0, 1) := by decide +kernel
theorem d_L_law_1119 : decode code 1119 = .ok (.iload 4, 2) := by decide +kernel
theorem d_L_law_1121 : decode code 1121 = .ok (.iconst 2, 1) := by decide +kernel
theorem d_L_law_1122 : decode code 1122 = .ok (.iadd, 1) := by decide +kernel
theorem d_L_law_1123 : decode code 1123 = .ok (.iaload, 1) := by decide +kernel
theorem d_L_law_1124 : decode code 1124 = .ok (.aload_n 0, 1) := by decide +kernel
theorem d_L_law_1125 : decode code 1125 = .ok (.iload 4, 2) := by decide +kernel
theorem d_L_law_1127 : decode code 1127 = .ok (.iconst 3, 1) := by decide +kernel
theorem d_L_law_1128 : decode code 1128 = .ok (.iadd, 1) := by decide +kernel
theorem d_L_law_1129 : decode code 1129 = .ok (.iaload, 1) := by decide +kernel
theorem d_L_law_1130 : decode code 1130 = .ok (.aload_n 0, 1) := by decide +kernel
theorem d_L_law_1131 : decode code 1131 = .ok (.iload 4, 2) := by decide +kernel
theorem d_L_law_1133 : decode code 1133 = .ok (.iconst 4, 1) := by decide +kernel
theorem d_L_law_1134 : decode code 1134 = .ok (.iadd, 1) := by decide +kernel
theorem d_L_law_1135 : decode code 1135 = .ok (.iaload, 1) := by decide +kernel
theorem d_L_law_1136 : decode code 1136 = .ok (.invokestatic 150, 3) := by decide +kernel
theorem d_L_law_1139 : decode code 1139 = .ok (.istore 5, 2) := by decide +kernel
theorem d_L_law_1141 : decode code 1141 = .ok (.aload_n 2, 1) := by decide +kernel
theorem d_L_law_1142 : decode code 1142 = .ok (.aload_n 0, 1) := by decide +kernel
theorem d_L_law_1143 : decode code 1143 = .ok (.iload 4, 2) := by decide +kernel
theorem d_L_law_1145 : decode code 1145 = .ok (.iconst 1, 1) := by decide +kernel
theorem d_L_law_1146 : decode code 1146 = .ok (.iadd, 1) := by decide +kernel
theorem d_L_law_1147 : decode code 1147 = .ok (.iaload, 1) := by decide +kernel
theorem d_L_law_1148 : decode code 1148 = .ok (.aload_n 0, 1) := by decide +kernel
theorem d_L_law_1149 : decode code 1149 = .ok (.iload 4, 2) := by decide +kernel
theorem d_L_law_1151 : decode code 1151 = .ok (.iconst 2, 1) := by decide +kernel
theorem d_L_law_1152 : decode code 1152 = .ok (.iadd, 1) := by decide +kernel
theorem d_L_law_1153 : decode code 1153 = .ok (.iaload, 1) := by decide +kernel
theorem d_L_law_1154 : decode code 1154 = .ok (.aload_n 0, 1) := by decide +kernel
theorem d_L_law_1155 : decode code 1155 = .ok (.iload 4, 2) := by decide +kernel
theorem d_L_law_1157 : decode code 1157 = .ok (.iconst 3, 1) := by decide +kernel
theorem d_L_law_1158 : decode code 1158 = .ok (.iadd, 1) := by decide +kernel
theorem d_L_law_1159 : decode code 1159 = .ok (.iaload, 1) := by decide +kernel
theorem d_L_law_1160 : decode code 1160 = .ok (.aload_n 0, 1) := by decide +kernel
theorem d_L_law_1161 : decode code 1161 = .ok (.iload 4, 2) := by decide +kernel
theorem d_L_law_1163 : decode code 1163 = .ok (.iconst 4, 1) := by decide +kernel
theorem d_L_law_1164 : decode code 1164 = .ok (.iadd, 1) := by decide +kernel
theorem d_L_law_1165 : decode code 1165 = .ok (.iaload, 1) := by decide +kernel
theorem d_L_law_1166 : decode code 1166 = .ok (.invokevirtual 153, 3) := by decide +kernel
theorem d_L_law_1169 : decode code 1169 = .ok (.aload_n 2, 1) := by decide +kernel
theorem d_L_law_1170 : decode code 1170 = .ok (.invokevirtual 100, 3) := by decide +kernel
theorem d_L_law_1173 : decode code 1173 = .ok (.iload 5, 2) := by decide +kernel
theorem d_L_law_1175 : decode code 1175 = .ok (.if_icmp .eq 5, 3) := by decide +kernel
theorem d_L_law_1178 : decode code 1178 = .ok (.iconst 0, 1) := by decide +kernel
theorem d_L_law_1179 : decode code 1179 = .ok (.ireturn, 1) := by decide +kernel
theorem d_L_law_1180 : decode code 1180 = .ok (.goto 331, 3) := by decide +kernel
theorem d_L_law_1183 : decode code 1183 = .ok (.aload_n 1, 1) := by decide +kernel
theorem d_L_law_1184 : decode code 1184 = .ok (.aload_n 0, 1) := by decide +kernel
theorem d_L_law_1185 : decode code 1185 = .ok (.iload 4, 2) := by decide +kernel
theorem d_L_law_1187 : decode code 1187 = .ok (.iconst 1, 1) := by decide +kernel
theorem d_L_law_1188 : decode code 1188 = .ok (.iadd, 1) := by decide +kernel
theorem d_L_law_1189 : decode code 1189 = .ok (.iaload, 1) := by decide +kernel
theorem d_L_law_1190 : decode code 1190 = .ok (.aload_n 0, 1) := by decide +kernel
theorem d_L_law_1191 : decode code 1191 = .ok (.iload 4, 2) := by decide +kernel
theorem d_L_law_1193 : decode code 1193 = .ok (.iconst 2, 1) := by decide +kernel
theorem d_L_law_1194 : decode code 1194 = .ok (.iadd, 1) := by decide +kernel
theorem d_L_law_1195 : decode code 1195 = .ok (.iaload, 1) := by decide +kernel
theorem d_L_law_1196 : decode code 1196 = .ok (.aload_n 0, 1) := by decide +kernel
theorem d_L_law_1197 : decode code 1197 = .ok (.iload 4, 2) := by decide +kernel
theorem d_L_law_1199 : decode code 1199 = .ok (.iconst 3, 1) := by decide +kernel
theorem d_L_law_1200 : decode code 1200 = .ok (.iadd, 1) := by decide +kernel
theorem d_L_law_1201 : decode code 1201 = .ok (.iaload, 1) := by decide +kernel
theorem d_L_law_1202 : decode code 1202 = .ok (.aload_n 3, 1) := by decide +kernel
theorem d_L_law_1203 : decode code 1203 = .ok (.invokestatic 154, 3) := by decide +kernel
theorem d_L_law_1206 : decode code 1206 = .ok (.istore 5, 2) := by decide +kernel
theorem d_L_law_1208 : decode code 1208 = .ok (.aload_n 2, 1) := by decide +kernel
theorem d_L_law_1209 : decode code 1209 = .ok (.aload_n 0, 1) := by decide +kernel
theorem d_L_law_1210 : decode code 1210 = .ok (.iload 4, 2) := by decide +kernel
theorem d_L_law_1212 : decode code 1212 = .ok (.iconst 1, 1) := by decide +kernel
theorem d_L_law_1213 : decode code 1213 = .ok (.iadd, 1) := by decide +kernel
theorem d_L_law_1214 : decode code 1214 = .ok (.iaload, 1) := by decide +kernel
theorem d_L_law_1215 : decode code 1215 = .ok (.aload_n 0, 1) := by decide +kernel
theorem d_L_law_1216 : decode code 1216 = .ok (.iload 4, 2) := by decide +kernel
theorem d_L_law_1218 : decode code 1218 = .ok (.iconst 2, 1) := by decide +kernel
theorem d_L_law_1219 : decode code 1219 = .ok (.iadd, 1) := by decide +kernel
theorem d_L_law_1220 : decode code 1220 = .ok (.iaload, 1) := by decide +kernel
theorem d_L_law_1221 : decode code 1221 = .ok (.aload_n 0, 1) := by decide +kernel
theorem d_L_law_1222 : decode code 1222 = .ok (.iload 4, 2) := by decide +kernel
theorem d_L_law_1224 : decode code 1224 = .ok (.iconst 3, 1) := by decide +kernel
theorem d_L_law_1225 : decode code 1225 = .ok (.iadd, 1) := by decide +kernel
theorem d_L_law_1226 : decode code 1226 = .ok (.iaload, 1) := by decide +kernel
theorem d_L_law_1227 : decode code 1227 = .ok (.invokevirtual 156, 3) := by decide +kernel
theorem d_L_law_1230 : decode code 1230 = .ok (.istore 6, 2) := by decide +kernel
theorem d_L_law_1232 : decode code 1232 = .ok (.aload_n 2, 1) := by decide +kernel
theorem d_L_law_1233 : decode code 1233 = .ok (.invokevirtual 100, 3) := by decide +kernel
theorem d_L_law_1236 : decode code 1236 = .ok (.iload 5, 2) := by decide +kernel
theorem d_L_law_1238 : decode code 1238 = .ok (.if_icmp .eq 5, 3) := by decide +kernel
theorem d_L_law_1241 : decode code 1241 = .ok (.iconst 0, 1) := by decide +kernel
theorem d_L_law_1242 : decode code 1242 = .ok (.ireturn, 1) := by decide +kernel
theorem d_L_law_1243 : decode code 1243 = .ok (.iload 5, 2) := by decide +kernel
theorem d_L_law_1245 : decode code 1245 = .ok (.ifCond .ne 15, 3) := by decide +kernel
theorem d_L_law_1248 : decode code 1248 = .ok (.aload_n 3, 1) := by decide +kernel
theorem d_L_law_1249 : decode code 1249 = .ok (.iconst 0, 1) := by decide +kernel
theorem d_L_law_1250 : decode code 1250 = .ok (.laload, 1) := by decide +kernel
theorem d_L_law_1251 : decode code 1251 = .ok (.iload 6, 2) := by decide +kernel
theorem d_L_law_1253 : decode code 1253 = .ok (.i2l, 1) := by decide +kernel
theorem d_L_law_1254 : decode code 1254 = .ok (.lcmp, 1) := by decide +kernel
theorem d_L_law_1255 : decode code 1255 = .ok (.ifCond .eq 5, 3) := by decide +kernel
theorem d_L_law_1258 : decode code 1258 = .ok (.iconst 0, 1) := by decide +kernel
theorem d_L_law_1259 : decode code 1259 = .ok (.ireturn, 1) := by decide +kernel
theorem d_L_law_1260 : decode code 1260 = .ok (.goto 251, 3) := by decide +kernel
theorem d_L_law_1263 : decode code 1263 = .ok (.aload_n 1, 1) := by decide +kernel
theorem d_L_law_1264 : decode code 1264 = .ok (.aload_n 0, 1) := by decide +kernel
theorem d_L_law_1265 : decode code 1265 = .ok (.iload 4, 2) := by decide +kernel
theorem d_L_law_1267 : decode code 1267 = .ok (.iconst 1, 1) := by decide +kernel
theorem d_L_law_1268 : decode code 1268 = .ok (.iadd, 1) := by decide +kernel
theorem d_L_law_1269 : decode code 1269 = .ok (.iaload, 1) := by decide +kernel
theorem d_L_law_1270 : decode code 1270 = .ok (.aload_n 0, 1) := by decide +kernel
theorem d_L_law_1271 : decode code 1271 = .ok (.iload 4, 2) := by decide +kernel
theorem d_L_law_1273 : decode code 1273 = .ok (.iconst 2, 1) := by decide +kernel
theorem d_L_law_1274 : decode code 1274 = .ok (.iadd, 1) := by decide +kernel
theorem d_L_law_1275 : decode code 1275 = .ok (.iaload, 1) := by decide +kernel
theorem d_L_law_1276 : decode code 1276 = .ok (.aload_n 3, 1) := by decide +kernel
theorem d_L_law_1277 : decode code 1277 = .ok (.invokestatic 157, 3) := by decide +kernel
theorem d_L_law_1280 : decode code 1280 = .ok (.istore 5, 2) := by decide +kernel
theorem d_L_law_1282 : decode code 1282 = .ok (.aload_n 2, 1) := by decide +kernel
theorem d_L_law_1283 : decode code 1283 = .ok (.aload_n 0, 1) := by decide +kernel
theorem d_L_law_1284 : decode code 1284 = .ok (.iload 4, 2) := by decide +kernel
theorem d_L_law_1286 : decode code 1286 = .ok (.iconst 1, 1) := by decide +kernel
theorem d_L_law_1287 : decode code 1287 = .ok (.iadd, 1) := by decide +kernel
theorem d_L_law_1288 : decode code 1288 = .ok (.iaload, 1) := by decide +kernel
