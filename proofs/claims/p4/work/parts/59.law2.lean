
theorem dL_law_1048 : decode cL_law 1048 = .ok (.aload_n 1, 1) := by decide +kernel
theorem dL_law_1049 : decode cL_law 1049 = .ok (.aload_n 0, 1) := by decide +kernel
theorem dL_law_1050 : decode cL_law 1050 = .ok (.iload_n 3, 1) := by decide +kernel
theorem dL_law_1051 : decode cL_law 1051 = .ok (.iconst 1, 1) := by decide +kernel
theorem dL_law_1052 : decode cL_law 1052 = .ok (.iadd, 1) := by decide +kernel
theorem dL_law_1053 : decode cL_law 1053 = .ok (.iaload, 1) := by decide +kernel
theorem dL_law_1054 : decode cL_law 1054 = .ok (.invokevirtual 115, 3) := by decide +kernel
theorem dL_law_1057 : decode cL_law 1057 = .ok (.pop, 1) := by decide +kernel
theorem dL_law_1058 : decode cL_law 1058 = .ok (.aload_n 2, 1) := by decide +kernel
theorem dL_law_1059 : decode cL_law 1059 = .ok (.aload_n 0, 1) := by decide +kernel
theorem dL_law_1060 : decode cL_law 1060 = .ok (.iload_n 3, 1) := by decide +kernel
theorem dL_law_1061 : decode cL_law 1061 = .ok (.iconst 1, 1) := by decide +kernel
theorem dL_law_1062 : decode cL_law 1062 = .ok (.iadd, 1) := by decide +kernel
theorem dL_law_1063 : decode cL_law 1063 = .ok (.iaload, 1) := by decide +kernel
theorem dL_law_1064 : decode cL_law 1064 = .ok (.invokevirtual 118, 3) := by decide +kernel
theorem dL_law_1067 : decode cL_law 1067 = .ok (.pop, 1) := by decide +kernel
theorem dL_law_1068 : decode cL_law 1068 = .ok (.goto 609, 3) := by decide +kernel
theorem dL_law_1071 : decode cL_law 1071 = .ok (.aload_n 1, 1) := by decide +kernel
theorem dL_law_1072 : decode cL_law 1072 = .ok (.aload_n 0, 1) := by decide +kernel
theorem dL_law_1073 : decode cL_law 1073 = .ok (.iload_n 3, 1) := by decide +kernel
theorem dL_law_1074 : decode cL_law 1074 = .ok (.iconst 1, 1) := by decide +kernel
theorem dL_law_1075 : decode cL_law 1075 = .ok (.iadd, 1) := by decide +kernel
theorem dL_law_1076 : decode cL_law 1076 = .ok (.iaload, 1) := by decide +kernel
theorem dL_law_1077 : decode cL_law 1077 = .ok (.aload_n 0, 1) := by decide +kernel
theorem dL_law_1078 : decode cL_law 1078 = .ok (.iload_n 3, 1) := by decide +kernel
theorem dL_law_1079 : decode cL_law 1079 = .ok (.iconst 2, 1) := by decide +kernel
theorem dL_law_1080 : decode cL_law 1080 = .ok (.iadd, 1) := by decide +kernel
theorem dL_law_1081 : decode cL_law 1081 = .ok (.iaload, 1) := by decide +kernel
theorem dL_law_1082 : decode cL_law 1082 = .ok (.aload_n 0, 1) := by decide +kernel
theorem dL_law_1083 : decode cL_law 1083 = .ok (.iload_n 3, 1) := by decide +kernel
theorem dL_law_1084 : decode cL_law 1084 = .ok (.iconst 3, 1) := by decide +kernel
theorem dL_law_1085 : decode cL_law 1085 = .ok (.iadd, 1) := by decide +kernel
theorem dL_law_1086 : decode cL_law 1086 = .ok (.iaload, 1) := by decide +kernel
theorem dL_law_1087 : decode cL_law 1087 = .ok (.invokevirtual 119, 3) := by decide +kernel
theorem dL_law_1090 : decode cL_law 1090 = .ok (.pop, 1) := by decide +kernel
theorem dL_law_1091 : decode cL_law 1091 = .ok (.aload_n 2, 1) := by decide +kernel
theorem dL_law_1092 : decode cL_law 1092 = .ok (.aload_n 0, 1) := by decide +kernel
theorem dL_law_1093 : decode cL_law 1093 = .ok (.iload_n 3, 1) := by decide +kernel
theorem dL_law_1094 : decode cL_law 1094 = .ok (.iconst 1, 1) := by decide +kernel
theorem dL_law_1095 : decode cL_law 1095 = .ok (.iadd, 1) := by decide +kernel
theorem dL_law_1096 : decode cL_law 1096 = .ok (.iaload, 1) := by decide +kernel
theorem dL_law_1097 : decode cL_law 1097 = .ok (.aload_n 0, 1) := by decide +kernel
theorem dL_law_1098 : decode cL_law 1098 = .ok (.iload_n 3, 1) := by decide +kernel
theorem dL_law_1099 : decode cL_law 1099 = .ok (.iconst 2, 1) := by decide +kernel
theorem dL_law_1100 : decode cL_law 1100 = .ok (.iadd, 1) := by decide +kernel
theorem dL_law_1101 : decode cL_law 1101 = .ok (.iaload, 1) := by decide +kernel
theorem dL_law_1102 : decode cL_law 1102 = .ok (.aload_n 0, 1) := by decide +kernel
theorem dL_law_1103 : decode cL_law 1103 = .ok (.iload_n 3, 1) := by decide +kernel
theorem dL_law_1104 : decode cL_law 1104 = .ok (.iconst 3, 1) := by decide +kernel
theorem dL_law_1105 : decode cL_law 1105 = .ok (.iadd, 1) := by decide +kernel
theorem dL_law_1106 : decode cL_law 1106 = .ok (.iaload, 1) := by decide +kernel
theorem dL_law_1107 : decode cL_law 1107 = .ok (.invokevirtual 122, 3) := by decide +kernel
theorem dL_law_1110 : decode cL_law 1110 = .ok (.pop, 1) := by decide +kernel
theorem dL_law_1111 : decode cL_law 1111 = .ok (.goto 566, 3) := by decide +kernel
theorem dL_law_1114 : decode cL_law 1114 = .ok (.aload_n 1, 1) := by decide +kernel
theorem dL_law_1115 : decode cL_law 1115 = .ok (.aload_n 0, 1) := by decide +kernel
theorem dL_law_1116 : decode cL_law 1116 = .ok (.iload_n 3, 1) := by decide +kernel
theorem dL_law_1117 : decode cL_law 1117 = .ok (.iconst 1, 1) := by decide +kernel
theorem dL_law_1118 : decode cL_law 1118 = .ok (.iadd, 1) := by decide +kernel
theorem dL_law_1119 : decode cL_law 1119 = .ok (.iaload, 1) := by decide +kernel
theorem dL_law_1120 : decode cL_law 1120 = .ok (.invokevirtual 123, 3) := by decide +kernel
theorem dL_law_1123 : decode cL_law 1123 = .ok (.pop, 1) := by decide +kernel
theorem dL_law_1124 : decode cL_law 1124 = .ok (.aload_n 2, 1) := by decide +kernel
theorem dL_law_1125 : decode cL_law 1125 = .ok (.aload_n 0, 1) := by decide +kernel
theorem dL_law_1126 : decode cL_law 1126 = .ok (.iload_n 3, 1) := by decide +kernel
theorem dL_law_1127 : decode cL_law 1127 = .ok (.iconst 1, 1) := by decide +kernel
theorem dL_law_1128 : decode cL_law 1128 = .ok (.iadd, 1) := by decide +kernel
theorem dL_law_1129 : decode cL_law 1129 = .ok (.iaload, 1) := by decide +kernel
theorem dL_law_1130 : decode cL_law 1130 = .ok (.invokevirtual 126, 3) := by decide +kernel
theorem dL_law_1133 : decode cL_law 1133 = .ok (.pop, 1) := by decide +kernel
theorem dL_law_1134 : decode cL_law 1134 = .ok (.goto 543, 3) := by decide +kernel
theorem dL_law_1137 : decode cL_law 1137 = .ok (.aload_n 1, 1) := by decide +kernel
theorem dL_law_1138 : decode cL_law 1138 = .ok (.aload_n 0, 1) := by decide +kernel
theorem dL_law_1139 : decode cL_law 1139 = .ok (.iload_n 3, 1) := by decide +kernel
theorem dL_law_1140 : decode cL_law 1140 = .ok (.iconst 1, 1) := by decide +kernel
theorem dL_law_1141 : decode cL_law 1141 = .ok (.iadd, 1) := by decide +kernel
theorem dL_law_1142 : decode cL_law 1142 = .ok (.iaload, 1) := by decide +kernel
theorem dL_law_1143 : decode cL_law 1143 = .ok (.aload_n 0, 1) := by decide +kernel
theorem dL_law_1144 : decode cL_law 1144 = .ok (.iload_n 3, 1) := by decide +kernel
theorem dL_law_1145 : decode cL_law 1145 = .ok (.iconst 2, 1) := by decide +kernel
theorem dL_law_1146 : decode cL_law 1146 = .ok (.iadd, 1) := by decide +kernel
theorem dL_law_1147 : decode cL_law 1147 = .ok (.iaload, 1) := by decide +kernel
theorem dL_law_1148 : decode cL_law 1148 = .ok (.invokevirtual 127, 3) := by decide +kernel
theorem dL_law_1151 : decode cL_law 1151 = .ok (.pop, 1) := by decide +kernel
theorem dL_law_1152 : decode cL_law 1152 = .ok (.aload_n 2, 1) := by decide +kernel
theorem dL_law_1153 : decode cL_law 1153 = .ok (.aload_n 0, 1) := by decide +kernel
theorem dL_law_1154 : decode cL_law 1154 = .ok (.iload_n 3, 1) := by decide +kernel
theorem dL_law_1155 : decode cL_law 1155 = .ok (.iconst 1, 1) := by decide +kernel
theorem dL_law_1156 : decode cL_law 1156 = .ok (.iadd, 1) := by decide +kernel
theorem dL_law_1157 : decode cL_law 1157 = .ok (.iaload, 1) := by decide +kernel
theorem dL_law_1158 : decode cL_law 1158 = .ok (.aload_n 0, 1) := by decide +kernel
theorem dL_law_1159 : decode cL_law 1159 = .ok (.iload_n 3, 1) := by decide +kernel
theorem dL_law_1160 : decode cL_law 1160 = .ok (.iconst 2, 1) := by decide +kernel
theorem dL_law_1161 : decode cL_law 1161 = .ok (.iadd, 1) := by decide +kernel
theorem dL_law_1162 : decode cL_law 1162 = .ok (.iaload, 1) := by decide +kernel
theorem dL_law_1163 : decode cL_law 1163 = .ok (.invokevirtual 130, 3) := by decide +kernel
theorem dL_law_1166 : decode cL_law 1166 = .ok (.pop, 1) := by decide +kernel
theorem dL_law_1167 : decode cL_law 1167 = .ok (.goto 510, 3) := by decide +kernel
theorem dL_law_1170 : decode cL_law 1170 = .ok (.aload_n 1, 1) := by decide +kernel
theorem dL_law_1171 : decode cL_law 1171 = .ok (.aload_n 0, 1) := by decide +kernel
theorem dL_law_1172 : decode cL_law 1172 = .ok (.iload_n 3, 1) := by decide +kernel
theorem dL_law_1173 : decode cL_law 1173 = .ok (.iconst 1, 1) := by decide +kernel
theorem dL_law_1174 : decode cL_law 1174 = .ok (.iadd, 1) := by decide +kernel
theorem dL_law_1175 : decode cL_law 1175 = .ok (.iaload, 1) := by decide +kernel
theorem dL_law_1176 : decode cL_law 1176 = .ok (.aload_n 0, 1) := by decide +kernel
theorem dL_law_1177 : decode cL_law 1177 = .ok (.iload_n 3, 1) := by decide +kernel
theorem dL_law_1178 : decode cL_law 1178 = .ok (.iconst 2, 1) := by decide +kernel
theorem dL_law_1179 : decode cL_law 1179 = .ok (.iadd, 1) := by decide +kernel
theorem dL_law_1180 : decode cL_law 1180 = .ok (.iaload, 1) := by decide +kernel
theorem dL_law_1181 : decode cL_law 1181 = .ok (.aload_n 0, 1) := by decide +kernel
theorem dL_law_1182 : decode cL_law 1182 = .ok (.iload_n 3, 1) := by decide +kernel
theorem dL_law_1183 : decode cL_law 1183 = .ok (.iconst 3, 1) := by decide +kernel
theorem dL_law_1184 : decode cL_law 1184 = .ok (.iadd, 1) := by decide +kernel
theorem dL_law_1185 : decode cL_law 1185 = .ok (.iaload, 1) := by decide +kernel
theorem dL_law_1186 : decode cL_law 1186 = .ok (.aload_n 0, 1) := by decide +kernel
theorem dL_law_1187 : decode cL_law 1187 = .ok (.iload_n 3, 1) := by decide +kernel
theorem dL_law_1188 : decode cL_law 1188 = .ok (.iconst 4, 1) := by decide +kernel
theorem dL_law_1189 : decode cL_law 1189 = .ok (.iadd, 1) := by decide +kernel
theorem dL_law_1190 : decode cL_law 1190 = .ok (.iaload, 1) := by decide +kernel
theorem dL_law_1191 : decode cL_law 1191 = .ok (.invokevirtual 131, 3) := by decide +kernel
theorem dL_law_1194 : decode cL_law 1194 = .ok (.pop, 1) := by decide +kernel
theorem dL_law_1195 : decode cL_law 1195 = .ok (.aload_n 2, 1) := by decide +kernel
theorem dL_law_1196 : decode cL_law 1196 = .ok (.aload_n 0, 1) := by decide +kernel
theorem dL_law_1197 : decode cL_law 1197 = .ok (.iload_n 3, 1) := by decide +kernel
theorem dL_law_1198 : decode cL_law 1198 = .ok (.iconst 1, 1) := by decide +kernel
theorem dL_law_1199 : decode cL_law 1199 = .ok (.iadd, 1) := by decide +kernel
theorem dL_law_1200 : decode cL_law 1200 = .ok (.iaload, 1) := by decide +kernel
theorem dL_law_1201 : decode cL_law 1201 = .ok (.aload_n 0, 1) := by decide +kernel
theorem dL_law_1202 : decode cL_law 1202 = .ok (.iload_n 3, 1) := by decide +kernel
theorem dL_law_1203 : decode cL_law 1203 = .ok (.iconst 2, 1) := by decide +kernel
theorem dL_law_1204 : decode cL_law 1204 = .ok (.iadd, 1) := by decide +kernel
theorem dL_law_1205 : decode cL_law 1205 = .ok (.iaload, 1) := by decide +kernel
theorem dL_law_1206 : decode cL_law 1206 = .ok (.aload_n 0, 1) := by decide +kernel
theorem dL_law_1207 : decode cL_law 1207 = .ok (.iload_n 3, 1) := by decide +kernel
theorem dL_law_1208 : decode cL_law 1208 = .ok (.iconst 3, 1) := by decide +kernel
theorem dL_law_1209 : decode cL_law 1209 = .ok (.iadd, 1) := by decide +kernel
theorem dL_law_1210 : decode cL_law 1210 = .ok (.iaload, 1) := by decide +kernel
theorem dL_law_1211 : decode cL_law 1211 = .ok (.aload_n 0, 1) := by decide +kernel
theorem dL_law_1212 : decode cL_law 1212 = .ok (.iload_n 3, 1) := by decide +kernel
theorem dL_law_1213 : decode cL_law 1213 = .ok (.iconst 4, 1) := by decide +kernel
theorem dL_law_1214 : decode cL_law 1214 = .ok (.iadd, 1) := by decide +kernel
theorem dL_law_1215 : decode cL_law 1215 = .ok (.iaload, 1) := by decide +kernel
theorem dL_law_1216 : decode cL_law 1216 = .ok (.invokevirtual 134, 3) := by decide +kernel
theorem dL_law_1219 : decode cL_law 1219 = .ok (.pop, 1) := by decide +kernel
theorem dL_law_1220 : decode cL_law 1220 = .ok (.goto 457, 3) := by decide +kernel
theorem dL_law_1223 : decode cL_law 1223 = .ok (.aload_n 1, 1) := by decide +kernel
theorem dL_law_1224 : decode cL_law 1224 = .ok (.aload_n 0, 1) := by decide +kernel
theorem dL_law_1225 : decode cL_law 1225 = .ok (.iload_n 3, 1) := by decide +kernel
theorem dL_law_1226 : decode cL_law 1226 = .ok (.iconst 1, 1) := by decide +kernel
theorem dL_law_1227 : decode cL_law 1227 = .ok (.iadd, 1) := by decide +kernel
theorem dL_law_1228 : decode cL_law 1228 = .ok (.iaload, 1) := by decide +kernel
theorem dL_law_1229 : decode cL_law 1229 = .ok (.aload_n 0, 1) := by decide +kernel
theorem dL_law_1230 : decode cL_law 1230 = .ok (.iload_n 3, 1) := by decide +kernel
theorem dL_law_1231 : decode cL_law 1231 = .ok (.iconst 2, 1) := by decide +kernel
theorem dL_law_1232 : decode cL_law 1232 = .ok (.iadd, 1) := by decide +kernel
theorem dL_law_1233 : decode cL_law 1233 = .ok (.iaload, 1) := by decide +kernel
theorem dL_law_1234 : decode cL_law 1234 = .ok (.aload_n 0, 1) := by decide +kernel
theorem dL_law_1235 : decode cL_law 1235 = .ok (.iload_n 3, 1) := by decide +kernel
theorem dL_law_1236 : decode cL_law 1236 = .ok (.iconst 3, 1) := by decide +kernel
theorem dL_law_1237 : decode cL_law 1237 = .ok (.iadd, 1) := by decide +kernel
theorem dL_law_1238 : decode cL_law 1238 = .ok (.iaload, 1) := by decide +kernel
theorem dL_law_1239 : decode cL_law 1239 = .ok (.invokevirtual 135, 3) := by decide +kernel
theorem dL_law_1242 : decode cL_law 1242 = .ok (.pop, 1) := by decide +kernel
theorem dL_law_1243 : decode cL_law 1243 = .ok (.aload_n 2, 1) := by decide +kernel
theorem dL_law_1244 : decode cL_law 1244 = .ok (.aload_n 0, 1) := by decide +kernel
theorem dL_law_1245 : decode cL_law 1245 = .ok (.iload_n 3, 1) := by decide +kernel
theorem dL_law_1246 : decode cL_law 1246 = .ok (.iconst 1, 1) := by decide +kernel
theorem dL_law_1247 : decode cL_law 1247 = .ok (.iadd, 1) := by decide +kernel
theorem dL_law_1248 : decode cL_law 1248 = .ok (.iaload, 1) := by decide +kernel
theorem dL_law_1249 : decode cL_law 1249 = .ok (.aload_n 0, 1) := by decide +kernel
theorem dL_law_1250 : decode cL_law 1250 = .ok (.iload_n 3, 1) := by decide +kernel
theorem dL_law_1251 : decode cL_law 1251 = .ok (.iconst 2, 1) := by decide +kernel
theorem dL_law_1252 : decode cL_law 1252 = .ok (.iadd, 1) := by decide +kernel
theorem dL_law_1253 : decode cL_law 1253 = .ok (.iaload, 1) := by decide +kernel
theorem dL_law_1254 : decode cL_law 1254 = .ok (.aload_n 0, 1) := by decide +kernel
theorem dL_law_1255 : decode cL_law 1255 = .ok (.iload_n 3, 1) := by decide +kernel
theorem dL_law_1256 : decode cL_law 1256 = .ok (.iconst 3, 1) := by decide +kernel
theorem dL_law_1257 : decode cL_law 1257 = .ok (.iadd, 1) := by decide +kernel
theorem dL_law_1258 : decode cL_law 1258 = .ok (.iaload, 1) := by decide +kernel
theorem dL_law_1259 : decode cL_law 1259 = .ok (.invokevirtual 138, 3) := by decide +kernel
theorem dL_law_1262 : decode cL_law 1262 = .ok (.pop, 1) := by decide +kernel
theorem dL_law_1263 : decode cL_law 1263 = .ok (.goto 414, 3) := by decide +kernel
theorem dL_law_1266 : decode cL_law 1266 = .ok (.aload_n 1, 1) := by decide +kernel
theorem dL_law_1267 : decode cL_law 1267 = .ok (.aload_n 0, 1) := by decide +kernel
theorem dL_law_1268 : decode cL_law 1268 = .ok (.iload_n 3, 1) := by decide +kernel
theorem dL_law_1269 : decode cL_law 1269 = .ok (.iconst 1, 1) := by decide +kernel
theorem dL_law_1270 : decode cL_law 1270 = .ok (.iadd, 1) := by decide +kernel
theorem dL_law_1271 : decode cL_law 1271 = .ok (.iaload, 1) := by decide +kernel
theorem dL_law_1272 : decode cL_law 1272 = .ok (.aload_n 0, 1) := by decide +kernel
theorem dL_law_1273 : decode cL_law 1273 = .ok (.iload_n 3, 1) := by decide +kernel
theorem dL_law_1274 : decode cL_law 1274 = .ok (.iconst 2, 1) := by decide +kernel
theorem dL_law_1275 : decode cL_law 1275 = .ok (.iadd, 1) := by decide +kernel
theorem dL_law_1276 : decode cL_law 1276 = .ok (.iaload, 1) := by decide +kernel
theorem dL_law_1277 : decode cL_law 1277 = .ok (.invokevirtual 139, 3) := by decide +kernel
theorem dL_law_1280 : decode cL_law 1280 = .ok (.pop, 1) := by decide +kernel
theorem dL_law_1281 : decode cL_law 1281 = .ok (.aload_n 2, 1) := by decide +kernel
theorem dL_law_1282 : decode cL_law 1282 = .ok (.aload_n 0, 1) := by decide +kernel
theorem dL_law_1283 : decode cL_law 1283 = .ok (.iload_n 3, 1) := by decide +kernel
theorem dL_law_1284 : decode cL_law 1284 = .ok (.iconst 1, 1) := by decide +kernel
theorem dL_law_1285 : decode cL_law 1285 = .ok (.iadd, 1) := by decide +kernel
theorem dL_law_1286 : decode cL_law 1286 = .ok (.iaload, 1) := by decide +kernel
theorem dL_law_1287 : decode cL_law 1287 = .ok (.aload_n 0, 1) := by decide +kernel
theorem dL_law_1288 : decode cL_law 1288 = .ok (.iload_n 3, 1) := by decide +kernel
theorem dL_law_1289 : decode cL_law 1289 = .ok (.iconst 2, 1) := by decide +kernel
theorem dL_law_1290 : decode cL_law 1290 = .ok (.iadd, 1) := by decide +kernel
theorem dL_law_1291 : decode cL_law 1291 = .ok (.iaload, 1) := by decide +kernel
theorem dL_law_1292 : decode cL_law 1292 = .ok (.invokevirtual 142, 3) := by decide +kernel
theorem dL_law_1295 : decode cL_law 1295 = .ok (.pop, 1) := by decide +kernel
theorem dL_law_1296 : decode cL_law 1296 = .ok (.goto 381, 3) := by decide +kernel
theorem dL_law_1299 : decode cL_law 1299 = .ok (.aload_n 1, 1) := by decide +kernel
theorem dL_law_1300 : decode cL_law 1300 = .ok (.aload_n 0, 1) := by decide +kernel
theorem dL_law_1301 : decode cL_law 1301 = .ok (.iload_n 3, 1) := by decide +kernel
theorem dL_law_1302 : decode cL_law 1302 = .ok (.iconst 1, 1) := by decide +kernel
theorem dL_law_1303 : decode cL_law 1303 = .ok (.iadd, 1) := by decide +kernel
theorem dL_law_1304 : decode cL_law 1304 = .ok (.iaload, 1) := by decide +kernel
theorem dL_law_1305 : decode cL_law 1305 = .ok (.aload_n 0, 1) := by decide +kernel
theorem dL_law_1306 : decode cL_law 1306 = .ok (.iload_n 3, 1) := by decide +kernel
theorem dL_law_1307 : decode cL_law 1307 = .ok (.iconst 2, 1) := by decide +kernel
theorem dL_law_1308 : decode cL_law 1308 = .ok (.iadd, 1) := by decide +kernel
theorem dL_law_1309 : decode cL_law 1309 = .ok (.iaload, 1) := by decide +kernel
theorem dL_law_1310 : decode cL_law 1310 = .ok (.invokevirtual 143, 3) := by decide +kernel
theorem dL_law_1313 : decode cL_law 1313 = .ok (.pop, 1) := by decide +kernel
theorem dL_law_1314 : decode cL_law 1314 = .ok (.aload_n 2, 1) := by decide +kernel
theorem dL_law_1315 : decode cL_law 1315 = .ok (.aload_n 0, 1) := by decide +kernel
theorem dL_law_1316 : decode cL_law 1316 = .ok (.iload_n 3, 1) := by decide +kernel
theorem dL_law_1317 : decode cL_law 1317 = .ok (.iconst 1, 1) := by decide +kernel
theorem dL_law_1318 : decode cL_law 1318 = .ok (.iadd, 1) := by decide +kernel
theorem dL_law_1319 : decode cL_law 1319 = .ok (.iaload, 1) := by decide +kernel
theorem dL_law_1320 : decode cL_law 1320 = .ok (.aload_n 0, 1) := by decide +kernel
theorem dL_law_1321 : decode cL_law 1321 = .ok (.iload_n 3, 1) := by decide +kernel
theorem dL_law_1322 : decode cL_law 1322 = .ok (.iconst 2, 1) := by decide +kernel
theorem dL_law_1323 : decode cL_law 1323 = .ok (.iadd, 1) := by decide +kernel
theorem dL_law_1324 : decode cL_law 1324 = .ok (.iaload, 1) := by decide +kernel
theorem dL_law_1325 : decode cL_law 1325 = .ok (.invokevirtual 146, 3) := by decide +kernel
theorem dL_law_1328 : decode cL_law 1328 = .ok (.pop, 1) := by decide +kernel
theorem dL_law_1329 : decode cL_law 1329 = .ok (.goto 348, 3) := by decide +kernel
theorem dL_law_1332 : decode cL_law 1332 = .ok (.aload_n 1, 1) := by decide +kernel
theorem dL_law_1333 : decode cL_law 1333 = .ok (.aload_n 0, 1) := by decide +kernel
theorem dL_law_1334 : decode cL_law 1334 = .ok (.iload_n 3, 1) := by decide +kernel
theorem dL_law_1335 : decode cL_law 1335 = .ok (.iconst 1, 1) := by decide +kernel
theorem dL_law_1336 : decode cL_law 1336 = .ok (.iadd, 1) := by decide +kernel
theorem dL_law_1337 : decode cL_law 1337 = .ok (.iaload, 1) := by decide +kernel
theorem dL_law_1338 : decode cL_law 1338 = .ok (.aload_n 0, 1) := by decide +kernel
theorem dL_law_1339 : decode cL_law 1339 = .ok (.iload_n 3, 1) := by decide +kernel
theorem dL_law_1340 : decode cL_law 1340 = .ok (.iconst 2, 1) := by decide +kernel
theorem dL_law_1341 : decode cL_law 1341 = .ok (.iadd, 1) := by decide +kernel
theorem dL_law_1342 : decode cL_law 1342 = .ok (.iaload, 1) := by decide +kernel
theorem dL_law_1343 : decode cL_law 1343 = .ok (.invokevirtual 147, 3) := by decide +kernel
theorem dL_law_1346 : decode cL_law 1346 = .ok (.pop, 1) := by decide +kernel
theorem dL_law_1347 : decode cL_law 1347 = .ok (.aload_n 2, 1) := by decide +kernel
theorem dL_law_1348 : decode cL_law 1348 = .ok (.aload_n 0, 1) := by decide +kernel
theorem dL_law_1349 : decode cL_law 1349 = .ok (.iload_n 3, 1) := by decide +kernel
theorem dL_law_1350 : decode cL_law 1350 = .ok (.iconst 1, 1) := by decide +kernel
theorem dL_law_1351 : decode cL_law 1351 = .ok (.iadd, 1) := by decide +kernel
theorem dL_law_1352 : decode cL_law 1352 = .ok (.iaload, 1) := by decide +kernel
theorem dL_law_1353 : decode cL_law 1353 = .ok (.aload_n 0, 1) := by decide +kernel
theorem dL_law_1354 : decode cL_law 1354 = .ok (.iload_n 3, 1) := by decide +kernel
theorem dL_law_1355 : decode cL_law 1355 = .ok (.iconst 2, 1) := by decide +kernel
theorem dL_law_1356 : decode cL_law 1356 = .ok (.iadd, 1) := by decide +kernel
theorem dL_law_1357 : decode cL_law 1357 = .ok (.iaload, 1) := by decide +kernel
theorem dL_law_1358 : decode cL_law 1358 = .ok (.invokevirtual 150, 3) := by decide +kernel
theorem dL_law_1361 : decode cL_law 1361 = .ok (.pop, 1) := by decide +kernel
theorem dL_law_1362 : decode cL_law 1362 = .ok (.goto 315, 3) := by decide +kernel
theorem dL_law_1365 : decode cL_law 1365 = .ok (.aload_n 1, 1) := by decide +kernel
theorem dL_law_1366 : decode cL_law 1366 = .ok (.aload_n 0, 1) := by decide +kernel
theorem dL_law_1367 : decode cL_law 1367 = .ok (.iload_n 3, 1) := by decide +kernel
theorem dL_law_1368 : decode cL_law 1368 = .ok (.iconst 1, 1) := by decide +kernel
theorem dL_law_1369 : decode cL_law 1369 = .ok (.iadd, 1) := by decide +kernel
theorem dL_law_1370 : decode cL_law 1370 = .ok (.iaload, 1) := by decide +kernel
theorem dL_law_1371 : decode cL_law 1371 = .ok (.invokevirtual 151, 3) := by decide +kernel
theorem dL_law_1374 : decode cL_law 1374 = .ok (.pop, 1) := by decide +kernel
theorem dL_law_1375 : decode cL_law 1375 = .ok (.aload_n 2, 1) := by decide +kernel
theorem dL_law_1376 : decode cL_law 1376 = .ok (.aload_n 0, 1) := by decide +kernel
theorem dL_law_1377 : decode cL_law 1377 = .ok (.iload_n 3, 1) := by decide +kernel
theorem dL_law_1378 : decode cL_law 1378 = .ok (.iconst 1, 1) := by decide +kernel
theorem dL_law_1379 : decode cL_law 1379 = .ok (.iadd, 1) := by decide +kernel
theorem dL_law_1380 : decode cL_law 1380 = .ok (.iaload, 1) := by decide +kernel
theorem dL_law_1381 : decode cL_law 1381 = .ok (.invokevirtual 154, 3) := by decide +kernel
theorem dL_law_1384 : decode cL_law 1384 = .ok (.pop, 1) := by decide +kernel
theorem dL_law_1385 : decode cL_law 1385 = .ok (.goto 292, 3) := by decide +kernel
theorem dL_law_1388 : decode cL_law 1388 = .ok (.aload_n 1, 1) := by decide +kernel
theorem dL_law_1389 : decode cL_law 1389 = .ok (.invokevirtual 155, 3) := by decide +kernel
theorem dL_law_1392 : decode cL_law 1392 = .ok (.pop, 1) := by decide +kernel
theorem dL_law_1393 : decode cL_law 1393 = .ok (.aload_n 2, 1) := by decide +kernel
theorem dL_law_1394 : decode cL_law 1394 = .ok (.invokevirtual 158, 3) := by decide +kernel
theorem dL_law_1397 : decode cL_law 1397 = .ok (.pop, 1) := by decide +kernel
theorem dL_law_1398 : decode cL_law 1398 = .ok (.goto 279, 3) := by decide +kernel
theorem dL_law_1401 : decode cL_law 1401 = .ok (.aload_n 1, 1) := by decide +kernel
theorem dL_law_1402 : decode cL_law 1402 = .ok (.aload_n 0, 1) := by decide +kernel
theorem dL_law_1403 : decode cL_law 1403 = .ok (.iload_n 3, 1) := by decide +kernel
theorem dL_law_1404 : decode cL_law 1404 = .ok (.iconst 1, 1) := by decide +kernel
theorem dL_law_1405 : decode cL_law 1405 = .ok (.iadd, 1) := by decide +kernel
theorem dL_law_1406 : decode cL_law 1406 = .ok (.iaload, 1) := by decide +kernel
theorem dL_law_1407 : decode cL_law 1407 = .ok (.aload_n 0, 1) := by decide +kernel
theorem dL_law_1408 : decode cL_law 1408 = .ok (.iload_n 3, 1) := by decide +kernel
theorem dL_law_1409 : decode cL_law 1409 = .ok (.iconst 2, 1) := by decide +kernel
theorem dL_law_1410 : decode cL_law 1410 = .ok (.iadd, 1) := by decide +kernel
theorem dL_law_1411 : decode cL_law 1411 = .ok (.iaload, 1) := by decide +kernel
theorem dL_law_1412 : decode cL_law 1412 = .ok (.invokevirtual 159, 3) := by decide +kernel
theorem dL_law_1415 : decode cL_law 1415 = .ok (.pop, 1) := by decide +kernel
theorem dL_law_1416 : decode cL_law 1416 = .ok (.aload_n 2, 1) := by decide +kernel
theorem dL_law_1417 : decode cL_law 1417 = .ok (.aload_n 0, 1) := by decide +kernel
theorem dL_law_1418 : decode cL_law 1418 = .ok (.iload_n 3, 1) := by decide +kernel
theorem dL_law_1419 : decode cL_law 1419 = .ok (.iconst 1, 1) := by decide +kernel
theorem dL_law_1420 : decode cL_law 1420 = .ok (.iadd, 1) := by decide +kernel
theorem dL_law_1421 : decode cL_law 1421 = .ok (.iaload, 1) := by decide +kernel
theorem dL_law_1422 : decode cL_law 1422 = .ok (.aload_n 0, 1) := by decide +kernel
theorem dL_law_1423 : decode cL_law 1423 = .ok (.iload_n 3, 1) := by decide +kernel
theorem dL_law_1424 : decode cL_law 1424 = .ok (.iconst 2, 1) := by decide +kernel
theorem dL_law_1425 : decode cL_law 1425 = .ok (.iadd, 1) := by decide +kernel
theorem dL_law_1426 : decode cL_law 1426 = .ok (.iaload, 1) := by decide +kernel
theorem dL_law_1427 : decode cL_law 1427 = .ok (.invokevirtual 162, 3) := by decide +kernel
theorem dL_law_1430 : decode cL_law 1430 = .ok (.pop, 1) := by decide +kernel
theorem dL_law_1431 : decode cL_law 1431 = .ok (.goto 246, 3) := by decide +kernel
set_option maxHeartbeats 4000000 in
set_option maxRecDepth 100000 in
theorem law_case_24 (l : Launch) (G : va_G) (cI cJ cZ cD cR cT : ClassId) (σ : SE) (x k b Ls : Nat) (xs : Nat → Int32) (p : Program) (e : Env) (s : State) (m : MethodId) (below : List Frame) (meth : Method) (c : Code) (A : Nat → Prop) (Q : State → Prop) (i : Int32) (E : EV G cI cJ cZ cD cR cT A cL_law ret 4 RL p s m ([.ref b] : List Value).toArray meth c) (hSX : SX σ A s s.heap) (hCA : CA s) (hX : va_X b Ls xs s s.heap) (hbl : b < s.heap.size) (hbA : ¬ A b) (hi : 0 ≤ i.toInt ∧ i.toInt + 6 ≤ (Ls : Int) ∧ Ls ≤ 3072) (cells slots : Nat) (hc : cells + 8 ≤ room_1.cells) (hs : slots + 2810 ≤ room_1.slots) (kp : Nat → Nat) (L : List Nat) (f : Nat → va_E) (S : State) (ls : Array Slot) (H : Heap) (locs : List Loc) (hI : LWS G cI cJ cZ cD cR cT A kp L f x k s S H locs) (hl : lv_has ls 4 [(3, .int i), (2, .ref k), (1, .ref x), (0, .ref b)])
  (hend : ∀ (kp : Nat → Nat) (L : List Nat) (f : Nat → va_E) (S : State) (ls : Array Slot) (H : Heap) (locs : List Loc), LWS G cI cJ cZ cD cR cT A kp L f x k s S H locs → lv_has ls 4 [(3, .int i), (2, .ref k), (1, .ref x), (0, .ref b)] → W p l e room_1 S m ([.ref b] : List Value).toArray below meth c H locs (cells + 8) (slots + 2810) Q (F0 m 1677 ls [])) : W p l e room_1 S m ([.ref b] : List Value).toArray below meth c H locs cells slots Q (F0 m 1048 ls []) := by
  obtain ⟨hdr, hW, rx, rk, hT, hZ⟩ := hI
  have hq := hs_S hdr
  have ES := ev_S E hdr
  have hXS := xx_S hdr hX
  have hTH := hW.2.2.2
  obtain ⟨hx, hb, -, hml, hown, hts, -, -, -⟩ := id ES
  have rx0 := rx
  have rk0 := rk
  refine lv_aload_n hx hb dL_law_1048 rfl (lv_at hl 2 rfl) ?_
  refine law_arg (k := 1) hx hb hl hXS (by rw [hq]; exact hbl) hbA hW.2.2.1 hi rfl (by decide) dL_law_1049 dL_law_1050 dL_law_1051 dL_law_1052 dL_law_1053 ?_
  refine t_callV (As := [.int (ag xs i 1)]) (rest := []) ES hW (c_X11_go_u l G cI cJ cZ cD cR cT kp L f hW.2.2.2 _ x (ag xs i 1) rx) rx (by decide) rfl wk_X11_go tw_1106 rfl ⟨Nat.le_of_ble_eq_true rfl, Nat.le_of_ble_eq_true rfl⟩ ⟨rfl, rfl⟩ hl.1 rfl (Nat.le_of_ble_eq_true rfl) dL_law_1054 ⟨by omega, by omega⟩ (fun v f1 H locs q hW1 => ?_)
  obtain ⟨⟨r1, rfl, p1⟩, g1, w1⟩ := q
  have hT1 := txi_fm hTH hT g1 rk0 rfl rfl rfl rfl
  have hZ1 := tie_pa hTH hZ g1 (wu_nil w1) rx0 rk0 rfl (by rw [fm_I g1 rx0 rfl]) (by rw [fm_I g1 rx0 rfl]) rfl rfl rfl
  have hW := hW1
  refine lv_pop hx hb dL_law_1057 rfl ?_
  refine lv_aload_n hx hb dL_law_1058 rfl (lv_at hl 1 rfl) ?_
  refine law_arg (k := 1) hx hb hl hXS (by rw [hq]; exact hbl) hbA hW.2.2.1 hi rfl (by decide) dL_law_1059 dL_law_1060 dL_law_1061 dL_law_1062 dL_law_1063 ?_
  refine t_callV (As := [.int (ag xs i 1)]) (rest := []) ES hW1 (c_X12_go_u l G cI cJ cZ cD cR cT kp L f1 hW1.2.2.2 _ k (ag xs i 1) rk hT1.1) rk (by decide) rfl wk_X12_go tw_1913 rfl ⟨Nat.le_of_ble_eq_true rfl, Nat.le_of_ble_eq_true rfl⟩ ⟨rfl, rfl⟩ hl.1 rfl (Nat.le_of_ble_eq_true rfl) dL_law_1064 ⟨by omega, by omega⟩ (fun v f2 H locs q hW2 => ?_)
  obtain ⟨⟨r2, rfl, p2⟩, g2, hP, hR⟩ := q
  have hT2 := txi_rf hW1.2.2.2 hT1 g2 rk rfl rfl rfl hR (by decide) (by decide)
  have hZ2 := tie_row hW1.2.2.2 hZ1 g2 rx rk rfl rfl rfl rfl rfl (r8_pl rk g2 rfl hR (by decide +kernel) hP)
  refine lv_pop hx hb dL_law_1067 rfl ?_
  refine lv_goto (tgt := 1677) hx hb dL_law_1068 (by decide) ?_
  refine W.more (c2 := cells + 8) (s2 := slots + 2810) (by omega) (by omega) ?_
  exact hend kp L f2 S ls H locs ⟨hdr, hW2, rx, rk, hT2, hZ2⟩ hl
set_option maxHeartbeats 4000000 in
set_option maxRecDepth 100000 in
theorem law_case_25 (l : Launch) (G : va_G) (cI cJ cZ cD cR cT : ClassId) (σ : SE) (x k b Ls : Nat) (xs : Nat → Int32) (p : Program) (e : Env) (s : State) (m : MethodId) (below : List Frame) (meth : Method) (c : Code) (A : Nat → Prop) (Q : State → Prop) (i : Int32) (E : EV G cI cJ cZ cD cR cT A cL_law ret 4 RL p s m ([.ref b] : List Value).toArray meth c) (hSX : SX σ A s s.heap) (hCA : CA s) (hX : va_X b Ls xs s s.heap) (hbl : b < s.heap.size) (hbA : ¬ A b) (hi : 0 ≤ i.toInt ∧ i.toInt + 6 ≤ (Ls : Int) ∧ Ls ≤ 3072) (cells slots : Nat) (hc : cells + 8 ≤ room_1.cells) (hs : slots + 2810 ≤ room_1.slots) (kp : Nat → Nat) (L : List Nat) (f : Nat → va_E) (S : State) (ls : Array Slot) (H : Heap) (locs : List Loc) (hI : LWS G cI cJ cZ cD cR cT A kp L f x k s S H locs) (hl : lv_has ls 4 [(3, .int i), (2, .ref k), (1, .ref x), (0, .ref b)])
  (hend : ∀ (kp : Nat → Nat) (L : List Nat) (f : Nat → va_E) (S : State) (ls : Array Slot) (H : Heap) (locs : List Loc), LWS G cI cJ cZ cD cR cT A kp L f x k s S H locs → lv_has ls 4 [(3, .int i), (2, .ref k), (1, .ref x), (0, .ref b)] → W p l e room_1 S m ([.ref b] : List Value).toArray below meth c H locs (cells + 8) (slots + 2810) Q (F0 m 1677 ls [])) : W p l e room_1 S m ([.ref b] : List Value).toArray below meth c H locs cells slots Q (F0 m 1071 ls []) := by
  obtain ⟨hdr, hW, rx, rk, hT, hZ⟩ := hI
  have hq := hs_S hdr
  have ES := ev_S E hdr
  have hXS := xx_S hdr hX
  have hTH := hW.2.2.2
  obtain ⟨hx, hb, -, hml, hown, hts, -, -, -⟩ := id ES
  have rx0 := rx
  have rk0 := rk
  refine lv_aload_n hx hb dL_law_1071 rfl (lv_at hl 2 rfl) ?_
  refine law_arg (k := 1) hx hb hl hXS (by rw [hq]; exact hbl) hbA hW.2.2.1 hi rfl (by decide) dL_law_1072 dL_law_1073 dL_law_1074 dL_law_1075 dL_law_1076 ?_
  refine law_arg (k := 2) hx hb hl hXS (by rw [hq]; exact hbl) hbA hW.2.2.1 hi rfl (by decide) dL_law_1077 dL_law_1078 dL_law_1079 dL_law_1080 dL_law_1081 ?_
  refine law_arg (k := 3) hx hb hl hXS (by rw [hq]; exact hbl) hbA hW.2.2.1 hi rfl (by decide) dL_law_1082 dL_law_1083 dL_law_1084 dL_law_1085 dL_law_1086 ?_
  refine t_callV (As := [.int (ag xs i 1), .int (ag xs i 2), .int (ag xs i 3)]) (rest := []) ES hW (c_X11_deal l G cI cJ cZ cD cR cT kp L f hW.2.2.2 _ x (ag xs i 1) (ag xs i 2) (ag xs i 3) rx) rx (by decide) rfl wk_X11_deal tw_1176 rfl ⟨Nat.le_of_ble_eq_true rfl, Nat.le_of_ble_eq_true rfl⟩ ⟨rfl, rfl⟩ hl.1 rfl (Nat.le_of_ble_eq_true rfl) dL_law_1087 ⟨by omega, by omega⟩ (fun v f1 H locs q hW1 => ?_)
  obtain ⟨⟨r1, rfl, p1⟩, g1⟩ := q
  have hT1 := txi_fm hTH hT g1 rk0 rfl rfl rfl rfl
  have hZ1 := tie_fm hTH hZ g1 rx0 rk0 rfl rfl rfl rfl rfl rfl
  have hW := hW1
  refine lv_pop hx hb dL_law_1090 rfl ?_
  refine lv_aload_n hx hb dL_law_1091 rfl (lv_at hl 1 rfl) ?_
  refine law_arg (k := 1) hx hb hl hXS (by rw [hq]; exact hbl) hbA hW.2.2.1 hi rfl (by decide) dL_law_1092 dL_law_1093 dL_law_1094 dL_law_1095 dL_law_1096 ?_
  refine law_arg (k := 2) hx hb hl hXS (by rw [hq]; exact hbl) hbA hW.2.2.1 hi rfl (by decide) dL_law_1097 dL_law_1098 dL_law_1099 dL_law_1100 dL_law_1101 ?_
  refine law_arg (k := 3) hx hb hl hXS (by rw [hq]; exact hbl) hbA hW.2.2.1 hi rfl (by decide) dL_law_1102 dL_law_1103 dL_law_1104 dL_law_1105 dL_law_1106 ?_
  refine t_callV (As := [.int (ag xs i 1), .int (ag xs i 2), .int (ag xs i 3)]) (rest := []) ES hW1 (c_X12_deal_u l G cI cJ cZ cD cR cT kp L f1 hW1.2.2.2 _ k (ag xs i 1) (ag xs i 2) (ag xs i 3) rk) rk (by decide) rfl wk_X12_deal tw_1966 rfl ⟨Nat.le_of_ble_eq_true rfl, Nat.le_of_ble_eq_true rfl⟩ ⟨rfl, rfl⟩ hl.1 rfl (Nat.le_of_ble_eq_true rfl) dL_law_1107 ⟨by omega, by omega⟩ (fun v f2 H locs q hW2 => ?_)
  obtain ⟨⟨r2, rfl, p2⟩, g2, hP, hR⟩ := q
  have hT2 := txi_rf hW1.2.2.2 hT1 g2 rk rfl rfl rfl hR (by decide) (by decide)
  have hZ2 := tie_row hW1.2.2.2 hZ1 g2 rx rk rfl rfl rfl rfl rfl (r8_pl rk g2 rfl hR (by decide +kernel) hP)
  refine lv_pop hx hb dL_law_1110 rfl ?_
  refine lv_goto (tgt := 1677) hx hb dL_law_1111 (by decide) ?_
  refine W.more (c2 := cells + 8) (s2 := slots + 2810) (by omega) (by omega) ?_
  exact hend kp L f2 S ls H locs ⟨hdr, hW2, rx, rk, hT2, hZ2⟩ hl
set_option maxHeartbeats 4000000 in
set_option maxRecDepth 100000 in
theorem law_case_26 (l : Launch) (G : va_G) (cI cJ cZ cD cR cT : ClassId) (σ : SE) (x k b Ls : Nat) (xs : Nat → Int32) (p : Program) (e : Env) (s : State) (m : MethodId) (below : List Frame) (meth : Method) (c : Code) (A : Nat → Prop) (Q : State → Prop) (i : Int32) (E : EV G cI cJ cZ cD cR cT A cL_law ret 4 RL p s m ([.ref b] : List Value).toArray meth c) (hSX : SX σ A s s.heap) (hCA : CA s) (hX : va_X b Ls xs s s.heap) (hbl : b < s.heap.size) (hbA : ¬ A b) (hi : 0 ≤ i.toInt ∧ i.toInt + 6 ≤ (Ls : Int) ∧ Ls ≤ 3072) (cells slots : Nat) (hc : cells + 8 ≤ room_1.cells) (hs : slots + 2810 ≤ room_1.slots) (kp : Nat → Nat) (L : List Nat) (f : Nat → va_E) (S : State) (ls : Array Slot) (H : Heap) (locs : List Loc) (hI : LWS G cI cJ cZ cD cR cT A kp L f x k s S H locs) (hl : lv_has ls 4 [(3, .int i), (2, .ref k), (1, .ref x), (0, .ref b)])
  (hend : ∀ (kp : Nat → Nat) (L : List Nat) (f : Nat → va_E) (S : State) (ls : Array Slot) (H : Heap) (locs : List Loc), LWS G cI cJ cZ cD cR cT A kp L f x k s S H locs → lv_has ls 4 [(3, .int i), (2, .ref k), (1, .ref x), (0, .ref b)] → W p l e room_1 S m ([.ref b] : List Value).toArray below meth c H locs (cells + 8) (slots + 2810) Q (F0 m 1677 ls [])) : W p l e room_1 S m ([.ref b] : List Value).toArray below meth c H locs cells slots Q (F0 m 1114 ls []) := by
  obtain ⟨hdr, hW, rx, rk, hT, hZ⟩ := hI
  have hq := hs_S hdr
  have ES := ev_S E hdr
  have hXS := xx_S hdr hX
  have hTH := hW.2.2.2
  obtain ⟨hx, hb, -, hml, hown, hts, -, -, -⟩ := id ES
  have rx0 := rx
  have rk0 := rk
  refine lv_aload_n hx hb dL_law_1114 rfl (lv_at hl 2 rfl) ?_
  refine law_arg (k := 1) hx hb hl hXS (by rw [hq]; exact hbl) hbA hW.2.2.1 hi rfl (by decide) dL_law_1115 dL_law_1116 dL_law_1117 dL_law_1118 dL_law_1119 ?_
  refine t_callV (As := [.int (ag xs i 1)]) (rest := []) ES hW (c_X11_brave_u l G cI cJ cZ cD cR cT kp L f hW.2.2.2 _ x (ag xs i 1) rx) rx (by decide) rfl wk_X11_brave tw_1189 rfl ⟨Nat.le_of_ble_eq_true rfl, Nat.le_of_ble_eq_true rfl⟩ ⟨rfl, rfl⟩ hl.1 rfl (Nat.le_of_ble_eq_true rfl) dL_law_1120 ⟨by omega, by omega⟩ (fun v f1 H locs q hW1 => ?_)
  obtain ⟨⟨r1, rfl, p1⟩, g1, w1⟩ := q
  have hT1 := txi_fm hTH hT g1 rk0 rfl rfl rfl rfl
  have hR1 := re_fm g1 rx0 (rfl : NO KR _ = true)
  have row1 := row_fm hTH rk0 g1 rfl
  have tp := tie_pe hZ
  have tl := tie_le hZ
  have bn := th_iv hW (rk2 hTH (rk4 hTH rx0).1).1 (by decide) (k := 0) (by decide) rfl
  have bo := th_iv hW (rk2 hTH (rk4 hTH rx0).1).2 (by decide) (k := 3) (by decide) rfl
  have hW := hW1
  refine lv_pop hx hb dL_law_1123 rfl ?_
  refine lv_aload_n hx hb dL_law_1124 rfl (lv_at hl 1 rfl) ?_
  refine law_arg (k := 1) hx hb hl hXS (by rw [hq]; exact hbl) hbA hW.2.2.1 hi rfl (by decide) dL_law_1125 dL_law_1126 dL_law_1127 dL_law_1128 dL_law_1129 ?_
  refine t_callV (As := [.int (ag xs i 1)]) (rest := []) ES hW1 (c_X12_brave_u l G cI cJ cZ cD cR cT kp L f1 hW1.2.2.2 _ k (ag xs i 1) rk) rk (by decide) rfl wk_X12_brave tw_1978 rfl ⟨Nat.le_of_ble_eq_true rfl, Nat.le_of_ble_eq_true rfl⟩ ⟨rfl, rfl⟩ hl.1 rfl (Nat.le_of_ble_eq_true rfl) dL_law_1130 ⟨by omega, by omega⟩ (fun v f2 H locs q hW2 => ?_)
  obtain ⟨⟨r2, rfl, p2⟩, g2, hR⟩ := q
  have hT2 := txi_rf hW1.2.2.2 hT1 g2 rk rfl rfl rfl hR (by decide) (by decide)
  rw [row1, ← tl] at p2
  have z := p1.trans p2.symm
  have r12 : r1.toInt = r2.toInt := congrArg Prod.fst z
  have hp : L8 f1 (oR (f (oR (f x) 0)) 5) = RG (aI (f2 (oR (f1 k) 2))) 0 := congrArg Prod.snd z
  have e2 : oR (f2 k) 2 = oR (f1 k) 2 := fm_R g2 rk rfl
  have hv : SA (V8 f1 (oR (f x) 0)) (R8 (aI (f2 (oR (f2 k) 2))) 0) := by
    refine ⟨?_, ?_⟩
    · rw [own_l hR1 (rk4 hTH rx0).1 hTH w1 (nd_pl (nd_l hZ.1)).2]
      unfold R8
      rw [e2, hp, rp_rf hR rfl (by decide +kernel), row1, tp.1]
    · show HC (RP (aI (f2 (oR (f2 k) 2))) 0)
      rw [e2, rp_rf hR rfl (by decide +kernel), row1]
      exact tp.2
  have hZ2 := tie_own hTH hW1.2.2.2 hZ g1 g2 w1 (fun q h => by simp only [T8, List.mem_cons, List.not_mem_nil, or_false] at h ⊢; omega) rx rk rfl rfl rfl rfl rfl rfl rfl rfl rfl hv
  refine lv_pop hx hb dL_law_1133 rfl ?_
  refine lv_goto (tgt := 1677) hx hb dL_law_1134 (by decide) ?_
  refine W.more (c2 := cells + 8) (s2 := slots + 2810) (by omega) (by omega) ?_
  exact hend kp L f2 S ls H locs ⟨hdr, hW2, rx, rk, hT2, hZ2⟩ hl
set_option maxHeartbeats 4000000 in
set_option maxRecDepth 100000 in
theorem law_case_27 (l : Launch) (G : va_G) (cI cJ cZ cD cR cT : ClassId) (σ : SE) (x k b Ls : Nat) (xs : Nat → Int32) (p : Program) (e : Env) (s : State) (m : MethodId) (below : List Frame) (meth : Method) (c : Code) (A : Nat → Prop) (Q : State → Prop) (i : Int32) (E : EV G cI cJ cZ cD cR cT A cL_law ret 4 RL p s m ([.ref b] : List Value).toArray meth c) (hSX : SX σ A s s.heap) (hCA : CA s) (hX : va_X b Ls xs s s.heap) (hbl : b < s.heap.size) (hbA : ¬ A b) (hi : 0 ≤ i.toInt ∧ i.toInt + 6 ≤ (Ls : Int) ∧ Ls ≤ 3072) (cells slots : Nat) (hc : cells + 8 ≤ room_1.cells) (hs : slots + 2810 ≤ room_1.slots) (kp : Nat → Nat) (L : List Nat) (f : Nat → va_E) (S : State) (ls : Array Slot) (H : Heap) (locs : List Loc) (hI : LWS G cI cJ cZ cD cR cT A kp L f x k s S H locs) (hl : lv_has ls 4 [(3, .int i), (2, .ref k), (1, .ref x), (0, .ref b)])
  (hend : ∀ (kp : Nat → Nat) (L : List Nat) (f : Nat → va_E) (S : State) (ls : Array Slot) (H : Heap) (locs : List Loc), LWS G cI cJ cZ cD cR cT A kp L f x k s S H locs → lv_has ls 4 [(3, .int i), (2, .ref k), (1, .ref x), (0, .ref b)] → W p l e room_1 S m ([.ref b] : List Value).toArray below meth c H locs (cells + 8) (slots + 2810) Q (F0 m 1677 ls [])) : W p l e room_1 S m ([.ref b] : List Value).toArray below meth c H locs cells slots Q (F0 m 1137 ls []) := by
  obtain ⟨hdr, hW, rx, rk, hT, hZ⟩ := hI
  have hq := hs_S hdr
  have ES := ev_S E hdr
  have hXS := xx_S hdr hX
  have hTH := hW.2.2.2
  obtain ⟨hx, hb, -, hml, hown, hts, -, -, -⟩ := id ES
  have rx0 := rx
  have rk0 := rk
  refine lv_aload_n hx hb dL_law_1137 rfl (lv_at hl 2 rfl) ?_
  refine law_arg (k := 1) hx hb hl hXS (by rw [hq]; exact hbl) hbA hW.2.2.1 hi rfl (by decide) dL_law_1138 dL_law_1139 dL_law_1140 dL_law_1141 dL_law_1142 ?_
  refine law_arg (k := 2) hx hb hl hXS (by rw [hq]; exact hbl) hbA hW.2.2.1 hi rfl (by decide) dL_law_1143 dL_law_1144 dL_law_1145 dL_law_1146 dL_law_1147 ?_
  refine t_callV (As := [.int (ag xs i 1), .int (ag xs i 2)]) (rest := []) ES hW (c_X11_keeps l G cI cJ cZ cD cR cT kp L f hW.2.2.2 _ x (ag xs i 1) (ag xs i 2) rx) rx (by decide) rfl wk_X11_keeps tw_1193 rfl ⟨Nat.le_of_ble_eq_true rfl, Nat.le_of_ble_eq_true rfl⟩ ⟨rfl, rfl⟩ hl.1 rfl (Nat.le_of_ble_eq_true rfl) dL_law_1148 ⟨by omega, by omega⟩ (fun v f1 H locs q hW1 => ?_)
  obtain ⟨⟨r1, rfl, p1⟩, g1⟩ := q
  have hT1 := txi_fm hTH hT g1 rk0 rfl rfl rfl rfl
  have hZ1 := tie_fm hTH hZ g1 rx0 rk0 rfl rfl rfl rfl rfl rfl
  have hW := hW1
  refine lv_pop hx hb dL_law_1151 rfl ?_
  refine lv_aload_n hx hb dL_law_1152 rfl (lv_at hl 1 rfl) ?_
  refine law_arg (k := 1) hx hb hl hXS (by rw [hq]; exact hbl) hbA hW.2.2.1 hi rfl (by decide) dL_law_1153 dL_law_1154 dL_law_1155 dL_law_1156 dL_law_1157 ?_
  refine law_arg (k := 2) hx hb hl hXS (by rw [hq]; exact hbl) hbA hW.2.2.1 hi rfl (by decide) dL_law_1158 dL_law_1159 dL_law_1160 dL_law_1161 dL_law_1162 ?_
  refine t_callV (As := [.int (ag xs i 1), .int (ag xs i 2)]) (rest := []) ES hW1 (c_X12_keeps l G cI cJ cZ cD cR cT kp L f1 hW1.2.2.2 _ k (ag xs i 1) (ag xs i 2) rk) rk (by decide) rfl wk_X12_keeps tw_1983 rfl ⟨Nat.le_of_ble_eq_true rfl, Nat.le_of_ble_eq_true rfl⟩ ⟨rfl, rfl⟩ hl.1 rfl (Nat.le_of_ble_eq_true rfl) dL_law_1163 ⟨by omega, by omega⟩ (fun v f2 H locs q hW2 => ?_)
  obtain ⟨⟨r2, rfl, p2⟩, g2⟩ := q
  have hT2 := txi_fm hW1.2.2.2 hT1 g2 rk rfl rfl rfl rfl
  have hZ2 := tie_fm hW1.2.2.2 hZ1 g2 rx rk rfl rfl rfl rfl rfl rfl
  refine lv_pop hx hb dL_law_1166 rfl ?_
  refine lv_goto (tgt := 1677) hx hb dL_law_1167 (by decide) ?_
  refine W.more (c2 := cells + 8) (s2 := slots + 2810) (by omega) (by omega) ?_
  exact hend kp L f2 S ls H locs ⟨hdr, hW2, rx, rk, hT2, hZ2⟩ hl
set_option maxHeartbeats 4000000 in
set_option maxRecDepth 100000 in
theorem law_case_28 (l : Launch) (G : va_G) (cI cJ cZ cD cR cT : ClassId) (σ : SE) (x k b Ls : Nat) (xs : Nat → Int32) (p : Program) (e : Env) (s : State) (m : MethodId) (below : List Frame) (meth : Method) (c : Code) (A : Nat → Prop) (Q : State → Prop) (i : Int32) (E : EV G cI cJ cZ cD cR cT A cL_law ret 4 RL p s m ([.ref b] : List Value).toArray meth c) (hSX : SX σ A s s.heap) (hCA : CA s) (hX : va_X b Ls xs s s.heap) (hbl : b < s.heap.size) (hbA : ¬ A b) (hi : 0 ≤ i.toInt ∧ i.toInt + 6 ≤ (Ls : Int) ∧ Ls ≤ 3072) (cells slots : Nat) (hc : cells + 8 ≤ room_1.cells) (hs : slots + 2810 ≤ room_1.slots) (kp : Nat → Nat) (L : List Nat) (f : Nat → va_E) (S : State) (ls : Array Slot) (H : Heap) (locs : List Loc) (hI : LWS G cI cJ cZ cD cR cT A kp L f x k s S H locs) (hl : lv_has ls 4 [(3, .int i), (2, .ref k), (1, .ref x), (0, .ref b)])
  (hend : ∀ (kp : Nat → Nat) (L : List Nat) (f : Nat → va_E) (S : State) (ls : Array Slot) (H : Heap) (locs : List Loc), LWS G cI cJ cZ cD cR cT A kp L f x k s S H locs → lv_has ls 4 [(3, .int i), (2, .ref k), (1, .ref x), (0, .ref b)] → W p l e room_1 S m ([.ref b] : List Value).toArray below meth c H locs (cells + 8) (slots + 2810) Q (F0 m 1677 ls [])) : W p l e room_1 S m ([.ref b] : List Value).toArray below meth c H locs cells slots Q (F0 m 1170 ls []) := by
  obtain ⟨hdr, hW, rx, rk, hT, hZ⟩ := hI
  have hq := hs_S hdr
  have ES := ev_S E hdr
  have hXS := xx_S hdr hX
  have hTH := hW.2.2.2
  obtain ⟨hx, hb, -, hml, hown, hts, -, -, -⟩ := id ES
  have rx0 := rx
  have rk0 := rk
  refine lv_aload_n hx hb dL_law_1170 rfl (lv_at hl 2 rfl) ?_
  refine law_arg (k := 1) hx hb hl hXS (by rw [hq]; exact hbl) hbA hW.2.2.1 hi rfl (by decide) dL_law_1171 dL_law_1172 dL_law_1173 dL_law_1174 dL_law_1175 ?_
  refine law_arg (k := 2) hx hb hl hXS (by rw [hq]; exact hbl) hbA hW.2.2.1 hi rfl (by decide) dL_law_1176 dL_law_1177 dL_law_1178 dL_law_1179 dL_law_1180 ?_
  refine law_arg (k := 3) hx hb hl hXS (by rw [hq]; exact hbl) hbA hW.2.2.1 hi rfl (by decide) dL_law_1181 dL_law_1182 dL_law_1183 dL_law_1184 dL_law_1185 ?_
  refine law_arg (k := 4) hx hb hl hXS (by rw [hq]; exact hbl) hbA hW.2.2.1 hi rfl (by decide) dL_law_1186 dL_law_1187 dL_law_1188 dL_law_1189 dL_law_1190 ?_
  refine t_callV (As := [.int (ag xs i 1), .int (ag xs i 2), .int (ag xs i 3), .int (ag xs i 4)]) (rest := []) ES hW (c_X11_broke l G cI cJ cZ cD cR cT kp L f hW.2.2.2 _ x (ag xs i 1) (ag xs i 2) (ag xs i 3) (ag xs i 4) rx) rx (by decide) rfl wk_X11_broke tw_1197 rfl ⟨Nat.le_of_ble_eq_true rfl, Nat.le_of_ble_eq_true rfl⟩ ⟨rfl, rfl⟩ hl.1 rfl (Nat.le_of_ble_eq_true rfl) dL_law_1191 ⟨by omega, by omega⟩ (fun v f1 H locs q hW1 => ?_)
  obtain ⟨⟨r1, rfl, p1⟩, g1⟩ := q
  have hT1 := txi_fm hTH hT g1 rk0 rfl rfl rfl rfl
  have hZ1 := tie_fm hTH hZ g1 rx0 rk0 rfl rfl rfl rfl rfl rfl
  have hW := hW1
  refine lv_pop hx hb dL_law_1194 rfl ?_
  refine lv_aload_n hx hb dL_law_1195 rfl (lv_at hl 1 rfl) ?_
  refine law_arg (k := 1) hx hb hl hXS (by rw [hq]; exact hbl) hbA hW.2.2.1 hi rfl (by decide) dL_law_1196 dL_law_1197 dL_law_1198 dL_law_1199 dL_law_1200 ?_
  refine law_arg (k := 2) hx hb hl hXS (by rw [hq]; exact hbl) hbA hW.2.2.1 hi rfl (by decide) dL_law_1201 dL_law_1202 dL_law_1203 dL_law_1204 dL_law_1205 ?_
  refine law_arg (k := 3) hx hb hl hXS (by rw [hq]; exact hbl) hbA hW.2.2.1 hi rfl (by decide) dL_law_1206 dL_law_1207 dL_law_1208 dL_law_1209 dL_law_1210 ?_
  refine law_arg (k := 4) hx hb hl hXS (by rw [hq]; exact hbl) hbA hW.2.2.1 hi rfl (by decide) dL_law_1211 dL_law_1212 dL_law_1213 dL_law_1214 dL_law_1215 ?_
  refine t_callV (As := [.int (ag xs i 1), .int (ag xs i 2), .int (ag xs i 3), .int (ag xs i 4)]) (rest := []) ES hW1 (c_X12_broke l G cI cJ cZ cD cR cT kp L f1 hW1.2.2.2 _ k (ag xs i 1) (ag xs i 2) (ag xs i 3) (ag xs i 4) rk) rk (by decide) rfl wk_X12_broke tw_1987 rfl ⟨Nat.le_of_ble_eq_true rfl, Nat.le_of_ble_eq_true rfl⟩ ⟨rfl, rfl⟩ hl.1 rfl (Nat.le_of_ble_eq_true rfl) dL_law_1216 ⟨by omega, by omega⟩ (fun v f2 H locs q hW2 => ?_)
  obtain ⟨⟨r2, rfl, p2⟩, g2⟩ := q
  have hT2 := txi_fm hW1.2.2.2 hT1 g2 rk rfl rfl rfl rfl
  have hZ2 := tie_fm hW1.2.2.2 hZ1 g2 rx rk rfl rfl rfl rfl rfl rfl
  refine lv_pop hx hb dL_law_1219 rfl ?_
  refine lv_goto (tgt := 1677) hx hb dL_law_1220 (by decide) ?_
  refine W.more (c2 := cells + 8) (s2 := slots + 2810) (by omega) (by omega) ?_
  exact hend kp L f2 S ls H locs ⟨hdr, hW2, rx, rk, hT2, hZ2⟩ hl
set_option maxHeartbeats 4000000 in
set_option maxRecDepth 100000 in
theorem law_case_29 (l : Launch) (G : va_G) (cI cJ cZ cD cR cT : ClassId) (σ : SE) (x k b Ls : Nat) (xs : Nat → Int32) (p : Program) (e : Env) (s : State) (m : MethodId) (below : List Frame) (meth : Method) (c : Code) (A : Nat → Prop) (Q : State → Prop) (i : Int32) (E : EV G cI cJ cZ cD cR cT A cL_law ret 4 RL p s m ([.ref b] : List Value).toArray meth c) (hSX : SX σ A s s.heap) (hCA : CA s) (hX : va_X b Ls xs s s.heap) (hbl : b < s.heap.size) (hbA : ¬ A b) (hi : 0 ≤ i.toInt ∧ i.toInt + 6 ≤ (Ls : Int) ∧ Ls ≤ 3072) (cells slots : Nat) (hc : cells + 8 ≤ room_1.cells) (hs : slots + 2810 ≤ room_1.slots) (kp : Nat → Nat) (L : List Nat) (f : Nat → va_E) (S : State) (ls : Array Slot) (H : Heap) (locs : List Loc) (hI : LWS G cI cJ cZ cD cR cT A kp L f x k s S H locs) (hl : lv_has ls 4 [(3, .int i), (2, .ref k), (1, .ref x), (0, .ref b)])
  (hend : ∀ (kp : Nat → Nat) (L : List Nat) (f : Nat → va_E) (S : State) (ls : Array Slot) (H : Heap) (locs : List Loc), LWS G cI cJ cZ cD cR cT A kp L f x k s S H locs → lv_has ls 4 [(3, .int i), (2, .ref k), (1, .ref x), (0, .ref b)] → W p l e room_1 S m ([.ref b] : List Value).toArray below meth c H locs (cells + 8) (slots + 2810) Q (F0 m 1677 ls [])) : W p l e room_1 S m ([.ref b] : List Value).toArray below meth c H locs cells slots Q (F0 m 1223 ls []) := by
  obtain ⟨hdr, hW, rx, rk, hT, hZ⟩ := hI
  have hq := hs_S hdr
  have ES := ev_S E hdr
  have hXS := xx_S hdr hX
  have hTH := hW.2.2.2
  obtain ⟨hx, hb, -, hml, hown, hts, -, -, -⟩ := id ES
  have rx0 := rx
  have rk0 := rk
  refine lv_aload_n hx hb dL_law_1223 rfl (lv_at hl 2 rfl) ?_
  refine law_arg (k := 1) hx hb hl hXS (by rw [hq]; exact hbl) hbA hW.2.2.1 hi rfl (by decide) dL_law_1224 dL_law_1225 dL_law_1226 dL_law_1227 dL_law_1228 ?_
  refine law_arg (k := 2) hx hb hl hXS (by rw [hq]; exact hbl) hbA hW.2.2.1 hi rfl (by decide) dL_law_1229 dL_law_1230 dL_law_1231 dL_law_1232 dL_law_1233 ?_
  refine law_arg (k := 3) hx hb hl hXS (by rw [hq]; exact hbl) hbA hW.2.2.1 hi rfl (by decide) dL_law_1234 dL_law_1235 dL_law_1236 dL_law_1237 dL_law_1238 ?_
  refine t_callV (As := [.int (ag xs i 1), .int (ag xs i 2), .int (ag xs i 3)]) (rest := []) ES hW (c_X11_last l G cI cJ cZ cD cR cT kp L f hW.2.2.2 _ x (ag xs i 1) (ag xs i 2) (ag xs i 3) rx) rx (by decide) rfl wk_X11_last tw_1207 rfl ⟨Nat.le_of_ble_eq_true rfl, Nat.le_of_ble_eq_true rfl⟩ ⟨rfl, rfl⟩ hl.1 rfl (Nat.le_of_ble_eq_true rfl) dL_law_1239 ⟨by omega, by omega⟩ (fun v f1 H locs q hW1 => ?_)
  obtain ⟨⟨r1, rfl, p1⟩, g1⟩ := q
  have hT1 := txi_fm hTH hT g1 rk0 rfl rfl rfl rfl
  have hZ1 := tie_fm hTH hZ g1 rx0 rk0 rfl rfl rfl rfl rfl rfl
  have hW := hW1
  refine lv_pop hx hb dL_law_1242 rfl ?_
  refine lv_aload_n hx hb dL_law_1243 rfl (lv_at hl 1 rfl) ?_
  refine law_arg (k := 1) hx hb hl hXS (by rw [hq]; exact hbl) hbA hW.2.2.1 hi rfl (by decide) dL_law_1244 dL_law_1245 dL_law_1246 dL_law_1247 dL_law_1248 ?_
  refine law_arg (k := 2) hx hb hl hXS (by rw [hq]; exact hbl) hbA hW.2.2.1 hi rfl (by decide) dL_law_1249 dL_law_1250 dL_law_1251 dL_law_1252 dL_law_1253 ?_
  refine law_arg (k := 3) hx hb hl hXS (by rw [hq]; exact hbl) hbA hW.2.2.1 hi rfl (by decide) dL_law_1254 dL_law_1255 dL_law_1256 dL_law_1257 dL_law_1258 ?_
  refine t_callV (As := [.int (ag xs i 1), .int (ag xs i 2), .int (ag xs i 3)]) (rest := []) ES hW1 (c_X12_last l G cI cJ cZ cD cR cT kp L f1 hW1.2.2.2 _ k (ag xs i 1) (ag xs i 2) (ag xs i 3) rk) rk (by decide) rfl wk_X12_last tw_1992 rfl ⟨Nat.le_of_ble_eq_true rfl, Nat.le_of_ble_eq_true rfl⟩ ⟨rfl, rfl⟩ hl.1 rfl (Nat.le_of_ble_eq_true rfl) dL_law_1259 ⟨by omega, by omega⟩ (fun v f2 H locs q hW2 => ?_)
  obtain ⟨⟨r2, rfl, p2⟩, g2⟩ := q
  have hT2 := txi_fm hW1.2.2.2 hT1 g2 rk rfl rfl rfl rfl
  have hZ2 := tie_fm hW1.2.2.2 hZ1 g2 rx rk rfl rfl rfl rfl rfl rfl
  refine lv_pop hx hb dL_law_1262 rfl ?_
  refine lv_goto (tgt := 1677) hx hb dL_law_1263 (by decide) ?_
  refine W.more (c2 := cells + 8) (s2 := slots + 2810) (by omega) (by omega) ?_
  exact hend kp L f2 S ls H locs ⟨hdr, hW2, rx, rk, hT2, hZ2⟩ hl
set_option maxHeartbeats 4000000 in
set_option maxRecDepth 100000 in
theorem law_case_30 (l : Launch) (G : va_G) (cI cJ cZ cD cR cT : ClassId) (σ : SE) (x k b Ls : Nat) (xs : Nat → Int32) (p : Program) (e : Env) (s : State) (m : MethodId) (below : List Frame) (meth : Method) (c : Code) (A : Nat → Prop) (Q : State → Prop) (i : Int32) (E : EV G cI cJ cZ cD cR cT A cL_law ret 4 RL p s m ([.ref b] : List Value).toArray meth c) (hSX : SX σ A s s.heap) (hCA : CA s) (hX : va_X b Ls xs s s.heap) (hbl : b < s.heap.size) (hbA : ¬ A b) (hi : 0 ≤ i.toInt ∧ i.toInt + 6 ≤ (Ls : Int) ∧ Ls ≤ 3072) (cells slots : Nat) (hc : cells + 8 ≤ room_1.cells) (hs : slots + 2810 ≤ room_1.slots) (kp : Nat → Nat) (L : List Nat) (f : Nat → va_E) (S : State) (ls : Array Slot) (H : Heap) (locs : List Loc) (hI : LWS G cI cJ cZ cD cR cT A kp L f x k s S H locs) (hl : lv_has ls 4 [(3, .int i), (2, .ref k), (1, .ref x), (0, .ref b)])
  (hend : ∀ (kp : Nat → Nat) (L : List Nat) (f : Nat → va_E) (S : State) (ls : Array Slot) (H : Heap) (locs : List Loc), LWS G cI cJ cZ cD cR cT A kp L f x k s S H locs → lv_has ls 4 [(3, .int i), (2, .ref k), (1, .ref x), (0, .ref b)] → W p l e room_1 S m ([.ref b] : List Value).toArray below meth c H locs (cells + 8) (slots + 2810) Q (F0 m 1677 ls [])) : W p l e room_1 S m ([.ref b] : List Value).toArray below meth c H locs cells slots Q (F0 m 1266 ls []) := by
  obtain ⟨hdr, hW, rx, rk, hT, hZ⟩ := hI
  have hq := hs_S hdr
  have ES := ev_S E hdr
  have hXS := xx_S hdr hX
  have hTH := hW.2.2.2
  obtain ⟨hx, hb, -, hml, hown, hts, -, -, -⟩ := id ES
  have rx0 := rx
  have rk0 := rk
  refine lv_aload_n hx hb dL_law_1266 rfl (lv_at hl 2 rfl) ?_
  refine law_arg (k := 1) hx hb hl hXS (by rw [hq]; exact hbl) hbA hW.2.2.1 hi rfl (by decide) dL_law_1267 dL_law_1268 dL_law_1269 dL_law_1270 dL_law_1271 ?_
  refine law_arg (k := 2) hx hb hl hXS (by rw [hq]; exact hbl) hbA hW.2.2.1 hi rfl (by decide) dL_law_1272 dL_law_1273 dL_law_1274 dL_law_1275 dL_law_1276 ?_
  refine t_callV (As := [.int (ag xs i 1), .int (ag xs i 2)]) (rest := []) ES hW (c_X11_least l G cI cJ cZ cD cR cT kp L f hW.2.2.2 _ x (ag xs i 1) (ag xs i 2) rx) rx (by decide) rfl wk_X11_least tw_1211 rfl ⟨Nat.le_of_ble_eq_true rfl, Nat.le_of_ble_eq_true rfl⟩ ⟨rfl, rfl⟩ hl.1 rfl (Nat.le_of_ble_eq_true rfl) dL_law_1277 ⟨by omega, by omega⟩ (fun v f1 H locs q hW1 => ?_)
  obtain ⟨⟨r1, rfl, p1⟩, g1⟩ := q
  have hT1 := txi_fm hTH hT g1 rk0 rfl rfl rfl rfl
  have hZ1 := tie_fm hTH hZ g1 rx0 rk0 rfl rfl rfl rfl rfl rfl
  have hW := hW1
  refine lv_pop hx hb dL_law_1280 rfl ?_
  refine lv_aload_n hx hb dL_law_1281 rfl (lv_at hl 1 rfl) ?_
  refine law_arg (k := 1) hx hb hl hXS (by rw [hq]; exact hbl) hbA hW.2.2.1 hi rfl (by decide) dL_law_1282 dL_law_1283 dL_law_1284 dL_law_1285 dL_law_1286 ?_
  refine law_arg (k := 2) hx hb hl hXS (by rw [hq]; exact hbl) hbA hW.2.2.1 hi rfl (by decide) dL_law_1287 dL_law_1288 dL_law_1289 dL_law_1290 dL_law_1291 ?_
  refine t_callV (As := [.int (ag xs i 1), .int (ag xs i 2)]) (rest := []) ES hW1 (c_X12_least l G cI cJ cZ cD cR cT kp L f1 hW1.2.2.2 _ k (ag xs i 1) (ag xs i 2) rk hT1.1) rk (by decide) rfl wk_X12_least tw_1996 rfl ⟨Nat.le_of_ble_eq_true rfl, Nat.le_of_ble_eq_true rfl⟩ ⟨rfl, rfl⟩ hl.1 rfl (Nat.le_of_ble_eq_true rfl) dL_law_1292 ⟨by omega, by omega⟩ (fun v f2 H locs q hW2 => ?_)
  obtain ⟨⟨r2, rfl, p2⟩, g2⟩ := q
  have hT2 := txi_fm hW1.2.2.2 hT1 g2 rk rfl rfl rfl rfl
  have hZ2 := tie_fm hW1.2.2.2 hZ1 g2 rx rk rfl rfl rfl rfl rfl rfl
  refine lv_pop hx hb dL_law_1295 rfl ?_
  refine lv_goto (tgt := 1677) hx hb dL_law_1296 (by decide) ?_
  refine W.more (c2 := cells + 8) (s2 := slots + 2810) (by omega) (by omega) ?_
  exact hend kp L f2 S ls H locs ⟨hdr, hW2, rx, rk, hT2, hZ2⟩ hl
set_option maxHeartbeats 4000000 in
set_option maxRecDepth 100000 in
theorem law_case_31 (l : Launch) (G : va_G) (cI cJ cZ cD cR cT : ClassId) (σ : SE) (x k b Ls : Nat) (xs : Nat → Int32) (p : Program) (e : Env) (s : State) (m : MethodId) (below : List Frame) (meth : Method) (c : Code) (A : Nat → Prop) (Q : State → Prop) (i : Int32) (E : EV G cI cJ cZ cD cR cT A cL_law ret 4 RL p s m ([.ref b] : List Value).toArray meth c) (hSX : SX σ A s s.heap) (hCA : CA s) (hX : va_X b Ls xs s s.heap) (hbl : b < s.heap.size) (hbA : ¬ A b) (hi : 0 ≤ i.toInt ∧ i.toInt + 6 ≤ (Ls : Int) ∧ Ls ≤ 3072) (cells slots : Nat) (hc : cells + 8 ≤ room_1.cells) (hs : slots + 2810 ≤ room_1.slots) (kp : Nat → Nat) (L : List Nat) (f : Nat → va_E) (S : State) (ls : Array Slot) (H : Heap) (locs : List Loc) (hI : LWS G cI cJ cZ cD cR cT A kp L f x k s S H locs) (hl : lv_has ls 4 [(3, .int i), (2, .ref k), (1, .ref x), (0, .ref b)])
  (hend : ∀ (kp : Nat → Nat) (L : List Nat) (f : Nat → va_E) (S : State) (ls : Array Slot) (H : Heap) (locs : List Loc), LWS G cI cJ cZ cD cR cT A kp L f x k s S H locs → lv_has ls 4 [(3, .int i), (2, .ref k), (1, .ref x), (0, .ref b)] → W p l e room_1 S m ([.ref b] : List Value).toArray below meth c H locs (cells + 8) (slots + 2810) Q (F0 m 1677 ls [])) : W p l e room_1 S m ([.ref b] : List Value).toArray below meth c H locs cells slots Q (F0 m 1299 ls []) := by
  obtain ⟨hdr, hW, rx, rk, hT, hZ⟩ := hI
  have hq := hs_S hdr
  have ES := ev_S E hdr
  have hXS := xx_S hdr hX
  have hTH := hW.2.2.2
  obtain ⟨hx, hb, -, hml, hown, hts, -, -, -⟩ := id ES
  have rx0 := rx
  have rk0 := rk
  refine lv_aload_n hx hb dL_law_1299 rfl (lv_at hl 2 rfl) ?_
  refine law_arg (k := 1) hx hb hl hXS (by rw [hq]; exact hbl) hbA hW.2.2.1 hi rfl (by decide) dL_law_1300 dL_law_1301 dL_law_1302 dL_law_1303 dL_law_1304 ?_
  refine law_arg (k := 2) hx hb hl hXS (by rw [hq]; exact hbl) hbA hW.2.2.1 hi rfl (by decide) dL_law_1305 dL_law_1306 dL_law_1307 dL_law_1308 dL_law_1309 ?_
  refine t_callV (As := [.int (ag xs i 1), .int (ag xs i 2)]) (rest := []) ES hW (c_X11_offer_u l G cI cJ cZ cD cR cT kp L f hW.2.2.2 _ x (ag xs i 1) (ag xs i 2) rx) rx (by decide) rfl wk_X11_offer tw_1226 rfl ⟨Nat.le_of_ble_eq_true rfl, Nat.le_of_ble_eq_true rfl⟩ ⟨rfl, rfl⟩ hl.1 rfl (Nat.le_of_ble_eq_true rfl) dL_law_1310 ⟨by omega, by omega⟩ (fun v f1 H locs q hW1 => ?_)
  obtain ⟨⟨r1, rfl, p1⟩, g1, w1⟩ := q
  have hT1 := txi_fm hTH hT g1 rk0 rfl rfl rfl rfl
  have hR1 := re_fm g1 rx0 (rfl : NO KR _ = true)
  have row1 := row_fm hTH rk0 g1 rfl
  have tp := tie_pe hZ
  have tl := tie_le hZ
  have bn := th_iv hW (rk2 hTH (rk4 hTH rx0).1).1 (by decide) (k := 0) (by decide) rfl
  have bo := th_iv hW (rk2 hTH (rk4 hTH rx0).1).2 (by decide) (k := 3) (by decide) rfl
  have hW := hW1
  refine lv_pop hx hb dL_law_1313 rfl ?_
  refine lv_aload_n hx hb dL_law_1314 rfl (lv_at hl 1 rfl) ?_
  refine law_arg (k := 1) hx hb hl hXS (by rw [hq]; exact hbl) hbA hW.2.2.1 hi rfl (by decide) dL_law_1315 dL_law_1316 dL_law_1317 dL_law_1318 dL_law_1319 ?_
  refine law_arg (k := 2) hx hb hl hXS (by rw [hq]; exact hbl) hbA hW.2.2.1 hi rfl (by decide) dL_law_1320 dL_law_1321 dL_law_1322 dL_law_1323 dL_law_1324 ?_
  refine t_callV (As := [.int (ag xs i 1), .int (ag xs i 2)]) (rest := []) ES hW1 (c_X12_offer_u l G cI cJ cZ cD cR cT kp L f1 hW1.2.2.2 _ k (ag xs i 1) (ag xs i 2) rk) rk (by decide) rfl wk_X12_offer tw_2005 rfl ⟨Nat.le_of_ble_eq_true rfl, Nat.le_of_ble_eq_true rfl⟩ ⟨rfl, rfl⟩ hl.1 rfl (Nat.le_of_ble_eq_true rfl) dL_law_1325 ⟨by omega, by omega⟩ (fun v f2 H locs q hW2 => ?_)
  obtain ⟨⟨r2, rfl, p2⟩, g2, hR⟩ := q
  have hT2 := txi_rf hW1.2.2.2 hT1 g2 rk rfl rfl rfl hR (by decide) (by decide)
  rw [row1, ← tl] at p2
  have z := p1.trans p2.symm
  have r12 : r1.toInt = r2.toInt := congrArg Prod.fst z
  have hp : L8 f1 (oR (f (oR (f x) 0)) 5) = RG (aI (f2 (oR (f1 k) 2))) 0 := congrArg Prod.snd z
  have e2 : oR (f2 k) 2 = oR (f1 k) 2 := fm_R g2 rk rfl
  have hv : SA (V8 f1 (oR (f x) 0)) (R8 (aI (f2 (oR (f2 k) 2))) 0) := by
    refine ⟨?_, ?_⟩
    · rw [own_l hR1 (rk4 hTH rx0).1 hTH w1 (nd_pl (nd_l hZ.1)).2]
      unfold R8
      rw [e2, hp, rp_rf hR rfl (by decide +kernel), row1, tp.1]
    · show HC (RP (aI (f2 (oR (f2 k) 2))) 0)
      rw [e2, rp_rf hR rfl (by decide +kernel), row1]
      exact tp.2
  have hZ2 := tie_own hTH hW1.2.2.2 hZ g1 g2 w1 (fun q h => by simp only [T8, List.mem_cons, List.not_mem_nil, or_false] at h ⊢; omega) rx rk rfl rfl rfl rfl rfl rfl rfl rfl rfl hv
  refine lv_pop hx hb dL_law_1328 rfl ?_
  refine lv_goto (tgt := 1677) hx hb dL_law_1329 (by decide) ?_
  refine W.more (c2 := cells + 8) (s2 := slots + 2810) (by omega) (by omega) ?_
  exact hend kp L f2 S ls H locs ⟨hdr, hW2, rx, rk, hT2, hZ2⟩ hl
set_option maxHeartbeats 4000000 in
set_option maxRecDepth 100000 in
theorem law_case_32 (l : Launch) (G : va_G) (cI cJ cZ cD cR cT : ClassId) (σ : SE) (x k b Ls : Nat) (xs : Nat → Int32) (p : Program) (e : Env) (s : State) (m : MethodId) (below : List Frame) (meth : Method) (c : Code) (A : Nat → Prop) (Q : State → Prop) (i : Int32) (E : EV G cI cJ cZ cD cR cT A cL_law ret 4 RL p s m ([.ref b] : List Value).toArray meth c) (hSX : SX σ A s s.heap) (hCA : CA s) (hX : va_X b Ls xs s s.heap) (hbl : b < s.heap.size) (hbA : ¬ A b) (hi : 0 ≤ i.toInt ∧ i.toInt + 6 ≤ (Ls : Int) ∧ Ls ≤ 3072) (cells slots : Nat) (hc : cells + 8 ≤ room_1.cells) (hs : slots + 2810 ≤ room_1.slots) (kp : Nat → Nat) (L : List Nat) (f : Nat → va_E) (S : State) (ls : Array Slot) (H : Heap) (locs : List Loc) (hI : LWS G cI cJ cZ cD cR cT A kp L f x k s S H locs) (hl : lv_has ls 4 [(3, .int i), (2, .ref k), (1, .ref x), (0, .ref b)])
  (hend : ∀ (kp : Nat → Nat) (L : List Nat) (f : Nat → va_E) (S : State) (ls : Array Slot) (H : Heap) (locs : List Loc), LWS G cI cJ cZ cD cR cT A kp L f x k s S H locs → lv_has ls 4 [(3, .int i), (2, .ref k), (1, .ref x), (0, .ref b)] → W p l e room_1 S m ([.ref b] : List Value).toArray below meth c H locs (cells + 8) (slots + 2810) Q (F0 m 1677 ls [])) : W p l e room_1 S m ([.ref b] : List Value).toArray below meth c H locs cells slots Q (F0 m 1332 ls []) := by
  obtain ⟨hdr, hW, rx, rk, hT, hZ⟩ := hI
  have hq := hs_S hdr
  have ES := ev_S E hdr
  have hXS := xx_S hdr hX
  have hTH := hW.2.2.2
  obtain ⟨hx, hb, -, hml, hown, hts, -, -, -⟩ := id ES
  have rx0 := rx
  have rk0 := rk
  refine lv_aload_n hx hb dL_law_1332 rfl (lv_at hl 2 rfl) ?_
  refine law_arg (k := 1) hx hb hl hXS (by rw [hq]; exact hbl) hbA hW.2.2.1 hi rfl (by decide) dL_law_1333 dL_law_1334 dL_law_1335 dL_law_1336 dL_law_1337 ?_
  refine law_arg (k := 2) hx hb hl hXS (by rw [hq]; exact hbl) hbA hW.2.2.1 hi rfl (by decide) dL_law_1338 dL_law_1339 dL_law_1340 dL_law_1341 dL_law_1342 ?_
  refine t_callV (As := [.int (ag xs i 1), .int (ag xs i 2)]) (rest := []) ES hW (c_X11_agree l G cI cJ cZ cD cR cT kp L f hW.2.2.2 _ x (ag xs i 1) (ag xs i 2) rx) rx (by decide) rfl wk_X11_agree tw_1234 rfl ⟨Nat.le_of_ble_eq_true rfl, Nat.le_of_ble_eq_true rfl⟩ ⟨rfl, rfl⟩ hl.1 rfl (Nat.le_of_ble_eq_true rfl) dL_law_1343 ⟨by omega, by omega⟩ (fun v f1 H locs q hW1 => ?_)
  obtain ⟨⟨r1, rfl, p1⟩, g1⟩ := q
  have hT1 := txi_fm hTH hT g1 rk0 rfl rfl rfl rfl
  have hZ1 := tie_fm hTH hZ g1 rx0 rk0 rfl rfl rfl rfl rfl rfl
  have hW := hW1
  refine lv_pop hx hb dL_law_1346 rfl ?_
  refine lv_aload_n hx hb dL_law_1347 rfl (lv_at hl 1 rfl) ?_
  refine law_arg (k := 1) hx hb hl hXS (by rw [hq]; exact hbl) hbA hW.2.2.1 hi rfl (by decide) dL_law_1348 dL_law_1349 dL_law_1350 dL_law_1351 dL_law_1352 ?_
  refine law_arg (k := 2) hx hb hl hXS (by rw [hq]; exact hbl) hbA hW.2.2.1 hi rfl (by decide) dL_law_1353 dL_law_1354 dL_law_1355 dL_law_1356 dL_law_1357 ?_
  refine t_callV (As := [.int (ag xs i 1), .int (ag xs i 2)]) (rest := []) ES hW1 (c_X12_agree l G cI cJ cZ cD cR cT kp L f1 hW1.2.2.2 _ k (ag xs i 1) (ag xs i 2) rk) rk (by decide) rfl wk_X12_agree tw_2010 rfl ⟨Nat.le_of_ble_eq_true rfl, Nat.le_of_ble_eq_true rfl⟩ ⟨rfl, rfl⟩ hl.1 rfl (Nat.le_of_ble_eq_true rfl) dL_law_1358 ⟨by omega, by omega⟩ (fun v f2 H locs q hW2 => ?_)
  obtain ⟨⟨r2, rfl, p2⟩, g2⟩ := q
  have hT2 := txi_fm hW1.2.2.2 hT1 g2 rk rfl rfl rfl rfl
  have hZ2 := tie_fm hW1.2.2.2 hZ1 g2 rx rk rfl rfl rfl rfl rfl rfl
  refine lv_pop hx hb dL_law_1361 rfl ?_
  refine lv_goto (tgt := 1677) hx hb dL_law_1362 (by decide) ?_
  refine W.more (c2 := cells + 8) (s2 := slots + 2810) (by omega) (by omega) ?_
  exact hend kp L f2 S ls H locs ⟨hdr, hW2, rx, rk, hT2, hZ2⟩ hl
set_option maxHeartbeats 4000000 in
set_option maxRecDepth 100000 in
theorem law_case_33 (l : Launch) (G : va_G) (cI cJ cZ cD cR cT : ClassId) (σ : SE) (x k b Ls : Nat) (xs : Nat → Int32) (p : Program) (e : Env) (s : State) (m : MethodId) (below : List Frame) (meth : Method) (c : Code) (A : Nat → Prop) (Q : State → Prop) (i : Int32) (E : EV G cI cJ cZ cD cR cT A cL_law ret 4 RL p s m ([.ref b] : List Value).toArray meth c) (hSX : SX σ A s s.heap) (hCA : CA s) (hX : va_X b Ls xs s s.heap) (hbl : b < s.heap.size) (hbA : ¬ A b) (hi : 0 ≤ i.toInt ∧ i.toInt + 6 ≤ (Ls : Int) ∧ Ls ≤ 3072) (cells slots : Nat) (hc : cells + 8 ≤ room_1.cells) (hs : slots + 2810 ≤ room_1.slots) (kp : Nat → Nat) (L : List Nat) (f : Nat → va_E) (S : State) (ls : Array Slot) (H : Heap) (locs : List Loc) (hI : LWS G cI cJ cZ cD cR cT A kp L f x k s S H locs) (hl : lv_has ls 4 [(3, .int i), (2, .ref k), (1, .ref x), (0, .ref b)])
  (hend : ∀ (kp : Nat → Nat) (L : List Nat) (f : Nat → va_E) (S : State) (ls : Array Slot) (H : Heap) (locs : List Loc), LWS G cI cJ cZ cD cR cT A kp L f x k s S H locs → lv_has ls 4 [(3, .int i), (2, .ref k), (1, .ref x), (0, .ref b)] → W p l e room_1 S m ([.ref b] : List Value).toArray below meth c H locs (cells + 8) (slots + 2810) Q (F0 m 1677 ls [])) : W p l e room_1 S m ([.ref b] : List Value).toArray below meth c H locs cells slots Q (F0 m 1365 ls []) := by
  obtain ⟨hdr, hW, rx, rk, hT, hZ⟩ := hI
  have hq := hs_S hdr
  have ES := ev_S E hdr
  have hXS := xx_S hdr hX
  have hTH := hW.2.2.2
  obtain ⟨hx, hb, -, hml, hown, hts, -, -, -⟩ := id ES
  have rx0 := rx
  have rk0 := rk
  refine lv_aload_n hx hb dL_law_1365 rfl (lv_at hl 2 rfl) ?_
  refine law_arg (k := 1) hx hb hl hXS (by rw [hq]; exact hbl) hbA hW.2.2.1 hi rfl (by decide) dL_law_1366 dL_law_1367 dL_law_1368 dL_law_1369 dL_law_1370 ?_
  refine t_callV (As := [.int (ag xs i 1)]) (rest := []) ES hW (c_X11_wish l G cI cJ cZ cD cR cT kp L f hW.2.2.2 _ x (ag xs i 1) rx) rx (by decide) rfl wk_X11_wish tw_1252 rfl ⟨Nat.le_of_ble_eq_true rfl, Nat.le_of_ble_eq_true rfl⟩ ⟨rfl, rfl⟩ hl.1 rfl (Nat.le_of_ble_eq_true rfl) dL_law_1371 ⟨by omega, by omega⟩ (fun v f1 H locs q hW1 => ?_)
  obtain ⟨⟨r1, rfl, p1⟩, g1⟩ := q
  have hT1 := txi_fm hTH hT g1 rk0 rfl rfl rfl rfl
  have hZ1 := tie_fm hTH hZ g1 rx0 rk0 rfl rfl rfl rfl rfl rfl
  have hW := hW1
  refine lv_pop hx hb dL_law_1374 rfl ?_
  refine lv_aload_n hx hb dL_law_1375 rfl (lv_at hl 1 rfl) ?_
  refine law_arg (k := 1) hx hb hl hXS (by rw [hq]; exact hbl) hbA hW.2.2.1 hi rfl (by decide) dL_law_1376 dL_law_1377 dL_law_1378 dL_law_1379 dL_law_1380 ?_
  refine t_callV (As := [.int (ag xs i 1)]) (rest := []) ES hW1 (c_X12_wish l G cI cJ cZ cD cR cT kp L f1 hW1.2.2.2 _ k (ag xs i 1) rk) rk (by decide) rfl wk_X12_wish tw_2015 rfl ⟨Nat.le_of_ble_eq_true rfl, Nat.le_of_ble_eq_true rfl⟩ ⟨rfl, rfl⟩ hl.1 rfl (Nat.le_of_ble_eq_true rfl) dL_law_1381 ⟨by omega, by omega⟩ (fun v f2 H locs q hW2 => ?_)
  obtain ⟨⟨r2, rfl, p2⟩, g2⟩ := q
  have hT2 := txi_fm hW1.2.2.2 hT1 g2 rk rfl rfl rfl rfl
  have hZ2 := tie_fm hW1.2.2.2 hZ1 g2 rx rk rfl rfl rfl rfl rfl rfl
  refine lv_pop hx hb dL_law_1384 rfl ?_
  refine lv_goto (tgt := 1677) hx hb dL_law_1385 (by decide) ?_
  refine W.more (c2 := cells + 8) (s2 := slots + 2810) (by omega) (by omega) ?_
  exact hend kp L f2 S ls H locs ⟨hdr, hW2, rx, rk, hT2, hZ2⟩ hl
set_option maxHeartbeats 4000000 in
set_option maxRecDepth 100000 in
theorem law_case_34 (l : Launch) (G : va_G) (cI cJ cZ cD cR cT : ClassId) (σ : SE) (x k b Ls : Nat) (xs : Nat → Int32) (p : Program) (e : Env) (s : State) (m : MethodId) (below : List Frame) (meth : Method) (c : Code) (A : Nat → Prop) (Q : State → Prop) (i : Int32) (E : EV G cI cJ cZ cD cR cT A cL_law ret 4 RL p s m ([.ref b] : List Value).toArray meth c) (hSX : SX σ A s s.heap) (hCA : CA s) (hX : va_X b Ls xs s s.heap) (hbl : b < s.heap.size) (hbA : ¬ A b) (hi : 0 ≤ i.toInt ∧ i.toInt + 6 ≤ (Ls : Int) ∧ Ls ≤ 3072) (cells slots : Nat) (hc : cells + 8 ≤ room_1.cells) (hs : slots + 2810 ≤ room_1.slots) (kp : Nat → Nat) (L : List Nat) (f : Nat → va_E) (S : State) (ls : Array Slot) (H : Heap) (locs : List Loc) (hI : LWS G cI cJ cZ cD cR cT A kp L f x k s S H locs) (hl : lv_has ls 4 [(3, .int i), (2, .ref k), (1, .ref x), (0, .ref b)])
  (hend : ∀ (kp : Nat → Nat) (L : List Nat) (f : Nat → va_E) (S : State) (ls : Array Slot) (H : Heap) (locs : List Loc), LWS G cI cJ cZ cD cR cT A kp L f x k s S H locs → lv_has ls 4 [(3, .int i), (2, .ref k), (1, .ref x), (0, .ref b)] → W p l e room_1 S m ([.ref b] : List Value).toArray below meth c H locs (cells + 8) (slots + 2810) Q (F0 m 1677 ls [])) : W p l e room_1 S m ([.ref b] : List Value).toArray below meth c H locs cells slots Q (F0 m 1388 ls []) := by
  obtain ⟨hdr, hW, rx, rk, hT, hZ⟩ := hI
  have hq := hs_S hdr
  have ES := ev_S E hdr
  have hXS := xx_S hdr hX
  have hTH := hW.2.2.2
  obtain ⟨hx, hb, -, hml, hown, hts, -, -, -⟩ := id ES
  have rx0 := rx
  have rk0 := rk
  refine lv_aload_n hx hb dL_law_1388 rfl (lv_at hl 2 rfl) ?_
  refine t_callV (As := []) (rest := []) ES hW (c_X11_clear l G cI cJ cZ cD cR cT kp L f hW.2.2.2 _ x  rx) rx (by decide) rfl wk_X11_clear tw_1260 rfl ⟨Nat.le_of_ble_eq_true rfl, Nat.le_of_ble_eq_true rfl⟩ ⟨rfl, rfl⟩ hl.1 rfl (Nat.le_of_ble_eq_true rfl) dL_law_1389 ⟨by omega, by omega⟩ (fun v f1 H locs q hW1 => ?_)
  obtain ⟨⟨r1, rfl, p1⟩, g1⟩ := q
  have hT1 := txi_fm hTH hT g1 rk0 rfl rfl rfl rfl
  have hZ1 := tie_fm hTH hZ g1 rx0 rk0 rfl rfl rfl rfl rfl rfl
  have hW := hW1
  refine lv_pop hx hb dL_law_1392 rfl ?_
  refine lv_aload_n hx hb dL_law_1393 rfl (lv_at hl 1 rfl) ?_
  refine t_callV (As := []) (rest := []) ES hW1 (c_X12_clear l G cI cJ cZ cD cR cT kp L f1 hW1.2.2.2 _ k  rk) rk (by decide) rfl wk_X12_clear tw_2019 rfl ⟨Nat.le_of_ble_eq_true rfl, Nat.le_of_ble_eq_true rfl⟩ ⟨rfl, rfl⟩ hl.1 rfl (Nat.le_of_ble_eq_true rfl) dL_law_1394 ⟨by omega, by omega⟩ (fun v f2 H locs q hW2 => ?_)
  obtain ⟨⟨r2, rfl, p2⟩, g2⟩ := q
  have hT2 := txi_fm hW1.2.2.2 hT1 g2 rk rfl rfl rfl rfl
  have hZ2 := tie_fm hW1.2.2.2 hZ1 g2 rx rk rfl rfl rfl rfl rfl rfl
  refine lv_pop hx hb dL_law_1397 rfl ?_
  refine lv_goto (tgt := 1677) hx hb dL_law_1398 (by decide) ?_
  refine W.more (c2 := cells + 8) (s2 := slots + 2810) (by omega) (by omega) ?_
  exact hend kp L f2 S ls H locs ⟨hdr, hW2, rx, rk, hT2, hZ2⟩ hl
set_option maxHeartbeats 4000000 in
set_option maxRecDepth 100000 in
theorem law_case_35 (l : Launch) (G : va_G) (cI cJ cZ cD cR cT : ClassId) (σ : SE) (x k b Ls : Nat) (xs : Nat → Int32) (p : Program) (e : Env) (s : State) (m : MethodId) (below : List Frame) (meth : Method) (c : Code) (A : Nat → Prop) (Q : State → Prop) (i : Int32) (E : EV G cI cJ cZ cD cR cT A cL_law ret 4 RL p s m ([.ref b] : List Value).toArray meth c) (hSX : SX σ A s s.heap) (hCA : CA s) (hX : va_X b Ls xs s s.heap) (hbl : b < s.heap.size) (hbA : ¬ A b) (hi : 0 ≤ i.toInt ∧ i.toInt + 6 ≤ (Ls : Int) ∧ Ls ≤ 3072) (cells slots : Nat) (hc : cells + 8 ≤ room_1.cells) (hs : slots + 2810 ≤ room_1.slots) (kp : Nat → Nat) (L : List Nat) (f : Nat → va_E) (S : State) (ls : Array Slot) (H : Heap) (locs : List Loc) (hI : LWS G cI cJ cZ cD cR cT A kp L f x k s S H locs) (hl : lv_has ls 4 [(3, .int i), (2, .ref k), (1, .ref x), (0, .ref b)])
  (hend : ∀ (kp : Nat → Nat) (L : List Nat) (f : Nat → va_E) (S : State) (ls : Array Slot) (H : Heap) (locs : List Loc), LWS G cI cJ cZ cD cR cT A kp L f x k s S H locs → lv_has ls 4 [(3, .int i), (2, .ref k), (1, .ref x), (0, .ref b)] → W p l e room_1 S m ([.ref b] : List Value).toArray below meth c H locs (cells + 8) (slots + 2810) Q (F0 m 1677 ls [])) : W p l e room_1 S m ([.ref b] : List Value).toArray below meth c H locs cells slots Q (F0 m 1401 ls []) := by
  obtain ⟨hdr, hW, rx, rk, hT, hZ⟩ := hI
  have hq := hs_S hdr
  have ES := ev_S E hdr
  have hXS := xx_S hdr hX
  have hTH := hW.2.2.2
  obtain ⟨hx, hb, -, hml, hown, hts, -, -, -⟩ := id ES
  have rx0 := rx
  have rk0 := rk
  refine lv_aload_n hx hb dL_law_1401 rfl (lv_at hl 2 rfl) ?_
  refine law_arg (k := 1) hx hb hl hXS (by rw [hq]; exact hbl) hbA hW.2.2.1 hi rfl (by decide) dL_law_1402 dL_law_1403 dL_law_1404 dL_law_1405 dL_law_1406 ?_
  refine law_arg (k := 2) hx hb hl hXS (by rw [hq]; exact hbl) hbA hW.2.2.1 hi rfl (by decide) dL_law_1407 dL_law_1408 dL_law_1409 dL_law_1410 dL_law_1411 ?_
  refine t_callV (As := [.int (ag xs i 1), .int (ag xs i 2)]) (rest := []) ES hW (c_X11_crops l G cI cJ cZ cD cR cT kp L f hW.2.2.2 _ x (ag xs i 1) (ag xs i 2) rx) rx (by decide) rfl wk_X11_crops tw_1264 rfl ⟨Nat.le_of_ble_eq_true rfl, Nat.le_of_ble_eq_true rfl⟩ ⟨rfl, rfl⟩ hl.1 rfl (Nat.le_of_ble_eq_true rfl) dL_law_1412 ⟨by omega, by omega⟩ (fun v f1 H locs q hW1 => ?_)
  obtain ⟨⟨r1, rfl, p1⟩, g1⟩ := q
  have hT1 := txi_fm hTH hT g1 rk0 rfl rfl rfl rfl
  have hZ1 := tie_fm hTH hZ g1 rx0 rk0 rfl rfl rfl rfl rfl rfl
  have hW := hW1
  refine lv_pop hx hb dL_law_1415 rfl ?_
  refine lv_aload_n hx hb dL_law_1416 rfl (lv_at hl 1 rfl) ?_
  refine law_arg (k := 1) hx hb hl hXS (by rw [hq]; exact hbl) hbA hW.2.2.1 hi rfl (by decide) dL_law_1417 dL_law_1418 dL_law_1419 dL_law_1420 dL_law_1421 ?_
  refine law_arg (k := 2) hx hb hl hXS (by rw [hq]; exact hbl) hbA hW.2.2.1 hi rfl (by decide) dL_law_1422 dL_law_1423 dL_law_1424 dL_law_1425 dL_law_1426 ?_
  refine t_callV (As := [.int (ag xs i 1), .int (ag xs i 2)]) (rest := []) ES hW1 (c_X12_crops l G cI cJ cZ cD cR cT kp L f1 hW1.2.2.2 _ k (ag xs i 1) (ag xs i 2) rk) rk (by decide) rfl wk_X12_crops tw_2023 rfl ⟨Nat.le_of_ble_eq_true rfl, Nat.le_of_ble_eq_true rfl⟩ ⟨rfl, rfl⟩ hl.1 rfl (Nat.le_of_ble_eq_true rfl) dL_law_1427 ⟨by omega, by omega⟩ (fun v f2 H locs q hW2 => ?_)
  obtain ⟨⟨r2, rfl, p2⟩, g2⟩ := q
  have hT2 := txi_fm hW1.2.2.2 hT1 g2 rk rfl rfl rfl rfl
  have hZ2 := tie_fm hW1.2.2.2 hZ1 g2 rx rk rfl rfl rfl rfl rfl rfl
  refine lv_pop hx hb dL_law_1430 rfl ?_
  refine lv_goto (tgt := 1677) hx hb dL_law_1431 (by decide) ?_
  refine W.more (c2 := cells + 8) (s2 := slots + 2810) (by omega) (by omega) ?_
  exact hend kp L f2 S ls H locs ⟨hdr, hW2, rx, rk, hT2, hZ2⟩ hl
