theorem dL_law_1048 : decode cL_law 1048 = .ok (.aload_n 1, 1) := by decide +kernel
theorem dL_law_1049 : decode cL_law 1049 = .ok (.aload_n 0, 1) := by decide +kernel
theorem dL_law_1050 : decode cL_law 1050 = .ok (.iload_n 3, 1) := by decide +kernel
theorem dL_law_1051 : decode cL_law 1051 = .ok (.iconst 1, 1) := by decide +kernel
theorem dL_law_1052 : decode cL_law 1052 = .ok (.iadd, 1) := by decide +kernel
theorem dL_law_1053 : decode cL_law 1053 = .ok (.iaload, 1) := by decide +kernel
theorem dL_law_1054 : decode cL_law 1054 = .ok (.invokevirtual 115, 3) := by decide +kernel
theorem dL_law_1057 : decode cL_law 1057 = .ok (.aload_n 2, 1) := by decide +kernel
theorem dL_law_1058 : decode cL_law 1058 = .ok (.aload_n 0, 1) := by decide +kernel
theorem dL_law_1059 : decode cL_law 1059 = .ok (.iload_n 3, 1) := by decide +kernel
theorem dL_law_1060 : decode cL_law 1060 = .ok (.iconst 1, 1) := by decide +kernel
theorem dL_law_1061 : decode cL_law 1061 = .ok (.iadd, 1) := by decide +kernel
theorem dL_law_1062 : decode cL_law 1062 = .ok (.iaload, 1) := by decide +kernel
theorem dL_law_1063 : decode cL_law 1063 = .ok (.invokevirtual 118, 3) := by decide +kernel
theorem dL_law_1066 : decode cL_law 1066 = .ok (.if_icmp .eq 612, 3) := by decide +kernel
theorem dL_law_1071 : decode cL_law 1071 = .ok (.aload_n 1, 1) := by decide +kernel
theorem dL_law_1072 : decode cL_law 1072 = .ok (.aload_n 0, 1) := by decide +kernel
theorem dL_law_1073 : decode cL_law 1073 = .ok (.iload_n 3, 1) := by decide +kernel
theorem dL_law_1074 : decode cL_law 1074 = .ok (.iconst 1, 1) := by decide +kernel
theorem dL_law_1075 : decode cL_law 1075 = .ok (.iadd, 1) := by decide +kernel
theorem dL_law_1076 : decode cL_law 1076 = .ok (.iaload, 1) := by decide +kernel
theorem dL_law_1077 : decode cL_law 1077 = .ok (.aload_n 0, 1) := by decide +kernel
theorem dL_law_1078 : decode cL_law 1078 = .ok (.iload_n 3, 1) := by decide +kernel
theorem dL_law_1079 : decode cL_law 1079 = .ok (.iconst 2, 1) := by decide +kernel
theorem dL_law_1080 : decode cL_law 1080 = .ok (.iadd, 1) := by decide +kernel
theorem dL_law_1081 : decode cL_law 1081 = .ok (.iaload, 1) := by decide +kernel
theorem dL_law_1082 : decode cL_law 1082 = .ok (.aload_n 0, 1) := by decide +kernel
theorem dL_law_1083 : decode cL_law 1083 = .ok (.iload_n 3, 1) := by decide +kernel
theorem dL_law_1084 : decode cL_law 1084 = .ok (.iconst 3, 1) := by decide +kernel
theorem dL_law_1085 : decode cL_law 1085 = .ok (.iadd, 1) := by decide +kernel
theorem dL_law_1086 : decode cL_law 1086 = .ok (.iaload, 1) := by decide +kernel
theorem dL_law_1087 : decode cL_law 1087 = .ok (.invokevirtual 119, 3) := by decide +kernel
theorem dL_law_1090 : decode cL_law 1090 = .ok (.aload_n 2, 1) := by decide +kernel
theorem dL_law_1091 : decode cL_law 1091 = .ok (.aload_n 0, 1) := by decide +kernel
theorem dL_law_1092 : decode cL_law 1092 = .ok (.iload_n 3, 1) := by decide +kernel
theorem dL_law_1093 : decode cL_law 1093 = .ok (.iconst 1, 1) := by decide +kernel
theorem dL_law_1094 : decode cL_law 1094 = .ok (.iadd, 1) := by decide +kernel
theorem dL_law_1095 : decode cL_law 1095 = .ok (.iaload, 1) := by decide +kernel
theorem dL_law_1096 : decode cL_law 1096 = .ok (.aload_n 0, 1) := by decide +kernel
theorem dL_law_1097 : decode cL_law 1097 = .ok (.iload_n 3, 1) := by decide +kernel
theorem dL_law_1098 : decode cL_law 1098 = .ok (.iconst 2, 1) := by decide +kernel
theorem dL_law_1099 : decode cL_law 1099 = .ok (.iadd, 1) := by decide +kernel
theorem dL_law_1100 : decode cL_law 1100 = .ok (.iaload, 1) := by decide +kernel
theorem dL_law_1101 : decode cL_law 1101 = .ok (.aload_n 0, 1) := by decide +kernel
theorem dL_law_1102 : decode cL_law 1102 = .ok (.iload_n 3, 1) := by decide +kernel
theorem dL_law_1103 : decode cL_law 1103 = .ok (.iconst 3, 1) := by decide +kernel
theorem dL_law_1104 : decode cL_law 1104 = .ok (.iadd, 1) := by decide +kernel
theorem dL_law_1105 : decode cL_law 1105 = .ok (.iaload, 1) := by decide +kernel
theorem dL_law_1106 : decode cL_law 1106 = .ok (.invokevirtual 122, 3) := by decide +kernel
theorem dL_law_1109 : decode cL_law 1109 = .ok (.if_icmp .eq 569, 3) := by decide +kernel
theorem dL_law_1114 : decode cL_law 1114 = .ok (.aload_n 1, 1) := by decide +kernel
theorem dL_law_1115 : decode cL_law 1115 = .ok (.aload_n 0, 1) := by decide +kernel
theorem dL_law_1116 : decode cL_law 1116 = .ok (.iload_n 3, 1) := by decide +kernel
theorem dL_law_1117 : decode cL_law 1117 = .ok (.iconst 1, 1) := by decide +kernel
theorem dL_law_1118 : decode cL_law 1118 = .ok (.iadd, 1) := by decide +kernel
theorem dL_law_1119 : decode cL_law 1119 = .ok (.iaload, 1) := by decide +kernel
theorem dL_law_1120 : decode cL_law 1120 = .ok (.invokevirtual 123, 3) := by decide +kernel
theorem dL_law_1123 : decode cL_law 1123 = .ok (.aload_n 2, 1) := by decide +kernel
theorem dL_law_1124 : decode cL_law 1124 = .ok (.aload_n 0, 1) := by decide +kernel
theorem dL_law_1125 : decode cL_law 1125 = .ok (.iload_n 3, 1) := by decide +kernel
theorem dL_law_1126 : decode cL_law 1126 = .ok (.iconst 1, 1) := by decide +kernel
theorem dL_law_1127 : decode cL_law 1127 = .ok (.iadd, 1) := by decide +kernel
theorem dL_law_1128 : decode cL_law 1128 = .ok (.iaload, 1) := by decide +kernel
theorem dL_law_1129 : decode cL_law 1129 = .ok (.invokevirtual 126, 3) := by decide +kernel
theorem dL_law_1132 : decode cL_law 1132 = .ok (.if_icmp .eq 546, 3) := by decide +kernel
theorem dL_law_1137 : decode cL_law 1137 = .ok (.aload_n 1, 1) := by decide +kernel
theorem dL_law_1138 : decode cL_law 1138 = .ok (.aload_n 0, 1) := by decide +kernel
theorem dL_law_1139 : decode cL_law 1139 = .ok (.iload_n 3, 1) := by decide +kernel
theorem dL_law_1140 : decode cL_law 1140 = .ok (.iconst 1, 1) := by decide +kernel
theorem dL_law_1141 : decode cL_law 1141 = .ok (.iadd, 1) := by decide +kernel
theorem dL_law_1142 : decode cL_law 1142 = .ok (.iaload, 1) := by decide +kernel
theorem dL_law_1143 : decode cL_law 1143 = .ok (.aload_n 0, 1) := by decide +kernel
theorem dL_law_1144 : decode cL_law 1144 = .ok (.iload_n 3, 1) := by decide +kernel
theorem dL_law_1145 : decode cL_law 1145 = .ok (.iconst 2, 1) := by decide +kernel
theorem dL_law_1146 : decode cL_law 1146 = .ok (.iadd, 1) := by decide +kernel
theorem dL_law_1147 : decode cL_law 1147 = .ok (.iaload, 1) := by decide +kernel
theorem dL_law_1148 : decode cL_law 1148 = .ok (.invokevirtual 127, 3) := by decide +kernel
theorem dL_law_1151 : decode cL_law 1151 = .ok (.aload_n 2, 1) := by decide +kernel
theorem dL_law_1152 : decode cL_law 1152 = .ok (.aload_n 0, 1) := by decide +kernel
theorem dL_law_1153 : decode cL_law 1153 = .ok (.iload_n 3, 1) := by decide +kernel
theorem dL_law_1154 : decode cL_law 1154 = .ok (.iconst 1, 1) := by decide +kernel
theorem dL_law_1155 : decode cL_law 1155 = .ok (.iadd, 1) := by decide +kernel
theorem dL_law_1156 : decode cL_law 1156 = .ok (.iaload, 1) := by decide +kernel
theorem dL_law_1157 : decode cL_law 1157 = .ok (.aload_n 0, 1) := by decide +kernel
theorem dL_law_1158 : decode cL_law 1158 = .ok (.iload_n 3, 1) := by decide +kernel
theorem dL_law_1159 : decode cL_law 1159 = .ok (.iconst 2, 1) := by decide +kernel
theorem dL_law_1160 : decode cL_law 1160 = .ok (.iadd, 1) := by decide +kernel
theorem dL_law_1161 : decode cL_law 1161 = .ok (.iaload, 1) := by decide +kernel
theorem dL_law_1162 : decode cL_law 1162 = .ok (.invokevirtual 130, 3) := by decide +kernel
theorem dL_law_1165 : decode cL_law 1165 = .ok (.if_icmp .eq 513, 3) := by decide +kernel
theorem dL_law_1170 : decode cL_law 1170 = .ok (.aload_n 1, 1) := by decide +kernel
theorem dL_law_1171 : decode cL_law 1171 = .ok (.aload_n 0, 1) := by decide +kernel
theorem dL_law_1172 : decode cL_law 1172 = .ok (.iload_n 3, 1) := by decide +kernel
theorem dL_law_1173 : decode cL_law 1173 = .ok (.iconst 1, 1) := by decide +kernel
theorem dL_law_1174 : decode cL_law 1174 = .ok (.iadd, 1) := by decide +kernel
theorem dL_law_1175 : decode cL_law 1175 = .ok (.iaload, 1) := by decide +kernel
theorem dL_law_1176 : decode cL_law 1176 = .ok (.aload_n 0, 1) := by decide +kernel
theorem dL_law_1177 : decode cL_law 1177 = .ok (.iload_n 3, 1) := by decide +kernel
theorem dL_law_1178 : decode cL_law 1178 = .ok (.iconst 2, 1) := by decide +kernel
theorem dL_law_1179 : decode cL_law 1179 = .ok (.iadd, 1) := by decide +kernel
theorem dL_law_1180 : decode cL_law 1180 = .ok (.iaload, 1) := by decide +kernel
theorem dL_law_1181 : decode cL_law 1181 = .ok (.aload_n 0, 1) := by decide +kernel
theorem dL_law_1182 : decode cL_law 1182 = .ok (.iload_n 3, 1) := by decide +kernel
theorem dL_law_1183 : decode cL_law 1183 = .ok (.iconst 3, 1) := by decide +kernel
theorem dL_law_1184 : decode cL_law 1184 = .ok (.iadd, 1) := by decide +kernel
theorem dL_law_1185 : decode cL_law 1185 = .ok (.iaload, 1) := by decide +kernel
theorem dL_law_1186 : decode cL_law 1186 = .ok (.aload_n 0, 1) := by decide +kernel
theorem dL_law_1187 : decode cL_law 1187 = .ok (.iload_n 3, 1) := by decide +kernel
theorem dL_law_1188 : decode cL_law 1188 = .ok (.iconst 4, 1) := by decide +kernel
theorem dL_law_1189 : decode cL_law 1189 = .ok (.iadd, 1) := by decide +kernel
theorem dL_law_1190 : decode cL_law 1190 = .ok (.iaload, 1) := by decide +kernel
theorem dL_law_1191 : decode cL_law 1191 = .ok (.invokevirtual 131, 3) := by decide +kernel
theorem dL_law_1194 : decode cL_law 1194 = .ok (.aload_n 2, 1) := by decide +kernel
theorem dL_law_1195 : decode cL_law 1195 = .ok (.aload_n 0, 1) := by decide +kernel
theorem dL_law_1196 : decode cL_law 1196 = .ok (.iload_n 3, 1) := by decide +kernel
theorem dL_law_1197 : decode cL_law 1197 = .ok (.iconst 1, 1) := by decide +kernel
theorem dL_law_1198 : decode cL_law 1198 = .ok (.iadd, 1) := by decide +kernel
theorem dL_law_1199 : decode cL_law 1199 = .ok (.iaload, 1) := by decide +kernel
theorem dL_law_1200 : decode cL_law 1200 = .ok (.aload_n 0, 1) := by decide +kernel
theorem dL_law_1201 : decode cL_law 1201 = .ok (.iload_n 3, 1) := by decide +kernel
theorem dL_law_1202 : decode cL_law 1202 = .ok (.iconst 2, 1) := by decide +kernel
theorem dL_law_1203 : decode cL_law 1203 = .ok (.iadd, 1) := by decide +kernel
theorem dL_law_1204 : decode cL_law 1204 = .ok (.iaload, 1) := by decide +kernel
theorem dL_law_1205 : decode cL_law 1205 = .ok (.aload_n 0, 1) := by decide +kernel
theorem dL_law_1206 : decode cL_law 1206 = .ok (.iload_n 3, 1) := by decide +kernel
theorem dL_law_1207 : decode cL_law 1207 = .ok (.iconst 3, 1) := by decide +kernel
theorem dL_law_1208 : decode cL_law 1208 = .ok (.iadd, 1) := by decide +kernel
theorem dL_law_1209 : decode cL_law 1209 = .ok (.iaload, 1) := by decide +kernel
theorem dL_law_1210 : decode cL_law 1210 = .ok (.aload_n 0, 1) := by decide +kernel
theorem dL_law_1211 : decode cL_law 1211 = .ok (.iload_n 3, 1) := by decide +kernel
theorem dL_law_1212 : decode cL_law 1212 = .ok (.iconst 4, 1) := by decide +kernel
theorem dL_law_1213 : decode cL_law 1213 = .ok (.iadd, 1) := by decide +kernel
theorem dL_law_1214 : decode cL_law 1214 = .ok (.iaload, 1) := by decide +kernel
theorem dL_law_1215 : decode cL_law 1215 = .ok (.invokevirtual 134, 3) := by decide +kernel
theorem dL_law_1218 : decode cL_law 1218 = .ok (.if_icmp .eq 460, 3) := by decide +kernel
theorem dL_law_1223 : decode cL_law 1223 = .ok (.aload_n 1, 1) := by decide +kernel
theorem dL_law_1224 : decode cL_law 1224 = .ok (.aload_n 0, 1) := by decide +kernel
theorem dL_law_1225 : decode cL_law 1225 = .ok (.iload_n 3, 1) := by decide +kernel
theorem dL_law_1226 : decode cL_law 1226 = .ok (.iconst 1, 1) := by decide +kernel
theorem dL_law_1227 : decode cL_law 1227 = .ok (.iadd, 1) := by decide +kernel
theorem dL_law_1228 : decode cL_law 1228 = .ok (.iaload, 1) := by decide +kernel
theorem dL_law_1229 : decode cL_law 1229 = .ok (.aload_n 0, 1) := by decide +kernel
theorem dL_law_1230 : decode cL_law 1230 = .ok (.iload_n 3, 1) := by decide +kernel
theorem dL_law_1231 : decode cL_law 1231 = .ok (.iconst 2, 1) := by decide +kernel
theorem dL_law_1232 : decode cL_law 1232 = .ok (.iadd, 1) := by decide +kernel
theorem dL_law_1233 : decode cL_law 1233 = .ok (.iaload, 1) := by decide +kernel
theorem dL_law_1234 : decode cL_law 1234 = .ok (.aload_n 0, 1) := by decide +kernel
theorem dL_law_1235 : decode cL_law 1235 = .ok (.iload_n 3, 1) := by decide +kernel
theorem dL_law_1236 : decode cL_law 1236 = .ok (.iconst 3, 1) := by decide +kernel
theorem dL_law_1237 : decode cL_law 1237 = .ok (.iadd, 1) := by decide +kernel
theorem dL_law_1238 : decode cL_law 1238 = .ok (.iaload, 1) := by decide +kernel
theorem dL_law_1239 : decode cL_law 1239 = .ok (.invokevirtual 135, 3) := by decide +kernel
theorem dL_law_1242 : decode cL_law 1242 = .ok (.aload_n 2, 1) := by decide +kernel
theorem dL_law_1243 : decode cL_law 1243 = .ok (.aload_n 0, 1) := by decide +kernel
theorem dL_law_1244 : decode cL_law 1244 = .ok (.iload_n 3, 1) := by decide +kernel
theorem dL_law_1245 : decode cL_law 1245 = .ok (.iconst 1, 1) := by decide +kernel
theorem dL_law_1246 : decode cL_law 1246 = .ok (.iadd, 1) := by decide +kernel
theorem dL_law_1247 : decode cL_law 1247 = .ok (.iaload, 1) := by decide +kernel
theorem dL_law_1248 : decode cL_law 1248 = .ok (.aload_n 0, 1) := by decide +kernel
theorem dL_law_1249 : decode cL_law 1249 = .ok (.iload_n 3, 1) := by decide +kernel
theorem dL_law_1250 : decode cL_law 1250 = .ok (.iconst 2, 1) := by decide +kernel
theorem dL_law_1251 : decode cL_law 1251 = .ok (.iadd, 1) := by decide +kernel
theorem dL_law_1252 : decode cL_law 1252 = .ok (.iaload, 1) := by decide +kernel
theorem dL_law_1253 : decode cL_law 1253 = .ok (.aload_n 0, 1) := by decide +kernel
theorem dL_law_1254 : decode cL_law 1254 = .ok (.iload_n 3, 1) := by decide +kernel
theorem dL_law_1255 : decode cL_law 1255 = .ok (.iconst 3, 1) := by decide +kernel
theorem dL_law_1256 : decode cL_law 1256 = .ok (.iadd, 1) := by decide +kernel
theorem dL_law_1257 : decode cL_law 1257 = .ok (.iaload, 1) := by decide +kernel
theorem dL_law_1258 : decode cL_law 1258 = .ok (.invokevirtual 138, 3) := by decide +kernel
theorem dL_law_1261 : decode cL_law 1261 = .ok (.if_icmp .eq 417, 3) := by decide +kernel
theorem dL_law_1266 : decode cL_law 1266 = .ok (.aload_n 1, 1) := by decide +kernel
theorem dL_law_1267 : decode cL_law 1267 = .ok (.aload_n 0, 1) := by decide +kernel
theorem dL_law_1268 : decode cL_law 1268 = .ok (.iload_n 3, 1) := by decide +kernel
theorem dL_law_1269 : decode cL_law 1269 = .ok (.iconst 1, 1) := by decide +kernel
theorem dL_law_1270 : decode cL_law 1270 = .ok (.iadd, 1) := by decide +kernel
theorem dL_law_1271 : decode cL_law 1271 = .ok (.iaload, 1) := by decide +kernel
theorem dL_law_1272 : decode cL_law 1272 = .ok (.aload_n 0, 1) := by decide +kernel
theorem dL_law_1273 : decode cL_law 1273 = .ok (.iload_n 3, 1) := by decide +kernel
theorem dL_law_1274 : decode cL_law 1274 = .ok (.iconst 2, 1) := by decide +kernel
theorem dL_law_1275 : decode cL_law 1275 = .ok (.iadd, 1) := by decide +kernel
theorem dL_law_1276 : decode cL_law 1276 = .ok (.iaload, 1) := by decide +kernel
theorem dL_law_1277 : decode cL_law 1277 = .ok (.invokevirtual 139, 3) := by decide +kernel
theorem dL_law_1280 : decode cL_law 1280 = .ok (.aload_n 2, 1) := by decide +kernel
theorem dL_law_1281 : decode cL_law 1281 = .ok (.aload_n 0, 1) := by decide +kernel
theorem dL_law_1282 : decode cL_law 1282 = .ok (.iload_n 3, 1) := by decide +kernel
theorem dL_law_1283 : decode cL_law 1283 = .ok (.iconst 1, 1) := by decide +kernel
theorem dL_law_1284 : decode cL_law 1284 = .ok (.iadd, 1) := by decide +kernel
theorem dL_law_1285 : decode cL_law 1285 = .ok (.iaload, 1) := by decide +kernel
theorem dL_law_1286 : decode cL_law 1286 = .ok (.aload_n 0, 1) := by decide +kernel
theorem dL_law_1287 : decode cL_law 1287 = .ok (.iload_n 3, 1) := by decide +kernel
theorem dL_law_1288 : decode cL_law 1288 = .ok (.iconst 2, 1) := by decide +kernel
theorem dL_law_1289 : decode cL_law 1289 = .ok (.iadd, 1) := by decide +kernel
theorem dL_law_1290 : decode cL_law 1290 = .ok (.iaload, 1) := by decide +kernel
theorem dL_law_1291 : decode cL_law 1291 = .ok (.invokevirtual 142, 3) := by decide +kernel
theorem dL_law_1294 : decode cL_law 1294 = .ok (.if_icmp .eq 384, 3) := by decide +kernel
theorem dL_law_1299 : decode cL_law 1299 = .ok (.aload_n 1, 1) := by decide +kernel
theorem dL_law_1300 : decode cL_law 1300 = .ok (.aload_n 0, 1) := by decide +kernel
theorem dL_law_1301 : decode cL_law 1301 = .ok (.iload_n 3, 1) := by decide +kernel
theorem dL_law_1302 : decode cL_law 1302 = .ok (.iconst 1, 1) := by decide +kernel
theorem dL_law_1303 : decode cL_law 1303 = .ok (.iadd, 1) := by decide +kernel
theorem dL_law_1304 : decode cL_law 1304 = .ok (.iaload, 1) := by decide +kernel
theorem dL_law_1305 : decode cL_law 1305 = .ok (.aload_n 0, 1) := by decide +kernel
theorem dL_law_1306 : decode cL_law 1306 = .ok (.iload_n 3, 1) := by decide +kernel
theorem dL_law_1307 : decode cL_law 1307 = .ok (.iconst 2, 1) := by decide +kernel
theorem dL_law_1308 : decode cL_law 1308 = .ok (.iadd, 1) := by decide +kernel
theorem dL_law_1309 : decode cL_law 1309 = .ok (.iaload, 1) := by decide +kernel
theorem dL_law_1310 : decode cL_law 1310 = .ok (.invokevirtual 143, 3) := by decide +kernel
theorem dL_law_1313 : decode cL_law 1313 = .ok (.aload_n 2, 1) := by decide +kernel
theorem dL_law_1314 : decode cL_law 1314 = .ok (.aload_n 0, 1) := by decide +kernel
theorem dL_law_1315 : decode cL_law 1315 = .ok (.iload_n 3, 1) := by decide +kernel
theorem dL_law_1316 : decode cL_law 1316 = .ok (.iconst 1, 1) := by decide +kernel
theorem dL_law_1317 : decode cL_law 1317 = .ok (.iadd, 1) := by decide +kernel
theorem dL_law_1318 : decode cL_law 1318 = .ok (.iaload, 1) := by decide +kernel
theorem dL_law_1319 : decode cL_law 1319 = .ok (.aload_n 0, 1) := by decide +kernel
theorem dL_law_1320 : decode cL_law 1320 = .ok (.iload_n 3, 1) := by decide +kernel
theorem dL_law_1321 : decode cL_law 1321 = .ok (.iconst 2, 1) := by decide +kernel
theorem dL_law_1322 : decode cL_law 1322 = .ok (.iadd, 1) := by decide +kernel
theorem dL_law_1323 : decode cL_law 1323 = .ok (.iaload, 1) := by decide +kernel
theorem dL_law_1324 : decode cL_law 1324 = .ok (.invokevirtual 146, 3) := by decide +kernel
theorem dL_law_1327 : decode cL_law 1327 = .ok (.if_icmp .eq 351, 3) := by decide +kernel
theorem dL_law_1332 : decode cL_law 1332 = .ok (.aload_n 1, 1) := by decide +kernel
theorem dL_law_1333 : decode cL_law 1333 = .ok (.aload_n 0, 1) := by decide +kernel
theorem dL_law_1334 : decode cL_law 1334 = .ok (.iload_n 3, 1) := by decide +kernel
theorem dL_law_1335 : decode cL_law 1335 = .ok (.iconst 1, 1) := by decide +kernel
theorem dL_law_1336 : decode cL_law 1336 = .ok (.iadd, 1) := by decide +kernel
theorem dL_law_1337 : decode cL_law 1337 = .ok (.iaload, 1) := by decide +kernel
theorem dL_law_1338 : decode cL_law 1338 = .ok (.aload_n 0, 1) := by decide +kernel
theorem dL_law_1339 : decode cL_law 1339 = .ok (.iload_n 3, 1) := by decide +kernel
theorem dL_law_1340 : decode cL_law 1340 = .ok (.iconst 2, 1) := by decide +kernel
theorem dL_law_1341 : decode cL_law 1341 = .ok (.iadd, 1) := by decide +kernel
theorem dL_law_1342 : decode cL_law 1342 = .ok (.iaload, 1) := by decide +kernel
theorem dL_law_1343 : decode cL_law 1343 = .ok (.invokevirtual 147, 3) := by decide +kernel
theorem dL_law_1346 : decode cL_law 1346 = .ok (.aload_n 2, 1) := by decide +kernel
theorem dL_law_1347 : decode cL_law 1347 = .ok (.aload_n 0, 1) := by decide +kernel
theorem dL_law_1348 : decode cL_law 1348 = .ok (.iload_n 3, 1) := by decide +kernel
theorem dL_law_1349 : decode cL_law 1349 = .ok (.iconst 1, 1) := by decide +kernel
theorem dL_law_1350 : decode cL_law 1350 = .ok (.iadd, 1) := by decide +kernel
theorem dL_law_1351 : decode cL_law 1351 = .ok (.iaload, 1) := by decide +kernel
theorem dL_law_1352 : decode cL_law 1352 = .ok (.aload_n 0, 1) := by decide +kernel
theorem dL_law_1353 : decode cL_law 1353 = .ok (.iload_n 3, 1) := by decide +kernel
theorem dL_law_1354 : decode cL_law 1354 = .ok (.iconst 2, 1) := by decide +kernel
theorem dL_law_1355 : decode cL_law 1355 = .ok (.iadd, 1) := by decide +kernel
theorem dL_law_1356 : decode cL_law 1356 = .ok (.iaload, 1) := by decide +kernel
theorem dL_law_1357 : decode cL_law 1357 = .ok (.invokevirtual 150, 3) := by decide +kernel
theorem dL_law_1360 : decode cL_law 1360 = .ok (.if_icmp .eq 318, 3) := by decide +kernel
theorem dL_law_1365 : decode cL_law 1365 = .ok (.aload_n 1, 1) := by decide +kernel
theorem dL_law_1366 : decode cL_law 1366 = .ok (.aload_n 0, 1) := by decide +kernel
theorem dL_law_1367 : decode cL_law 1367 = .ok (.iload_n 3, 1) := by decide +kernel
theorem dL_law_1368 : decode cL_law 1368 = .ok (.iconst 1, 1) := by decide +kernel
theorem dL_law_1369 : decode cL_law 1369 = .ok (.iadd, 1) := by decide +kernel
theorem dL_law_1370 : decode cL_law 1370 = .ok (.iaload, 1) := by decide +kernel
theorem dL_law_1371 : decode cL_law 1371 = .ok (.invokevirtual 151, 3) := by decide +kernel
theorem dL_law_1374 : decode cL_law 1374 = .ok (.aload_n 2, 1) := by decide +kernel
theorem dL_law_1375 : decode cL_law 1375 = .ok (.aload_n 0, 1) := by decide +kernel
theorem dL_law_1376 : decode cL_law 1376 = .ok (.iload_n 3, 1) := by decide +kernel
theorem dL_law_1377 : decode cL_law 1377 = .ok (.iconst 1, 1) := by decide +kernel
theorem dL_law_1378 : decode cL_law 1378 = .ok (.iadd, 1) := by decide +kernel
theorem dL_law_1379 : decode cL_law 1379 = .ok (.iaload, 1) := by decide +kernel
theorem dL_law_1380 : decode cL_law 1380 = .ok (.invokevirtual 154, 3) := by decide +kernel
theorem dL_law_1383 : decode cL_law 1383 = .ok (.if_icmp .eq 295, 3) := by decide +kernel
theorem dL_law_1388 : decode cL_law 1388 = .ok (.aload_n 1, 1) := by decide +kernel
theorem dL_law_1389 : decode cL_law 1389 = .ok (.invokevirtual 155, 3) := by decide +kernel
theorem dL_law_1392 : decode cL_law 1392 = .ok (.aload_n 2, 1) := by decide +kernel
theorem dL_law_1393 : decode cL_law 1393 = .ok (.invokevirtual 158, 3) := by decide +kernel
theorem dL_law_1396 : decode cL_law 1396 = .ok (.if_icmp .eq 282, 3) := by decide +kernel
theorem dL_law_1401 : decode cL_law 1401 = .ok (.aload_n 1, 1) := by decide +kernel
theorem dL_law_1402 : decode cL_law 1402 = .ok (.aload_n 0, 1) := by decide +kernel
theorem dL_law_1403 : decode cL_law 1403 = .ok (.iload_n 3, 1) := by decide +kernel
theorem dL_law_1404 : decode cL_law 1404 = .ok (.iconst 1, 1) := by decide +kernel
theorem dL_law_1405 : decode cL_law 1405 = .ok (.iadd, 1) := by decide +kernel
theorem dL_law_1406 : decode cL_law 1406 = .ok (.iaload, 1) := by decide +kernel
theorem dL_law_1407 : decode cL_law 1407 = .ok (.aload_n 0, 1) := by decide +kernel
theorem dL_law_1408 : decode cL_law 1408 = .ok (.iload_n 3, 1) := by decide +kernel
theorem dL_law_1409 : decode cL_law 1409 = .ok (.iconst 2, 1) := by decide +kernel
theorem dL_law_1410 : decode cL_law 1410 = .ok (.iadd, 1) := by decide +kernel
theorem dL_law_1411 : decode cL_law 1411 = .ok (.iaload, 1) := by decide +kernel
theorem dL_law_1412 : decode cL_law 1412 = .ok (.invokevirtual 159, 3) := by decide +kernel
theorem dL_law_1415 : decode cL_law 1415 = .ok (.aload_n 2, 1) := by decide +kernel
theorem dL_law_1416 : decode cL_law 1416 = .ok (.aload_n 0, 1) := by decide +kernel
theorem dL_law_1417 : decode cL_law 1417 = .ok (.iload_n 3, 1) := by decide +kernel
theorem dL_law_1418 : decode cL_law 1418 = .ok (.iconst 1, 1) := by decide +kernel
theorem dL_law_1419 : decode cL_law 1419 = .ok (.iadd, 1) := by decide +kernel
theorem dL_law_1420 : decode cL_law 1420 = .ok (.iaload, 1) := by decide +kernel
theorem dL_law_1421 : decode cL_law 1421 = .ok (.aload_n 0, 1) := by decide +kernel
theorem dL_law_1422 : decode cL_law 1422 = .ok (.iload_n 3, 1) := by decide +kernel
theorem dL_law_1423 : decode cL_law 1423 = .ok (.iconst 2, 1) := by decide +kernel
theorem dL_law_1424 : decode cL_law 1424 = .ok (.iadd, 1) := by decide +kernel
theorem dL_law_1425 : decode cL_law 1425 = .ok (.iaload, 1) := by decide +kernel
theorem dL_law_1426 : decode cL_law 1426 = .ok (.invokevirtual 162, 3) := by decide +kernel
theorem dL_law_1429 : decode cL_law 1429 = .ok (.if_icmp .eq 249, 3) := by decide +kernel
set_option maxRecDepth 20000 in
theorem gv_law24_115_X11_go : GoodIn lw_tbl (wsV RL 115 RX11 yX11_go v_X11_go) := goodIn_app (goodIn_r _ [1106, 1107, 1108, 103] (by decide +kernel) (by decide +kernel)) (gi tb_X11_go gd_X11_go)
set_option maxRecDepth 20000 in
theorem gv_law24_118_X12_go : GoodIn lw_tbl (wsV RL 118 RX12 yX12_go v_X12_go) := goodIn_app (goodIn_r _ [1913, 1914, 1915, 114] (by decide +kernel) (by decide +kernel)) (gi tb_X12_go gd_X12_go)
set_option maxHeartbeats 4000000 in
set_option maxRecDepth 100000 in
theorem law_case_24 {p : Program} {e : Env} {s : State} {m : MethodId} {below : List Frame} {meth : Method} {c : Code} (l : Launch) (G : va_G) (cI cJ cZ cD cR cT : ClassId) {b : Nat} {xs : Nat → Int32} (h0 k0 h0_0 h0_1 h0_2 h0_3 h0_6 h0_7 h0_8 h0_10 h0_11 h0_13 h0_0_0 h0_0_1 h0_0_2 h0_0_3 h0_0_4 h0_0_5 h0_0_8 h0_0_15 h0_0_16 h0_0_0_1 h0_0_0_2 h0_0_0_3 h0_0_0_4 h0_0_0_5 h0_0_0_6 h0_0_0_7 h0_0_0_8 h0_0_0_9 h0_0_1_1 h0_0_1_2 h0_0_1_3 h0_0_1_4 h0_0_1_5 h0_0_1_6 h0_0_1_7 h0_0_1_9 h0_0_1_10 h0_0_1_11 h0_0_2_1 h0_0_2_2 h0_0_2_3 h0_0_2_4 h0_0_2_5 h0_0_2_6 h0_0_2_8 h0_0_2_9 h0_0_2_10 h0_0_3_0 h0_0_3_1 h0_0_4_1 h0_0_4_2 h0_0_4_3 k0_2 k0_3 k0_4 k0_5 k0_9 k0_10 k0_11 k0_20 k0_22 k0_23 k0_25 k0_26 k0_29 k0_30 k0_31 k0_32 k0_39 k0_40 k0_42 k0_44 k0_45 : Nat) {H : Heap} {locs : List Loc} {ls : Array Slot} (hx : p.tables.exec = Jvm.exec) (hb : c.code = code) (hr : meth.sig.returnType = ret) (hml : c.maxLocals = 4) (hown : s.vm.findClass RL = some m.cls) (hts : ∀ w ∈ lw_tbl, w.before #[Value.ref b] s = true) (hX : va_X b 6 xs s s.heap) (hbl : b < s.heap.size) (hlocks : meth.locks = false) (hKK : KK G (tys6 cI cJ cZ cD cR cT) s) (hP : va_P G vwCl [(h0, .inr (11, [.ref h0_0, .ref h0_1, .ref h0_2, .ref h0_3, .int 0, .int 0, .ref h0_6, .ref h0_7, .ref h0_8, .int 0, .ref h0_10, .ref h0_11, .int 0, .ref h0_13, .int 0, .int 0])), (h0_0, .inr (0, [.ref h0_0_0, .ref h0_0_1, .ref h0_0_2, .ref h0_0_3, .ref h0_0_4, .ref h0_0_5, .int 0, .int 0, .ref h0_0_8, .int 0, .int 0, .int 0, .int 0, .long 0, .int 0, .ref h0_0_15, .ref h0_0_16])), (h0_0_0, .inr (4, [.int 0, .ref h0_0_0_1, .ref h0_0_0_2, .ref h0_0_0_3, .ref h0_0_0_4, .ref h0_0_0_5, .ref h0_0_0_6, .ref h0_0_0_7, .ref h0_0_0_8, .ref h0_0_0_9])), (h0_0_0_8, .inl (cI, 40, .inl (fun _ => 0))), (h0_0_0_9, .inl (cI, 40, .inl (fun _ => 0))), (h0_0_1, .inr (1, [.int 0, .ref h0_0_1_1, .ref h0_0_1_2, .ref h0_0_1_3, .ref h0_0_1_4, .ref h0_0_1_5, .ref h0_0_1_6, .ref h0_0_1_7, .int 0, .ref h0_0_1_9, .ref h0_0_1_10, .ref h0_0_1_11, .int (-1), .long 0, .long 0])), (h0_0_2, .inr (10, [.int 0, .ref h0_0_2_1, .ref h0_0_2_2, .ref h0_0_2_3, .ref h0_0_2_4, .ref h0_0_2_5, .ref h0_0_2_6, .int 0, .ref h0_0_2_8, .ref h0_0_2_9, .ref h0_0_2_10])), (h0_0_3, .inr (7, [.ref h0_0_3_0, .ref h0_0_3_1])), (h0_0_3_0, .inl (cI, 400, .inl (fillU (fun _ => 0) (-1) 400))), (h0_0_3_1, .inl (cR, 400, .inr (.inr (.inr (.inr (fun _ => none)))))), (h0_0_4, .inr (2, [.int 0, .ref h0_0_4_1, .ref h0_0_4_2, .ref h0_0_4_3])), (h0_0_4_3, .inl (cI, 20, .inl (fun _ => 0))), (k0, .inr (12, [.int 0, .int 0, .ref k0_2, .ref k0_3, .ref k0_4, .ref k0_5, .int 0, .int 0, .int 0, .ref k0_9, .ref k0_10, .ref k0_11, .int 0, .int 0, .int 0, .int 0, .long 0, .int (-1), .int 0, .int 0, .ref k0_20, .int 0, .ref k0_22, .ref k0_23, .int 0, .ref k0_25, .ref k0_26, .int 0, .int 0, .ref k0_29, .ref k0_30, .ref k0_31, .ref k0_32, .int 0, .long 0, .long 0, .long 0, .long 0, .int 0, .ref k0_39, .ref k0_40, .int 0, .ref k0_42, .int 0, .ref k0_44, .ref k0_45, .int 0, .int 0, .int 0, .int 0, .int 0, .int 0])), (k0_2, .inl (cI, 35942, .inl mrow)), (k0_30, .inl (cZ, 240, .inl (fun _ => 0)))] H) (hD : va_D (fun q : Nat => s.heap.size ≤ q) [(h0, .inr (11, [.ref h0_0, .ref h0_1, .ref h0_2, .ref h0_3, .int 0, .int 0, .ref h0_6, .ref h0_7, .ref h0_8, .int 0, .ref h0_10, .ref h0_11, .int 0, .ref h0_13, .int 0, .int 0])), (h0_0, .inr (0, [.ref h0_0_0, .ref h0_0_1, .ref h0_0_2, .ref h0_0_3, .ref h0_0_4, .ref h0_0_5, .int 0, .int 0, .ref h0_0_8, .int 0, .int 0, .int 0, .int 0, .long 0, .int 0, .ref h0_0_15, .ref h0_0_16])), (h0_0_0, .inr (4, [.int 0, .ref h0_0_0_1, .ref h0_0_0_2, .ref h0_0_0_3, .ref h0_0_0_4, .ref h0_0_0_5, .ref h0_0_0_6, .ref h0_0_0_7, .ref h0_0_0_8, .ref h0_0_0_9])), (h0_0_0_8, .inl (cI, 40, .inl (fun _ => 0))), (h0_0_0_9, .inl (cI, 40, .inl (fun _ => 0))), (h0_0_1, .inr (1, [.int 0, .ref h0_0_1_1, .ref h0_0_1_2, .ref h0_0_1_3, .ref h0_0_1_4, .ref h0_0_1_5, .ref h0_0_1_6, .ref h0_0_1_7, .int 0, .ref h0_0_1_9, .ref h0_0_1_10, .ref h0_0_1_11, .int (-1), .long 0, .long 0])), (h0_0_2, .inr (10, [.int 0, .ref h0_0_2_1, .ref h0_0_2_2, .ref h0_0_2_3, .ref h0_0_2_4, .ref h0_0_2_5, .ref h0_0_2_6, .int 0, .ref h0_0_2_8, .ref h0_0_2_9, .ref h0_0_2_10])), (h0_0_3, .inr (7, [.ref h0_0_3_0, .ref h0_0_3_1])), (h0_0_3_0, .inl (cI, 400, .inl (fillU (fun _ => 0) (-1) 400))), (h0_0_3_1, .inl (cR, 400, .inr (.inr (.inr (.inr (fun _ => none)))))), (h0_0_4, .inr (2, [.int 0, .ref h0_0_4_1, .ref h0_0_4_2, .ref h0_0_4_3])), (h0_0_4_3, .inl (cI, 20, .inl (fun _ => 0))), (k0, .inr (12, [.int 0, .int 0, .ref k0_2, .ref k0_3, .ref k0_4, .ref k0_5, .int 0, .int 0, .int 0, .ref k0_9, .ref k0_10, .ref k0_11, .int 0, .int 0, .int 0, .int 0, .long 0, .int (-1), .int 0, .int 0, .ref k0_20, .int 0, .ref k0_22, .ref k0_23, .int 0, .ref k0_25, .ref k0_26, .int 0, .int 0, .ref k0_29, .ref k0_30, .ref k0_31, .ref k0_32, .int 0, .long 0, .long 0, .long 0, .long 0, .int 0, .ref k0_39, .ref k0_40, .int 0, .ref k0_42, .int 0, .ref k0_44, .ref k0_45, .int 0, .int 0, .int 0, .int 0, .int 0, .int 0])), (k0_2, .inl (cI, 35942, .inl mrow)), (k0_30, .inl (cZ, 240, .inl (fun _ => 0)))]) (hS : va_S (fun q : Nat => s.heap.size ≤ q) s.heap H locs) (hl : lv_has ls 4 [(3, .int 0), (2, .ref k0), (1, .ref h0), (0, .ref b)]) : W p l e room_1 s m #[Value.ref b] below meth c H locs 221 158368 (lw_Z below #[Value.ref b] s) (F0 m 1048 ls []) := by
  have hK := hKK.1
  have hA : ∀ q : Nat, s.heap.size ≤ q → (fun q : Nat => s.heap.size ≤ q) q := fun _ h => h
  have hbA : ¬ (fun q : Nat => s.heap.size ≤ q) b := Nat.not_le.mpr hbl
  refine lv_aload_n hx hb dL_law_1048 rfl (lv_at hl 2 rfl) ?_
  refine lv_aload_n hx hb dL_law_1049 rfl (lv_at hl 3 rfl) ?_
  refine lv_iload_n hx hb dL_law_1050 rfl (lv_at hl 0 rfl) ?_
  refine lv_iconst (v := 1) hx hb dL_law_1051 (by decide) ?_
  refine lv_iadd hx hb dL_law_1052 ?_
  refine lv_topi (fun x1 ex1 => ?_)
  obtain rfl : 1 = x1 := (ex1.trans (by decide)).symm
  refine va_sld hx hb hX hbl hbA hS (vp_in_iff.mpr (by decide)) dL_law_1053 ?_
  refine lv_topi (fun x2 ex2 => ?_)
  obtain rfl : xs 1 = x2 := (ex2.trans rfl).symm
  refine goV (As := [.int (xs 1)]) (rest := []) (wr := [(k0, .inr (12, [.int 0, .int 0, .ref k0_2, .ref k0_3, .ref k0_4, .ref k0_5, .int 0, .int 0, .int 0, .ref k0_9, .ref k0_10, .ref k0_11, .int 0, .int 0, .int 0, .int 0, .long 0, .int (-1), .int 0, .int 0, .ref k0_20, .int 0, .ref k0_22, .ref k0_23, .int 0, .ref k0_25, .ref k0_26, .int 0, .int 0, .ref k0_29, .ref k0_30, .ref k0_31, .ref k0_32, .int 0, .long 0, .long 0, .long 0, .long 0, .int 0, .ref k0_39, .ref k0_40, .int 0, .ref k0_42, .int 0, .ref k0_44, .ref k0_45, .int 0, .int 0, .int 0, .int 0, .int 0, .int 0])), (k0_2, .inl (cI, 35942, .inl mrow)), (k0_30, .inl (cZ, 240, .inl (fun _ => 0)))]) ⟨hx, hb, hml, hown, hts⟩ (c_X11_go l G cI cJ cZ cD cR cT h0 (xs 1) h0_0 h0_1 h0_2 h0_3 h0_6 h0_7 h0_8 h0_10 h0_11 h0_13 h0_0_0 h0_0_1 h0_0_2 h0_0_3 h0_0_4 h0_0_5 h0_0_8 h0_0_15 h0_0_16 h0_0_0_1 h0_0_0_2 h0_0_0_3 h0_0_0_4 h0_0_0_5 h0_0_0_6 h0_0_0_7 h0_0_0_8 h0_0_0_9 h0_0_1_1 h0_0_1_2 h0_0_1_3 h0_0_1_4 h0_0_1_5 h0_0_1_6 h0_0_1_7 h0_0_1_9 h0_0_1_10 h0_0_1_11 h0_0_2_1 h0_0_2_2 h0_0_2_3 h0_0_2_4 h0_0_2_5 h0_0_2_6 h0_0_2_8 h0_0_2_9 h0_0_2_10 h0_0_3_0 h0_0_3_1 h0_0_4_1 h0_0_4_2 h0_0_4_3 _) (cwV 1 hts gv_law24_115_X11_go rfl rfl rfl (by decide +kernel) ⟨Nat.le_of_ble_eq_true rfl, Nat.le_of_ble_eq_true rfl⟩) 0 rfl rfl rfl hKK hP hD hS hA [0, 1, 2, 3, 4, 5, 6, 7, 8, 9, 10, 11] [12, 13, 14] rfl rfl (by decide +kernel) (by decide +kernel) (by decide +kernel) rfl hl.1 rfl (lv_room (Nat.le_of_ble_eq_true rfl)) dL_law_1054 ⟨Nat.le_of_ble_eq_true rfl, Nat.le_of_ble_eq_true rfl⟩ (fun v4 q3 gq3 H locs hv4 => appW (ws' := [(k0, .inr (12, [.int 0, .int 0, .ref k0_2, .ref k0_3, .ref k0_4, .ref k0_5, .int 0, .int 0, .int 0, .ref k0_9, .ref k0_10, .ref k0_11, .int 0, .int 0, .int 0, .int 0, .long 0, .int (-1), .int 0, .int 0, .ref k0_20, .int 0, .ref k0_22, .ref k0_23, .int 0, .ref k0_25, .ref k0_26, .int 0, .int 0, .ref k0_29, .ref k0_30, .ref k0_31, .ref k0_32, .int 0, .long 0, .long 0, .long 0, .long 0, .int 0, .ref k0_39, .ref k0_40, .int 0, .ref k0_42, .int 0, .ref k0_44, .ref k0_45, .int 0, .int 0, .int 0, .int 0, .int 0, .int 0])), (k0_2, .inl (cI, 35942, .inl mrow)), (k0_30, .inl (cZ, 240, .inl (fun _ => 0)))]) rfl (fun hP hD hS => ?_))
  obtain ⟨r5, rfl, hr5⟩ := hv4
  refine lv_aload_n hx hb dL_law_1057 rfl (lv_at hl 1 rfl) ?_
  refine lv_aload_n hx hb dL_law_1058 rfl (lv_at hl 3 rfl) ?_
  refine lv_iload_n hx hb dL_law_1059 rfl (lv_at hl 0 rfl) ?_
  refine lv_iconst (v := 1) hx hb dL_law_1060 (by decide) ?_
  refine lv_iadd hx hb dL_law_1061 ?_
  refine lv_topi (fun x6 ex6 => ?_)
  obtain rfl : 1 = x6 := (ex6.trans (by decide)).symm
  refine va_sld hx hb hX hbl hbA hS (vp_in_iff.mpr (by decide)) dL_law_1062 ?_
  refine lv_topi (fun x7 ex7 => ?_)
  obtain rfl : xs 1 = x7 := (ex7.trans rfl).symm
  refine goV (As := [.int (xs 1)]) (rest := [.int r5]) (wr := []) ⟨hx, hb, hml, hown, hts⟩ (c_X12_go l G cI cJ cZ cD cR cT k0 (xs 1) k0_2 k0_3 k0_4 k0_5 k0_9 k0_10 k0_11 k0_20 k0_22 k0_23 k0_25 k0_26 k0_29 k0_30 k0_31 k0_32 k0_39 k0_40 k0_42 k0_44 k0_45 _) (cwV 1 hts gv_law24_118_X12_go rfl rfl rfl (by decide +kernel) ⟨Nat.le_of_ble_eq_true rfl, Nat.le_of_ble_eq_true rfl⟩) 0 rfl rfl rfl hKK hP hD hS hA [0, 1, 2] [] rfl rfl (by decide +kernel) (by decide +kernel) (by decide +kernel) rfl hl.1 rfl (lv_room (Nat.le_of_ble_eq_true rfl)) dL_law_1063 ⟨Nat.le_of_ble_eq_true rfl, Nat.le_of_ble_eq_true rfl⟩ (fun v9 q8 gq8 H locs hv9 => appW (ws' := []) rfl (fun hP hD hS => ?_))
  obtain ⟨r10, rfl, hr10⟩ := hv9
  refine lv_icmp_eq (tgt := 1678) hx hb dL_law_1066 (by decide) (fun _ => ?_) (fun c => absurd (hr5.trans hr10.symm) c)
  refine lv_iinc (v := 6) (lv' := [(3, .int 6), (2, .ref k0), (1, .ref h0), (0, .ref b)]) hx hb dL_law_1678 hl (k := 0) rfl (by decide) (by decide) rfl (fun ls hl => ?_)
  refine lv_goto (tgt := 18) hx hb dL_law_1681 (by decide) ?_
  refine lv_iload_n hx hb dL_law_18 rfl (lv_at hl 0 rfl) ?_
  refine lv_aload_n hx hb dL_law_19 rfl (lv_at hl 3 rfl) ?_
  refine va_slen hx hb hX hbl hbA hS dL_law_20 ?_
  refine lv_topi (fun x11 ex11 => ?_)
  obtain rfl : 6 = x11 := (ex11.trans rfl).symm
  refine lv_bipush (v := 6) hx hb dL_law_21 (by decide) ?_
  refine lv_isub hx hb dL_law_23 ?_
  refine lv_topi (fun x12 ex12 => ?_)
  obtain rfl : 0 = x12 := (ex12.trans (by decide)).symm
  refine lv_icmp_gt (tgt := 1684) hx hb dL_law_24 (by decide) (fun _ => ?_) (fun c => absurd c (by decide))
  refine lv_iconst (v := 1) hx hb dL_law_1684 (by decide) ?_
  refine va_forget (fun q h => hS.2.2 q h) ?_
  refine W.widen (k := 600000) (n := 7302250) (Nat.le_of_ble_eq_true rfl) (Nat.le_of_ble_eq_true rfl) ?_
  exact W.base (lw_ret (Drawn.sameBut.refl s.drawn lw_cs) hx hb hr hlocks dL_law_1685)
set_option maxRecDepth 20000 in
theorem gv_law25_119_X11_deal : GoodIn lw_tbl (wsV RL 119 RX11 yX11_deal v_X11_deal) := goodIn_app (goodIn_r _ [1176, 1177, 1178, 103] (by decide +kernel) (by decide +kernel)) (gi tb_X11_deal gd_X11_deal)
set_option maxRecDepth 20000 in
theorem gv_law25_122_X12_deal : GoodIn lw_tbl (wsV RL 122 RX12 yX12_deal v_X12_deal) := goodIn_app (goodIn_r _ [1966, 1967, 1968, 114] (by decide +kernel) (by decide +kernel)) (gi tb_X12_deal gd_X12_deal)
set_option maxHeartbeats 4000000 in
set_option maxRecDepth 100000 in
theorem law_case_25 {p : Program} {e : Env} {s : State} {m : MethodId} {below : List Frame} {meth : Method} {c : Code} (l : Launch) (G : va_G) (cI cJ cZ cD cR cT : ClassId) {b : Nat} {xs : Nat → Int32} (h0 k0 h0_0 h0_1 h0_2 h0_3 h0_6 h0_7 h0_8 h0_10 h0_11 h0_13 h0_0_0 h0_0_1 h0_0_2 h0_0_3 h0_0_4 h0_0_5 h0_0_8 h0_0_15 h0_0_16 h0_0_0_1 h0_0_0_2 h0_0_0_3 h0_0_0_4 h0_0_0_5 h0_0_0_6 h0_0_0_7 h0_0_0_8 h0_0_0_9 k0_2 k0_3 k0_4 k0_5 k0_9 k0_10 k0_11 k0_20 k0_22 k0_23 k0_25 k0_26 k0_29 k0_30 k0_31 k0_32 k0_39 k0_40 k0_42 k0_44 k0_45 : Nat) {H : Heap} {locs : List Loc} {ls : Array Slot} (hx : p.tables.exec = Jvm.exec) (hb : c.code = code) (hr : meth.sig.returnType = ret) (hml : c.maxLocals = 4) (hown : s.vm.findClass RL = some m.cls) (hts : ∀ w ∈ lw_tbl, w.before #[Value.ref b] s = true) (hX : va_X b 6 xs s s.heap) (hbl : b < s.heap.size) (hlocks : meth.locks = false) (hKK : KK G (tys6 cI cJ cZ cD cR cT) s) (hP : va_P G vwCl [(h0, .inr (11, [.ref h0_0, .ref h0_1, .ref h0_2, .ref h0_3, .int 0, .int 0, .ref h0_6, .ref h0_7, .ref h0_8, .int 0, .ref h0_10, .ref h0_11, .int 0, .ref h0_13, .int 0, .int 0])), (h0_0, .inr (0, [.ref h0_0_0, .ref h0_0_1, .ref h0_0_2, .ref h0_0_3, .ref h0_0_4, .ref h0_0_5, .int 0, .int 0, .ref h0_0_8, .int 0, .int 0, .int 0, .int 0, .long 0, .int 0, .ref h0_0_15, .ref h0_0_16])), (h0_0_0, .inr (4, [.int 0, .ref h0_0_0_1, .ref h0_0_0_2, .ref h0_0_0_3, .ref h0_0_0_4, .ref h0_0_0_5, .ref h0_0_0_6, .ref h0_0_0_7, .ref h0_0_0_8, .ref h0_0_0_9])), (k0, .inr (12, [.int 0, .int 0, .ref k0_2, .ref k0_3, .ref k0_4, .ref k0_5, .int 0, .int 0, .int 0, .ref k0_9, .ref k0_10, .ref k0_11, .int 0, .int 0, .int 0, .int 0, .long 0, .int (-1), .int 0, .int 0, .ref k0_20, .int 0, .ref k0_22, .ref k0_23, .int 0, .ref k0_25, .ref k0_26, .int 0, .int 0, .ref k0_29, .ref k0_30, .ref k0_31, .ref k0_32, .int 0, .long 0, .long 0, .long 0, .long 0, .int 0, .ref k0_39, .ref k0_40, .int 0, .ref k0_42, .int 0, .ref k0_44, .ref k0_45, .int 0, .int 0, .int 0, .int 0, .int 0, .int 0])), (k0_2, .inl (cI, 35942, .inl mrow))] H) (hD : va_D (fun q : Nat => s.heap.size ≤ q) [(h0, .inr (11, [.ref h0_0, .ref h0_1, .ref h0_2, .ref h0_3, .int 0, .int 0, .ref h0_6, .ref h0_7, .ref h0_8, .int 0, .ref h0_10, .ref h0_11, .int 0, .ref h0_13, .int 0, .int 0])), (h0_0, .inr (0, [.ref h0_0_0, .ref h0_0_1, .ref h0_0_2, .ref h0_0_3, .ref h0_0_4, .ref h0_0_5, .int 0, .int 0, .ref h0_0_8, .int 0, .int 0, .int 0, .int 0, .long 0, .int 0, .ref h0_0_15, .ref h0_0_16])), (h0_0_0, .inr (4, [.int 0, .ref h0_0_0_1, .ref h0_0_0_2, .ref h0_0_0_3, .ref h0_0_0_4, .ref h0_0_0_5, .ref h0_0_0_6, .ref h0_0_0_7, .ref h0_0_0_8, .ref h0_0_0_9])), (k0, .inr (12, [.int 0, .int 0, .ref k0_2, .ref k0_3, .ref k0_4, .ref k0_5, .int 0, .int 0, .int 0, .ref k0_9, .ref k0_10, .ref k0_11, .int 0, .int 0, .int 0, .int 0, .long 0, .int (-1), .int 0, .int 0, .ref k0_20, .int 0, .ref k0_22, .ref k0_23, .int 0, .ref k0_25, .ref k0_26, .int 0, .int 0, .ref k0_29, .ref k0_30, .ref k0_31, .ref k0_32, .int 0, .long 0, .long 0, .long 0, .long 0, .int 0, .ref k0_39, .ref k0_40, .int 0, .ref k0_42, .int 0, .ref k0_44, .ref k0_45, .int 0, .int 0, .int 0, .int 0, .int 0, .int 0])), (k0_2, .inl (cI, 35942, .inl mrow))]) (hS : va_S (fun q : Nat => s.heap.size ≤ q) s.heap H locs) (hl : lv_has ls 4 [(3, .int 0), (2, .ref k0), (1, .ref h0), (0, .ref b)]) : W p l e room_1 s m #[Value.ref b] below meth c H locs 221 158368 (lw_Z below #[Value.ref b] s) (F0 m 1071 ls []) := by
  have hK := hKK.1
  have hA : ∀ q : Nat, s.heap.size ≤ q → (fun q : Nat => s.heap.size ≤ q) q := fun _ h => h
  have hbA : ¬ (fun q : Nat => s.heap.size ≤ q) b := Nat.not_le.mpr hbl
  refine lv_aload_n hx hb dL_law_1071 rfl (lv_at hl 2 rfl) ?_
  refine lv_aload_n hx hb dL_law_1072 rfl (lv_at hl 3 rfl) ?_
  refine lv_iload_n hx hb dL_law_1073 rfl (lv_at hl 0 rfl) ?_
  refine lv_iconst (v := 1) hx hb dL_law_1074 (by decide) ?_
  refine lv_iadd hx hb dL_law_1075 ?_
  refine lv_topi (fun x1 ex1 => ?_)
  obtain rfl : 1 = x1 := (ex1.trans (by decide)).symm
  refine va_sld hx hb hX hbl hbA hS (vp_in_iff.mpr (by decide)) dL_law_1076 ?_
  refine lv_topi (fun x2 ex2 => ?_)
  obtain rfl : xs 1 = x2 := (ex2.trans rfl).symm
  refine lv_aload_n hx hb dL_law_1077 rfl (lv_at hl 3 rfl) ?_
  refine lv_iload_n hx hb dL_law_1078 rfl (lv_at hl 0 rfl) ?_
  refine lv_iconst (v := 2) hx hb dL_law_1079 (by decide) ?_
  refine lv_iadd hx hb dL_law_1080 ?_
  refine lv_topi (fun x3 ex3 => ?_)
  obtain rfl : 2 = x3 := (ex3.trans (by decide)).symm
  refine va_sld hx hb hX hbl hbA hS (vp_in_iff.mpr (by decide)) dL_law_1081 ?_
  refine lv_topi (fun x4 ex4 => ?_)
  obtain rfl : xs 2 = x4 := (ex4.trans rfl).symm
  refine lv_aload_n hx hb dL_law_1082 rfl (lv_at hl 3 rfl) ?_
  refine lv_iload_n hx hb dL_law_1083 rfl (lv_at hl 0 rfl) ?_
  refine lv_iconst (v := 3) hx hb dL_law_1084 (by decide) ?_
  refine lv_iadd hx hb dL_law_1085 ?_
  refine lv_topi (fun x5 ex5 => ?_)
  obtain rfl : 3 = x5 := (ex5.trans (by decide)).symm
  refine va_sld hx hb hX hbl hbA hS (vp_in_iff.mpr (by decide)) dL_law_1086 ?_
  refine lv_topi (fun x6 ex6 => ?_)
  obtain rfl : xs 3 = x6 := (ex6.trans rfl).symm
  refine goV (As := [.int (xs 1), .int (xs 2), .int (xs 3)]) (rest := []) (wr := [(k0, .inr (12, [.int 0, .int 0, .ref k0_2, .ref k0_3, .ref k0_4, .ref k0_5, .int 0, .int 0, .int 0, .ref k0_9, .ref k0_10, .ref k0_11, .int 0, .int 0, .int 0, .int 0, .long 0, .int (-1), .int 0, .int 0, .ref k0_20, .int 0, .ref k0_22, .ref k0_23, .int 0, .ref k0_25, .ref k0_26, .int 0, .int 0, .ref k0_29, .ref k0_30, .ref k0_31, .ref k0_32, .int 0, .long 0, .long 0, .long 0, .long 0, .int 0, .ref k0_39, .ref k0_40, .int 0, .ref k0_42, .int 0, .ref k0_44, .ref k0_45, .int 0, .int 0, .int 0, .int 0, .int 0, .int 0])), (k0_2, .inl (cI, 35942, .inl mrow))]) ⟨hx, hb, hml, hown, hts⟩ (c_X11_deal l G cI cJ cZ cD cR cT h0 (xs 1) (xs 2) (xs 3) h0_0 h0_1 h0_2 h0_3 h0_6 h0_7 h0_8 h0_10 h0_11 h0_13 h0_0_0 h0_0_1 h0_0_2 h0_0_3 h0_0_4 h0_0_5 h0_0_8 h0_0_15 h0_0_16 h0_0_0_1 h0_0_0_2 h0_0_0_3 h0_0_0_4 h0_0_0_5 h0_0_0_6 h0_0_0_7 h0_0_0_8 h0_0_0_9 _) (cwV 3 hts gv_law25_119_X11_deal rfl rfl rfl (by decide +kernel) ⟨Nat.le_of_ble_eq_true rfl, Nat.le_of_ble_eq_true rfl⟩) 0 rfl rfl rfl hKK hP hD hS hA [0, 1, 2] [3, 4] rfl rfl (by decide +kernel) (by decide +kernel) (by decide +kernel) rfl hl.1 rfl (lv_room (Nat.le_of_ble_eq_true rfl)) dL_law_1087 ⟨Nat.le_of_ble_eq_true rfl, Nat.le_of_ble_eq_true rfl⟩ (fun v8 q7 gq7 H locs hv8 => appW (ws' := [(k0, .inr (12, [.int 0, .int 0, .ref k0_2, .ref k0_3, .ref k0_4, .ref k0_5, .int 0, .int 0, .int 0, .ref k0_9, .ref k0_10, .ref k0_11, .int 0, .int 0, .int 0, .int 0, .long 0, .int (-1), .int 0, .int 0, .ref k0_20, .int 0, .ref k0_22, .ref k0_23, .int 0, .ref k0_25, .ref k0_26, .int 0, .int 0, .ref k0_29, .ref k0_30, .ref k0_31, .ref k0_32, .int 0, .long 0, .long 0, .long 0, .long 0, .int 0, .ref k0_39, .ref k0_40, .int 0, .ref k0_42, .int 0, .ref k0_44, .ref k0_45, .int 0, .int 0, .int 0, .int 0, .int 0, .int 0])), (k0_2, .inl (cI, 35942, .inl mrow))]) rfl (fun hP hD hS => ?_))
  obtain ⟨r9, rfl, hr9⟩ := hv8
  refine lv_aload_n hx hb dL_law_1090 rfl (lv_at hl 1 rfl) ?_
  refine lv_aload_n hx hb dL_law_1091 rfl (lv_at hl 3 rfl) ?_
  refine lv_iload_n hx hb dL_law_1092 rfl (lv_at hl 0 rfl) ?_
  refine lv_iconst (v := 1) hx hb dL_law_1093 (by decide) ?_
  refine lv_iadd hx hb dL_law_1094 ?_
  refine lv_topi (fun x10 ex10 => ?_)
  obtain rfl : 1 = x10 := (ex10.trans (by decide)).symm
  refine va_sld hx hb hX hbl hbA hS (vp_in_iff.mpr (by decide)) dL_law_1095 ?_
  refine lv_topi (fun x11 ex11 => ?_)
  obtain rfl : xs 1 = x11 := (ex11.trans rfl).symm
  refine lv_aload_n hx hb dL_law_1096 rfl (lv_at hl 3 rfl) ?_
  refine lv_iload_n hx hb dL_law_1097 rfl (lv_at hl 0 rfl) ?_
  refine lv_iconst (v := 2) hx hb dL_law_1098 (by decide) ?_
  refine lv_iadd hx hb dL_law_1099 ?_
  refine lv_topi (fun x12 ex12 => ?_)
  obtain rfl : 2 = x12 := (ex12.trans (by decide)).symm
  refine va_sld hx hb hX hbl hbA hS (vp_in_iff.mpr (by decide)) dL_law_1100 ?_
  refine lv_topi (fun x13 ex13 => ?_)
  obtain rfl : xs 2 = x13 := (ex13.trans rfl).symm
  refine lv_aload_n hx hb dL_law_1101 rfl (lv_at hl 3 rfl) ?_
  refine lv_iload_n hx hb dL_law_1102 rfl (lv_at hl 0 rfl) ?_
  refine lv_iconst (v := 3) hx hb dL_law_1103 (by decide) ?_
  refine lv_iadd hx hb dL_law_1104 ?_
  refine lv_topi (fun x14 ex14 => ?_)
  obtain rfl : 3 = x14 := (ex14.trans (by decide)).symm
  refine va_sld hx hb hX hbl hbA hS (vp_in_iff.mpr (by decide)) dL_law_1105 ?_
  refine lv_topi (fun x15 ex15 => ?_)
  obtain rfl : xs 3 = x15 := (ex15.trans rfl).symm
  refine goV (As := [.int (xs 1), .int (xs 2), .int (xs 3)]) (rest := [.int r9]) (wr := []) ⟨hx, hb, hml, hown, hts⟩ (c_X12_deal l G cI cJ cZ cD cR cT k0 (xs 1) (xs 2) (xs 3) k0_2 k0_3 k0_4 k0_5 k0_9 k0_10 k0_11 k0_20 k0_22 k0_23 k0_25 k0_26 k0_29 k0_30 k0_31 k0_32 k0_39 k0_40 k0_42 k0_44 k0_45 _) (cwV 3 hts gv_law25_122_X12_deal rfl rfl rfl (by decide +kernel) ⟨Nat.le_of_ble_eq_true rfl, Nat.le_of_ble_eq_true rfl⟩) 0 rfl rfl rfl hKK hP hD hS hA [0, 1] [] rfl rfl (by decide +kernel) (by decide +kernel) (by decide +kernel) rfl hl.1 rfl (lv_room (Nat.le_of_ble_eq_true rfl)) dL_law_1106 ⟨Nat.le_of_ble_eq_true rfl, Nat.le_of_ble_eq_true rfl⟩ (fun v17 q16 gq16 H locs hv17 => appW (ws' := []) rfl (fun hP hD hS => ?_))
  obtain ⟨r18, rfl, hr18⟩ := hv17
  refine lv_icmp_eq (tgt := 1678) hx hb dL_law_1109 (by decide) (fun _ => ?_) (fun c => absurd (hr9.trans hr18.symm) c)
  refine lv_iinc (v := 6) (lv' := [(3, .int 6), (2, .ref k0), (1, .ref h0), (0, .ref b)]) hx hb dL_law_1678 hl (k := 0) rfl (by decide) (by decide) rfl (fun ls hl => ?_)
  refine lv_goto (tgt := 18) hx hb dL_law_1681 (by decide) ?_
  refine lv_iload_n hx hb dL_law_18 rfl (lv_at hl 0 rfl) ?_
  refine lv_aload_n hx hb dL_law_19 rfl (lv_at hl 3 rfl) ?_
  refine va_slen hx hb hX hbl hbA hS dL_law_20 ?_
  refine lv_topi (fun x19 ex19 => ?_)
  obtain rfl : 6 = x19 := (ex19.trans rfl).symm
  refine lv_bipush (v := 6) hx hb dL_law_21 (by decide) ?_
  refine lv_isub hx hb dL_law_23 ?_
  refine lv_topi (fun x20 ex20 => ?_)
  obtain rfl : 0 = x20 := (ex20.trans (by decide)).symm
  refine lv_icmp_gt (tgt := 1684) hx hb dL_law_24 (by decide) (fun _ => ?_) (fun c => absurd c (by decide))
  refine lv_iconst (v := 1) hx hb dL_law_1684 (by decide) ?_
  refine va_forget (fun q h => hS.2.2 q h) ?_
  refine W.widen (k := 600000) (n := 7302250) (Nat.le_of_ble_eq_true rfl) (Nat.le_of_ble_eq_true rfl) ?_
  exact W.base (lw_ret (Drawn.sameBut.refl s.drawn lw_cs) hx hb hr hlocks dL_law_1685)
set_option maxRecDepth 20000 in
theorem gv_law26_123_X11_brave : GoodIn lw_tbl (wsV RL 123 RX11 yX11_brave v_X11_brave) := goodIn_app (goodIn_r _ [1189, 1190, 1191, 103] (by decide +kernel) (by decide +kernel)) (gi tb_X11_brave gd_X11_brave)
set_option maxRecDepth 20000 in
theorem gv_law26_126_X12_brave : GoodIn lw_tbl (wsV RL 126 RX12 yX12_brave v_X12_brave) := goodIn_app (goodIn_r _ [1978, 1979, 1980, 114] (by decide +kernel) (by decide +kernel)) (gi tb_X12_brave gd_X12_brave)
set_option maxHeartbeats 4000000 in
set_option maxRecDepth 100000 in
theorem law_case_26 {p : Program} {e : Env} {s : State} {m : MethodId} {below : List Frame} {meth : Method} {c : Code} (l : Launch) (G : va_G) (cI cJ cZ cD cR cT : ClassId) {b : Nat} {xs : Nat → Int32} (h0 k0 h0_0 h0_1 h0_2 h0_3 h0_6 h0_7 h0_8 h0_10 h0_11 h0_13 h0_0_0 h0_0_1 h0_0_2 h0_0_3 h0_0_4 h0_0_5 h0_0_8 h0_0_15 h0_0_16 h0_0_5_4 h0_0_5_5 k0_2 k0_3 k0_4 k0_5 k0_9 k0_10 k0_11 k0_20 k0_22 k0_23 k0_25 k0_26 k0_29 k0_30 k0_31 k0_32 k0_39 k0_40 k0_42 k0_44 k0_45 : Nat) {H : Heap} {locs : List Loc} {ls : Array Slot} (hx : p.tables.exec = Jvm.exec) (hb : c.code = code) (hr : meth.sig.returnType = ret) (hml : c.maxLocals = 4) (hown : s.vm.findClass RL = some m.cls) (hts : ∀ w ∈ lw_tbl, w.before #[Value.ref b] s = true) (hX : va_X b 6 xs s s.heap) (hbl : b < s.heap.size) (hlocks : meth.locks = false) (hKK : KK G (tys6 cI cJ cZ cD cR cT) s) (hP : va_P G vwCl [(h0, .inr (11, [.ref h0_0, .ref h0_1, .ref h0_2, .ref h0_3, .int 0, .int 0, .ref h0_6, .ref h0_7, .ref h0_8, .int 0, .ref h0_10, .ref h0_11, .int 0, .ref h0_13, .int 0, .int 0])), (h0_0, .inr (0, [.ref h0_0_0, .ref h0_0_1, .ref h0_0_2, .ref h0_0_3, .ref h0_0_4, .ref h0_0_5, .int 0, .int 0, .ref h0_0_8, .int 0, .int 0, .int 0, .int 0, .long 0, .int 0, .ref h0_0_15, .ref h0_0_16])), (h0_0_5, .inr (3, [.int 0, .int 50, .int 0, .int 0, .ref h0_0_5_4, .ref h0_0_5_5])), (k0, .inr (12, [.int 0, .int 0, .ref k0_2, .ref k0_3, .ref k0_4, .ref k0_5, .int 0, .int 0, .int 0, .ref k0_9, .ref k0_10, .ref k0_11, .int 0, .int 0, .int 0, .int 0, .long 0, .int (-1), .int 0, .int 0, .ref k0_20, .int 0, .ref k0_22, .ref k0_23, .int 0, .ref k0_25, .ref k0_26, .int 0, .int 0, .ref k0_29, .ref k0_30, .ref k0_31, .ref k0_32, .int 0, .long 0, .long 0, .long 0, .long 0, .int 0, .ref k0_39, .ref k0_40, .int 0, .ref k0_42, .int 0, .ref k0_44, .ref k0_45, .int 0, .int 0, .int 0, .int 0, .int 0, .int 0])), (k0_2, .inl (cI, 35942, .inl mrow))] H) (hD : va_D (fun q : Nat => s.heap.size ≤ q) [(h0, .inr (11, [.ref h0_0, .ref h0_1, .ref h0_2, .ref h0_3, .int 0, .int 0, .ref h0_6, .ref h0_7, .ref h0_8, .int 0, .ref h0_10, .ref h0_11, .int 0, .ref h0_13, .int 0, .int 0])), (h0_0, .inr (0, [.ref h0_0_0, .ref h0_0_1, .ref h0_0_2, .ref h0_0_3, .ref h0_0_4, .ref h0_0_5, .int 0, .int 0, .ref h0_0_8, .int 0, .int 0, .int 0, .int 0, .long 0, .int 0, .ref h0_0_15, .ref h0_0_16])), (h0_0_5, .inr (3, [.int 0, .int 50, .int 0, .int 0, .ref h0_0_5_4, .ref h0_0_5_5])), (k0, .inr (12, [.int 0, .int 0, .ref k0_2, .ref k0_3, .ref k0_4, .ref k0_5, .int 0, .int 0, .int 0, .ref k0_9, .ref k0_10, .ref k0_11, .int 0, .int 0, .int 0, .int 0, .long 0, .int (-1), .int 0, .int 0, .ref k0_20, .int 0, .ref k0_22, .ref k0_23, .int 0, .ref k0_25, .ref k0_26, .int 0, .int 0, .ref k0_29, .ref k0_30, .ref k0_31, .ref k0_32, .int 0, .long 0, .long 0, .long 0, .long 0, .int 0, .ref k0_39, .ref k0_40, .int 0, .ref k0_42, .int 0, .ref k0_44, .ref k0_45, .int 0, .int 0, .int 0, .int 0, .int 0, .int 0])), (k0_2, .inl (cI, 35942, .inl mrow))]) (hS : va_S (fun q : Nat => s.heap.size ≤ q) s.heap H locs) (hl : lv_has ls 4 [(3, .int 0), (2, .ref k0), (1, .ref h0), (0, .ref b)]) : W p l e room_1 s m #[Value.ref b] below meth c H locs 221 158368 (lw_Z below #[Value.ref b] s) (F0 m 1114 ls []) := by
  have hK := hKK.1
  have hA : ∀ q : Nat, s.heap.size ≤ q → (fun q : Nat => s.heap.size ≤ q) q := fun _ h => h
  have hbA : ¬ (fun q : Nat => s.heap.size ≤ q) b := Nat.not_le.mpr hbl
  refine lv_aload_n hx hb dL_law_1114 rfl (lv_at hl 2 rfl) ?_
  refine lv_aload_n hx hb dL_law_1115 rfl (lv_at hl 3 rfl) ?_
  refine lv_iload_n hx hb dL_law_1116 rfl (lv_at hl 0 rfl) ?_
  refine lv_iconst (v := 1) hx hb dL_law_1117 (by decide) ?_
  refine lv_iadd hx hb dL_law_1118 ?_
  refine lv_topi (fun x1 ex1 => ?_)
  obtain rfl : 1 = x1 := (ex1.trans (by decide)).symm
  refine va_sld hx hb hX hbl hbA hS (vp_in_iff.mpr (by decide)) dL_law_1119 ?_
  refine lv_topi (fun x2 ex2 => ?_)
  obtain rfl : xs 1 = x2 := (ex2.trans rfl).symm
  refine goV (As := [.int (xs 1)]) (rest := []) (wr := [(k0, .inr (12, [.int 0, .int 0, .ref k0_2, .ref k0_3, .ref k0_4, .ref k0_5, .int 0, .int 0, .int 0, .ref k0_9, .ref k0_10, .ref k0_11, .int 0, .int 0, .int 0, .int 0, .long 0, .int (-1), .int 0, .int 0, .ref k0_20, .int 0, .ref k0_22, .ref k0_23, .int 0, .ref k0_25, .ref k0_26, .int 0, .int 0, .ref k0_29, .ref k0_30, .ref k0_31, .ref k0_32, .int 0, .long 0, .long 0, .long 0, .long 0, .int 0, .ref k0_39, .ref k0_40, .int 0, .ref k0_42, .int 0, .ref k0_44, .ref k0_45, .int 0, .int 0, .int 0, .int 0, .int 0, .int 0])), (k0_2, .inl (cI, 35942, .inl mrow))]) ⟨hx, hb, hml, hown, hts⟩ (c_X11_brave l G cI cJ cZ cD cR cT h0 (xs 1) h0_0 h0_1 h0_2 h0_3 h0_6 h0_7 h0_8 h0_10 h0_11 h0_13 h0_0_0 h0_0_1 h0_0_2 h0_0_3 h0_0_4 h0_0_5 h0_0_8 h0_0_15 h0_0_16 h0_0_5_4 h0_0_5_5 _) (cwV 1 hts gv_law26_123_X11_brave rfl rfl rfl (by decide +kernel) ⟨Nat.le_of_ble_eq_true rfl, Nat.le_of_ble_eq_true rfl⟩) 0 rfl rfl rfl hKK hP hD hS hA [0, 1, 2] [3, 4] rfl rfl (by decide +kernel) (by decide +kernel) (by decide +kernel) rfl hl.1 rfl (lv_room (Nat.le_of_ble_eq_true rfl)) dL_law_1120 ⟨Nat.le_of_ble_eq_true rfl, Nat.le_of_ble_eq_true rfl⟩ (fun v4 q3 gq3 H locs hv4 => appW (ws' := [(k0, .inr (12, [.int 0, .int 0, .ref k0_2, .ref k0_3, .ref k0_4, .ref k0_5, .int 0, .int 0, .int 0, .ref k0_9, .ref k0_10, .ref k0_11, .int 0, .int 0, .int 0, .int 0, .long 0, .int (-1), .int 0, .int 0, .ref k0_20, .int 0, .ref k0_22, .ref k0_23, .int 0, .ref k0_25, .ref k0_26, .int 0, .int 0, .ref k0_29, .ref k0_30, .ref k0_31, .ref k0_32, .int 0, .long 0, .long 0, .long 0, .long 0, .int 0, .ref k0_39, .ref k0_40, .int 0, .ref k0_42, .int 0, .ref k0_44, .ref k0_45, .int 0, .int 0, .int 0, .int 0, .int 0, .int 0])), (k0_2, .inl (cI, 35942, .inl mrow))]) rfl (fun hP hD hS => ?_))
  obtain ⟨r5, rfl, hr5⟩ := hv4
  refine lv_aload_n hx hb dL_law_1123 rfl (lv_at hl 1 rfl) ?_
  refine lv_aload_n hx hb dL_law_1124 rfl (lv_at hl 3 rfl) ?_
  refine lv_iload_n hx hb dL_law_1125 rfl (lv_at hl 0 rfl) ?_
  refine lv_iconst (v := 1) hx hb dL_law_1126 (by decide) ?_
  refine lv_iadd hx hb dL_law_1127 ?_
  refine lv_topi (fun x6 ex6 => ?_)
  obtain rfl : 1 = x6 := (ex6.trans (by decide)).symm
  refine va_sld hx hb hX hbl hbA hS (vp_in_iff.mpr (by decide)) dL_law_1128 ?_
  refine lv_topi (fun x7 ex7 => ?_)
  obtain rfl : xs 1 = x7 := (ex7.trans rfl).symm
  refine goV (As := [.int (xs 1)]) (rest := [.int r5]) (wr := []) ⟨hx, hb, hml, hown, hts⟩ (c_X12_brave l G cI cJ cZ cD cR cT k0 (xs 1) k0_2 k0_3 k0_4 k0_5 k0_9 k0_10 k0_11 k0_20 k0_22 k0_23 k0_25 k0_26 k0_29 k0_30 k0_31 k0_32 k0_39 k0_40 k0_42 k0_44 k0_45 _) (cwV 1 hts gv_law26_126_X12_brave rfl rfl rfl (by decide +kernel) ⟨Nat.le_of_ble_eq_true rfl, Nat.le_of_ble_eq_true rfl⟩) 0 rfl rfl rfl hKK hP hD hS hA [0, 1] [] rfl rfl (by decide +kernel) (by decide +kernel) (by decide +kernel) rfl hl.1 rfl (lv_room (Nat.le_of_ble_eq_true rfl)) dL_law_1129 ⟨Nat.le_of_ble_eq_true rfl, Nat.le_of_ble_eq_true rfl⟩ (fun v9 q8 gq8 H locs hv9 => appW (ws' := []) rfl (fun hP hD hS => ?_))
  obtain ⟨r10, rfl, hr10⟩ := hv9
  refine lv_icmp_eq (tgt := 1678) hx hb dL_law_1132 (by decide) (fun _ => ?_) (fun c => absurd (hr5.trans hr10.symm) c)
  refine lv_iinc (v := 6) (lv' := [(3, .int 6), (2, .ref k0), (1, .ref h0), (0, .ref b)]) hx hb dL_law_1678 hl (k := 0) rfl (by decide) (by decide) rfl (fun ls hl => ?_)
  refine lv_goto (tgt := 18) hx hb dL_law_1681 (by decide) ?_
  refine lv_iload_n hx hb dL_law_18 rfl (lv_at hl 0 rfl) ?_
  refine lv_aload_n hx hb dL_law_19 rfl (lv_at hl 3 rfl) ?_
  refine va_slen hx hb hX hbl hbA hS dL_law_20 ?_
  refine lv_topi (fun x11 ex11 => ?_)
  obtain rfl : 6 = x11 := (ex11.trans rfl).symm
  refine lv_bipush (v := 6) hx hb dL_law_21 (by decide) ?_
  refine lv_isub hx hb dL_law_23 ?_
  refine lv_topi (fun x12 ex12 => ?_)
  obtain rfl : 0 = x12 := (ex12.trans (by decide)).symm
  refine lv_icmp_gt (tgt := 1684) hx hb dL_law_24 (by decide) (fun _ => ?_) (fun c => absurd c (by decide))
  refine lv_iconst (v := 1) hx hb dL_law_1684 (by decide) ?_
  refine va_forget (fun q h => hS.2.2 q h) ?_
  refine W.widen (k := 600000) (n := 7302250) (Nat.le_of_ble_eq_true rfl) (Nat.le_of_ble_eq_true rfl) ?_
  exact W.base (lw_ret (Drawn.sameBut.refl s.drawn lw_cs) hx hb hr hlocks dL_law_1685)
set_option maxRecDepth 20000 in
theorem gv_law27_127_X11_keeps : GoodIn lw_tbl (wsV RL 127 RX11 yX11_keeps v_X11_keeps) := goodIn_app (goodIn_r _ [1193, 1194, 1195, 103] (by decide +kernel) (by decide +kernel)) (gi tb_X11_keeps gd_X11_keeps)
set_option maxRecDepth 20000 in
theorem gv_law27_130_X12_keeps : GoodIn lw_tbl (wsV RL 130 RX12 yX12_keeps v_X12_keeps) := goodIn_app (goodIn_r _ [1983, 1984, 1985, 114] (by decide +kernel) (by decide +kernel)) (gi tb_X12_keeps gd_X12_keeps)
set_option maxHeartbeats 4000000 in
set_option maxRecDepth 100000 in
theorem law_case_27 {p : Program} {e : Env} {s : State} {m : MethodId} {below : List Frame} {meth : Method} {c : Code} (l : Launch) (G : va_G) (cI cJ cZ cD cR cT : ClassId) {b : Nat} {xs : Nat → Int32} (h0 k0 h0_0 h0_1 h0_2 h0_3 h0_6 h0_7 h0_8 h0_10 h0_11 h0_13 h0_0_0 h0_0_1 h0_0_2 h0_0_3 h0_0_4 h0_0_5 h0_0_8 h0_0_15 h0_0_16 h0_0_0_1 h0_0_0_2 h0_0_0_3 h0_0_0_4 h0_0_0_5 h0_0_0_6 h0_0_0_7 h0_0_0_8 h0_0_0_9 k0_2 k0_3 k0_4 k0_5 k0_9 k0_10 k0_11 k0_20 k0_22 k0_23 k0_25 k0_26 k0_29 k0_30 k0_31 k0_32 k0_39 k0_40 k0_42 k0_44 k0_45 : Nat) {H : Heap} {locs : List Loc} {ls : Array Slot} (hx : p.tables.exec = Jvm.exec) (hb : c.code = code) (hr : meth.sig.returnType = ret) (hml : c.maxLocals = 4) (hown : s.vm.findClass RL = some m.cls) (hts : ∀ w ∈ lw_tbl, w.before #[Value.ref b] s = true) (hX : va_X b 6 xs s s.heap) (hbl : b < s.heap.size) (hlocks : meth.locks = false) (hKK : KK G (tys6 cI cJ cZ cD cR cT) s) (hP : va_P G vwCl [(h0, .inr (11, [.ref h0_0, .ref h0_1, .ref h0_2, .ref h0_3, .int 0, .int 0, .ref h0_6, .ref h0_7, .ref h0_8, .int 0, .ref h0_10, .ref h0_11, .int 0, .ref h0_13, .int 0, .int 0])), (h0_0, .inr (0, [.ref h0_0_0, .ref h0_0_1, .ref h0_0_2, .ref h0_0_3, .ref h0_0_4, .ref h0_0_5, .int 0, .int 0, .ref h0_0_8, .int 0, .int 0, .int 0, .int 0, .long 0, .int 0, .ref h0_0_15, .ref h0_0_16])), (h0_0_0, .inr (4, [.int 0, .ref h0_0_0_1, .ref h0_0_0_2, .ref h0_0_0_3, .ref h0_0_0_4, .ref h0_0_0_5, .ref h0_0_0_6, .ref h0_0_0_7, .ref h0_0_0_8, .ref h0_0_0_9])), (k0, .inr (12, [.int 0, .int 0, .ref k0_2, .ref k0_3, .ref k0_4, .ref k0_5, .int 0, .int 0, .int 0, .ref k0_9, .ref k0_10, .ref k0_11, .int 0, .int 0, .int 0, .int 0, .long 0, .int (-1), .int 0, .int 0, .ref k0_20, .int 0, .ref k0_22, .ref k0_23, .int 0, .ref k0_25, .ref k0_26, .int 0, .int 0, .ref k0_29, .ref k0_30, .ref k0_31, .ref k0_32, .int 0, .long 0, .long 0, .long 0, .long 0, .int 0, .ref k0_39, .ref k0_40, .int 0, .ref k0_42, .int 0, .ref k0_44, .ref k0_45, .int 0, .int 0, .int 0, .int 0, .int 0, .int 0])), (k0_2, .inl (cI, 35942, .inl mrow))] H) (hD : va_D (fun q : Nat => s.heap.size ≤ q) [(h0, .inr (11, [.ref h0_0, .ref h0_1, .ref h0_2, .ref h0_3, .int 0, .int 0, .ref h0_6, .ref h0_7, .ref h0_8, .int 0, .ref h0_10, .ref h0_11, .int 0, .ref h0_13, .int 0, .int 0])), (h0_0, .inr (0, [.ref h0_0_0, .ref h0_0_1, .ref h0_0_2, .ref h0_0_3, .ref h0_0_4, .ref h0_0_5, .int 0, .int 0, .ref h0_0_8, .int 0, .int 0, .int 0, .int 0, .long 0, .int 0, .ref h0_0_15, .ref h0_0_16])), (h0_0_0, .inr (4, [.int 0, .ref h0_0_0_1, .ref h0_0_0_2, .ref h0_0_0_3, .ref h0_0_0_4, .ref h0_0_0_5, .ref h0_0_0_6, .ref h0_0_0_7, .ref h0_0_0_8, .ref h0_0_0_9])), (k0, .inr (12, [.int 0, .int 0, .ref k0_2, .ref k0_3, .ref k0_4, .ref k0_5, .int 0, .int 0, .int 0, .ref k0_9, .ref k0_10, .ref k0_11, .int 0, .int 0, .int 0, .int 0, .long 0, .int (-1), .int 0, .int 0, .ref k0_20, .int 0, .ref k0_22, .ref k0_23, .int 0, .ref k0_25, .ref k0_26, .int 0, .int 0, .ref k0_29, .ref k0_30, .ref k0_31, .ref k0_32, .int 0, .long 0, .long 0, .long 0, .long 0, .int 0, .ref k0_39, .ref k0_40, .int 0, .ref k0_42, .int 0, .ref k0_44, .ref k0_45, .int 0, .int 0, .int 0, .int 0, .int 0, .int 0])), (k0_2, .inl (cI, 35942, .inl mrow))]) (hS : va_S (fun q : Nat => s.heap.size ≤ q) s.heap H locs) (hl : lv_has ls 4 [(3, .int 0), (2, .ref k0), (1, .ref h0), (0, .ref b)]) : W p l e room_1 s m #[Value.ref b] below meth c H locs 221 158368 (lw_Z below #[Value.ref b] s) (F0 m 1137 ls []) := by
  have hK := hKK.1
  have hA : ∀ q : Nat, s.heap.size ≤ q → (fun q : Nat => s.heap.size ≤ q) q := fun _ h => h
  have hbA : ¬ (fun q : Nat => s.heap.size ≤ q) b := Nat.not_le.mpr hbl
  refine lv_aload_n hx hb dL_law_1137 rfl (lv_at hl 2 rfl) ?_
  refine lv_aload_n hx hb dL_law_1138 rfl (lv_at hl 3 rfl) ?_
  refine lv_iload_n hx hb dL_law_1139 rfl (lv_at hl 0 rfl) ?_
  refine lv_iconst (v := 1) hx hb dL_law_1140 (by decide) ?_
  refine lv_iadd hx hb dL_law_1141 ?_
  refine lv_topi (fun x1 ex1 => ?_)
  obtain rfl : 1 = x1 := (ex1.trans (by decide)).symm
  refine va_sld hx hb hX hbl hbA hS (vp_in_iff.mpr (by decide)) dL_law_1142 ?_
  refine lv_topi (fun x2 ex2 => ?_)
  obtain rfl : xs 1 = x2 := (ex2.trans rfl).symm
  refine lv_aload_n hx hb dL_law_1143 rfl (lv_at hl 3 rfl) ?_
  refine lv_iload_n hx hb dL_law_1144 rfl (lv_at hl 0 rfl) ?_
  refine lv_iconst (v := 2) hx hb dL_law_1145 (by decide) ?_
  refine lv_iadd hx hb dL_law_1146 ?_
  refine lv_topi (fun x3 ex3 => ?_)
  obtain rfl : 2 = x3 := (ex3.trans (by decide)).symm
  refine va_sld hx hb hX hbl hbA hS (vp_in_iff.mpr (by decide)) dL_law_1147 ?_
  refine lv_topi (fun x4 ex4 => ?_)
  obtain rfl : xs 2 = x4 := (ex4.trans rfl).symm
  refine goV (As := [.int (xs 1), .int (xs 2)]) (rest := []) (wr := [(k0, .inr (12, [.int 0, .int 0, .ref k0_2, .ref k0_3, .ref k0_4, .ref k0_5, .int 0, .int 0, .int 0, .ref k0_9, .ref k0_10, .ref k0_11, .int 0, .int 0, .int 0, .int 0, .long 0, .int (-1), .int 0, .int 0, .ref k0_20, .int 0, .ref k0_22, .ref k0_23, .int 0, .ref k0_25, .ref k0_26, .int 0, .int 0, .ref k0_29, .ref k0_30, .ref k0_31, .ref k0_32, .int 0, .long 0, .long 0, .long 0, .long 0, .int 0, .ref k0_39, .ref k0_40, .int 0, .ref k0_42, .int 0, .ref k0_44, .ref k0_45, .int 0, .int 0, .int 0, .int 0, .int 0, .int 0])), (k0_2, .inl (cI, 35942, .inl mrow))]) ⟨hx, hb, hml, hown, hts⟩ (c_X11_keeps l G cI cJ cZ cD cR cT h0 (xs 1) (xs 2) h0_0 h0_1 h0_2 h0_3 h0_6 h0_7 h0_8 h0_10 h0_11 h0_13 h0_0_0 h0_0_1 h0_0_2 h0_0_3 h0_0_4 h0_0_5 h0_0_8 h0_0_15 h0_0_16 h0_0_0_1 h0_0_0_2 h0_0_0_3 h0_0_0_4 h0_0_0_5 h0_0_0_6 h0_0_0_7 h0_0_0_8 h0_0_0_9 _) (cwV 2 hts gv_law27_127_X11_keeps rfl rfl rfl (by decide +kernel) ⟨Nat.le_of_ble_eq_true rfl, Nat.le_of_ble_eq_true rfl⟩) 0 rfl rfl rfl hKK hP hD hS hA [0, 1, 2] [3, 4] rfl rfl (by decide +kernel) (by decide +kernel) (by decide +kernel) rfl hl.1 rfl (lv_room (Nat.le_of_ble_eq_true rfl)) dL_law_1148 ⟨Nat.le_of_ble_eq_true rfl, Nat.le_of_ble_eq_true rfl⟩ (fun v6 q5 gq5 H locs hv6 => appW (ws' := [(k0, .inr (12, [.int 0, .int 0, .ref k0_2, .ref k0_3, .ref k0_4, .ref k0_5, .int 0, .int 0, .int 0, .ref k0_9, .ref k0_10, .ref k0_11, .int 0, .int 0, .int 0, .int 0, .long 0, .int (-1), .int 0, .int 0, .ref k0_20, .int 0, .ref k0_22, .ref k0_23, .int 0, .ref k0_25, .ref k0_26, .int 0, .int 0, .ref k0_29, .ref k0_30, .ref k0_31, .ref k0_32, .int 0, .long 0, .long 0, .long 0, .long 0, .int 0, .ref k0_39, .ref k0_40, .int 0, .ref k0_42, .int 0, .ref k0_44, .ref k0_45, .int 0, .int 0, .int 0, .int 0, .int 0, .int 0])), (k0_2, .inl (cI, 35942, .inl mrow))]) rfl (fun hP hD hS => ?_))
  obtain ⟨r7, rfl, hr7⟩ := hv6
  refine lv_aload_n hx hb dL_law_1151 rfl (lv_at hl 1 rfl) ?_
  refine lv_aload_n hx hb dL_law_1152 rfl (lv_at hl 3 rfl) ?_
  refine lv_iload_n hx hb dL_law_1153 rfl (lv_at hl 0 rfl) ?_
  refine lv_iconst (v := 1) hx hb dL_law_1154 (by decide) ?_
  refine lv_iadd hx hb dL_law_1155 ?_
  refine lv_topi (fun x8 ex8 => ?_)
  obtain rfl : 1 = x8 := (ex8.trans (by decide)).symm
  refine va_sld hx hb hX hbl hbA hS (vp_in_iff.mpr (by decide)) dL_law_1156 ?_
  refine lv_topi (fun x9 ex9 => ?_)
  obtain rfl : xs 1 = x9 := (ex9.trans rfl).symm
  refine lv_aload_n hx hb dL_law_1157 rfl (lv_at hl 3 rfl) ?_
  refine lv_iload_n hx hb dL_law_1158 rfl (lv_at hl 0 rfl) ?_
  refine lv_iconst (v := 2) hx hb dL_law_1159 (by decide) ?_
  refine lv_iadd hx hb dL_law_1160 ?_
  refine lv_topi (fun x10 ex10 => ?_)
  obtain rfl : 2 = x10 := (ex10.trans (by decide)).symm
  refine va_sld hx hb hX hbl hbA hS (vp_in_iff.mpr (by decide)) dL_law_1161 ?_
  refine lv_topi (fun x11 ex11 => ?_)
  obtain rfl : xs 2 = x11 := (ex11.trans rfl).symm
  refine goV (As := [.int (xs 1), .int (xs 2)]) (rest := [.int r7]) (wr := []) ⟨hx, hb, hml, hown, hts⟩ (c_X12_keeps l G cI cJ cZ cD cR cT k0 (xs 1) (xs 2) k0_2 k0_3 k0_4 k0_5 k0_9 k0_10 k0_11 k0_20 k0_22 k0_23 k0_25 k0_26 k0_29 k0_30 k0_31 k0_32 k0_39 k0_40 k0_42 k0_44 k0_45 _) (cwV 2 hts gv_law27_130_X12_keeps rfl rfl rfl (by decide +kernel) ⟨Nat.le_of_ble_eq_true rfl, Nat.le_of_ble_eq_true rfl⟩) 0 rfl rfl rfl hKK hP hD hS hA [0, 1] [] rfl rfl (by decide +kernel) (by decide +kernel) (by decide +kernel) rfl hl.1 rfl (lv_room (Nat.le_of_ble_eq_true rfl)) dL_law_1162 ⟨Nat.le_of_ble_eq_true rfl, Nat.le_of_ble_eq_true rfl⟩ (fun v13 q12 gq12 H locs hv13 => appW (ws' := []) rfl (fun hP hD hS => ?_))
  obtain ⟨r14, rfl, hr14⟩ := hv13
  refine lv_icmp_eq (tgt := 1678) hx hb dL_law_1165 (by decide) (fun _ => ?_) (fun c => absurd (hr7.trans hr14.symm) c)
  refine lv_iinc (v := 6) (lv' := [(3, .int 6), (2, .ref k0), (1, .ref h0), (0, .ref b)]) hx hb dL_law_1678 hl (k := 0) rfl (by decide) (by decide) rfl (fun ls hl => ?_)
  refine lv_goto (tgt := 18) hx hb dL_law_1681 (by decide) ?_
  refine lv_iload_n hx hb dL_law_18 rfl (lv_at hl 0 rfl) ?_
  refine lv_aload_n hx hb dL_law_19 rfl (lv_at hl 3 rfl) ?_
  refine va_slen hx hb hX hbl hbA hS dL_law_20 ?_
  refine lv_topi (fun x15 ex15 => ?_)
  obtain rfl : 6 = x15 := (ex15.trans rfl).symm
  refine lv_bipush (v := 6) hx hb dL_law_21 (by decide) ?_
  refine lv_isub hx hb dL_law_23 ?_
  refine lv_topi (fun x16 ex16 => ?_)
  obtain rfl : 0 = x16 := (ex16.trans (by decide)).symm
  refine lv_icmp_gt (tgt := 1684) hx hb dL_law_24 (by decide) (fun _ => ?_) (fun c => absurd c (by decide))
  refine lv_iconst (v := 1) hx hb dL_law_1684 (by decide) ?_
  refine va_forget (fun q h => hS.2.2 q h) ?_
  refine W.widen (k := 600000) (n := 7302250) (Nat.le_of_ble_eq_true rfl) (Nat.le_of_ble_eq_true rfl) ?_
  exact W.base (lw_ret (Drawn.sameBut.refl s.drawn lw_cs) hx hb hr hlocks dL_law_1685)
set_option maxRecDepth 20000 in
theorem gv_law28_131_X11_broke : GoodIn lw_tbl (wsV RL 131 RX11 yX11_broke v_X11_broke) := goodIn_app (goodIn_r _ [1197, 1198, 1199, 103] (by decide +kernel) (by decide +kernel)) (gi tb_X11_broke gd_X11_broke)
set_option maxRecDepth 20000 in
theorem gv_law28_134_X12_broke : GoodIn lw_tbl (wsV RL 134 RX12 yX12_broke v_X12_broke) := goodIn_app (goodIn_r _ [1987, 1988, 1989, 114] (by decide +kernel) (by decide +kernel)) (gi tb_X12_broke gd_X12_broke)
set_option maxHeartbeats 4000000 in
set_option maxRecDepth 100000 in
theorem law_case_28 {p : Program} {e : Env} {s : State} {m : MethodId} {below : List Frame} {meth : Method} {c : Code} (l : Launch) (G : va_G) (cI cJ cZ cD cR cT : ClassId) {b : Nat} {xs : Nat → Int32} (h0 k0 h0_0 h0_1 h0_2 h0_3 h0_6 h0_7 h0_8 h0_10 h0_11 h0_13 h0_0_0 h0_0_1 h0_0_2 h0_0_3 h0_0_4 h0_0_5 h0_0_8 h0_0_15 h0_0_16 h0_0_0_1 h0_0_0_2 h0_0_0_3 h0_0_0_4 h0_0_0_5 h0_0_0_6 h0_0_0_7 h0_0_0_8 h0_0_0_9 k0_2 k0_3 k0_4 k0_5 k0_9 k0_10 k0_11 k0_20 k0_22 k0_23 k0_25 k0_26 k0_29 k0_30 k0_31 k0_32 k0_39 k0_40 k0_42 k0_44 k0_45 : Nat) {H : Heap} {locs : List Loc} {ls : Array Slot} (hx : p.tables.exec = Jvm.exec) (hb : c.code = code) (hr : meth.sig.returnType = ret) (hml : c.maxLocals = 4) (hown : s.vm.findClass RL = some m.cls) (hts : ∀ w ∈ lw_tbl, w.before #[Value.ref b] s = true) (hX : va_X b 6 xs s s.heap) (hbl : b < s.heap.size) (hlocks : meth.locks = false) (hKK : KK G (tys6 cI cJ cZ cD cR cT) s) (hP : va_P G vwCl [(h0, .inr (11, [.ref h0_0, .ref h0_1, .ref h0_2, .ref h0_3, .int 0, .int 0, .ref h0_6, .ref h0_7, .ref h0_8, .int 0, .ref h0_10, .ref h0_11, .int 0, .ref h0_13, .int 0, .int 0])), (h0_0, .inr (0, [.ref h0_0_0, .ref h0_0_1, .ref h0_0_2, .ref h0_0_3, .ref h0_0_4, .ref h0_0_5, .int 0, .int 0, .ref h0_0_8, .int 0, .int 0, .int 0, .int 0, .long 0, .int 0, .ref h0_0_15, .ref h0_0_16])), (h0_0_0, .inr (4, [.int 0, .ref h0_0_0_1, .ref h0_0_0_2, .ref h0_0_0_3, .ref h0_0_0_4, .ref h0_0_0_5, .ref h0_0_0_6, .ref h0_0_0_7, .ref h0_0_0_8, .ref h0_0_0_9])), (k0, .inr (12, [.int 0, .int 0, .ref k0_2, .ref k0_3, .ref k0_4, .ref k0_5, .int 0, .int 0, .int 0, .ref k0_9, .ref k0_10, .ref k0_11, .int 0, .int 0, .int 0, .int 0, .long 0, .int (-1), .int 0, .int 0, .ref k0_20, .int 0, .ref k0_22, .ref k0_23, .int 0, .ref k0_25, .ref k0_26, .int 0, .int 0, .ref k0_29, .ref k0_30, .ref k0_31, .ref k0_32, .int 0, .long 0, .long 0, .long 0, .long 0, .int 0, .ref k0_39, .ref k0_40, .int 0, .ref k0_42, .int 0, .ref k0_44, .ref k0_45, .int 0, .int 0, .int 0, .int 0, .int 0, .int 0])), (k0_2, .inl (cI, 35942, .inl mrow))] H) (hD : va_D (fun q : Nat => s.heap.size ≤ q) [(h0, .inr (11, [.ref h0_0, .ref h0_1, .ref h0_2, .ref h0_3, .int 0, .int 0, .ref h0_6, .ref h0_7, .ref h0_8, .int 0, .ref h0_10, .ref h0_11, .int 0, .ref h0_13, .int 0, .int 0])), (h0_0, .inr (0, [.ref h0_0_0, .ref h0_0_1, .ref h0_0_2, .ref h0_0_3, .ref h0_0_4, .ref h0_0_5, .int 0, .int 0, .ref h0_0_8, .int 0, .int 0, .int 0, .int 0, .long 0, .int 0, .ref h0_0_15, .ref h0_0_16])), (h0_0_0, .inr (4, [.int 0, .ref h0_0_0_1, .ref h0_0_0_2, .ref h0_0_0_3, .ref h0_0_0_4, .ref h0_0_0_5, .ref h0_0_0_6, .ref h0_0_0_7, .ref h0_0_0_8, .ref h0_0_0_9])), (k0, .inr (12, [.int 0, .int 0, .ref k0_2, .ref k0_3, .ref k0_4, .ref k0_5, .int 0, .int 0, .int 0, .ref k0_9, .ref k0_10, .ref k0_11, .int 0, .int 0, .int 0, .int 0, .long 0, .int (-1), .int 0, .int 0, .ref k0_20, .int 0, .ref k0_22, .ref k0_23, .int 0, .ref k0_25, .ref k0_26, .int 0, .int 0, .ref k0_29, .ref k0_30, .ref k0_31, .ref k0_32, .int 0, .long 0, .long 0, .long 0, .long 0, .int 0, .ref k0_39, .ref k0_40, .int 0, .ref k0_42, .int 0, .ref k0_44, .ref k0_45, .int 0, .int 0, .int 0, .int 0, .int 0, .int 0])), (k0_2, .inl (cI, 35942, .inl mrow))]) (hS : va_S (fun q : Nat => s.heap.size ≤ q) s.heap H locs) (hl : lv_has ls 4 [(3, .int 0), (2, .ref k0), (1, .ref h0), (0, .ref b)]) : W p l e room_1 s m #[Value.ref b] below meth c H locs 221 158368 (lw_Z below #[Value.ref b] s) (F0 m 1170 ls []) := by
  have hK := hKK.1
  have hA : ∀ q : Nat, s.heap.size ≤ q → (fun q : Nat => s.heap.size ≤ q) q := fun _ h => h
  have hbA : ¬ (fun q : Nat => s.heap.size ≤ q) b := Nat.not_le.mpr hbl
  refine lv_aload_n hx hb dL_law_1170 rfl (lv_at hl 2 rfl) ?_
  refine lv_aload_n hx hb dL_law_1171 rfl (lv_at hl 3 rfl) ?_
  refine lv_iload_n hx hb dL_law_1172 rfl (lv_at hl 0 rfl) ?_
  refine lv_iconst (v := 1) hx hb dL_law_1173 (by decide) ?_
  refine lv_iadd hx hb dL_law_1174 ?_
  refine lv_topi (fun x1 ex1 => ?_)
  obtain rfl : 1 = x1 := (ex1.trans (by decide)).symm
  refine va_sld hx hb hX hbl hbA hS (vp_in_iff.mpr (by decide)) dL_law_1175 ?_
  refine lv_topi (fun x2 ex2 => ?_)
  obtain rfl : xs 1 = x2 := (ex2.trans rfl).symm
  refine lv_aload_n hx hb dL_law_1176 rfl (lv_at hl 3 rfl) ?_
  refine lv_iload_n hx hb dL_law_1177 rfl (lv_at hl 0 rfl) ?_
  refine lv_iconst (v := 2) hx hb dL_law_1178 (by decide) ?_
  refine lv_iadd hx hb dL_law_1179 ?_
  refine lv_topi (fun x3 ex3 => ?_)
  obtain rfl : 2 = x3 := (ex3.trans (by decide)).symm
  refine va_sld hx hb hX hbl hbA hS (vp_in_iff.mpr (by decide)) dL_law_1180 ?_
  refine lv_topi (fun x4 ex4 => ?_)
  obtain rfl : xs 2 = x4 := (ex4.trans rfl).symm
  refine lv_aload_n hx hb dL_law_1181 rfl (lv_at hl 3 rfl) ?_
  refine lv_iload_n hx hb dL_law_1182 rfl (lv_at hl 0 rfl) ?_
  refine lv_iconst (v := 3) hx hb dL_law_1183 (by decide) ?_
  refine lv_iadd hx hb dL_law_1184 ?_
  refine lv_topi (fun x5 ex5 => ?_)
  obtain rfl : 3 = x5 := (ex5.trans (by decide)).symm
  refine va_sld hx hb hX hbl hbA hS (vp_in_iff.mpr (by decide)) dL_law_1185 ?_
  refine lv_topi (fun x6 ex6 => ?_)
  obtain rfl : xs 3 = x6 := (ex6.trans rfl).symm
  refine lv_aload_n hx hb dL_law_1186 rfl (lv_at hl 3 rfl) ?_
  refine lv_iload_n hx hb dL_law_1187 rfl (lv_at hl 0 rfl) ?_
  refine lv_iconst (v := 4) hx hb dL_law_1188 (by decide) ?_
  refine lv_iadd hx hb dL_law_1189 ?_
  refine lv_topi (fun x7 ex7 => ?_)
  obtain rfl : 4 = x7 := (ex7.trans (by decide)).symm
  refine va_sld hx hb hX hbl hbA hS (vp_in_iff.mpr (by decide)) dL_law_1190 ?_
  refine lv_topi (fun x8 ex8 => ?_)
  obtain rfl : xs 4 = x8 := (ex8.trans rfl).symm
  refine goV (As := [.int (xs 1), .int (xs 2), .int (xs 3), .int (xs 4)]) (rest := []) (wr := [(k0, .inr (12, [.int 0, .int 0, .ref k0_2, .ref k0_3, .ref k0_4, .ref k0_5, .int 0, .int 0, .int 0, .ref k0_9, .ref k0_10, .ref k0_11, .int 0, .int 0, .int 0, .int 0, .long 0, .int (-1), .int 0, .int 0, .ref k0_20, .int 0, .ref k0_22, .ref k0_23, .int 0, .ref k0_25, .ref k0_26, .int 0, .int 0, .ref k0_29, .ref k0_30, .ref k0_31, .ref k0_32, .int 0, .long 0, .long 0, .long 0, .long 0, .int 0, .ref k0_39, .ref k0_40, .int 0, .ref k0_42, .int 0, .ref k0_44, .ref k0_45, .int 0, .int 0, .int 0, .int 0, .int 0, .int 0])), (k0_2, .inl (cI, 35942, .inl mrow))]) ⟨hx, hb, hml, hown, hts⟩ (c_X11_broke l G cI cJ cZ cD cR cT h0 (xs 1) (xs 2) (xs 3) (xs 4) h0_0 h0_1 h0_2 h0_3 h0_6 h0_7 h0_8 h0_10 h0_11 h0_13 h0_0_0 h0_0_1 h0_0_2 h0_0_3 h0_0_4 h0_0_5 h0_0_8 h0_0_15 h0_0_16 h0_0_0_1 h0_0_0_2 h0_0_0_3 h0_0_0_4 h0_0_0_5 h0_0_0_6 h0_0_0_7 h0_0_0_8 h0_0_0_9 _) (cwV 4 hts gv_law28_131_X11_broke rfl rfl rfl (by decide +kernel) ⟨Nat.le_of_ble_eq_true rfl, Nat.le_of_ble_eq_true rfl⟩) 0 rfl rfl rfl hKK hP hD hS hA [0, 1, 2] [3, 4] rfl rfl (by decide +kernel) (by decide +kernel) (by decide +kernel) rfl hl.1 rfl (lv_room (Nat.le_of_ble_eq_true rfl)) dL_law_1191 ⟨Nat.le_of_ble_eq_true rfl, Nat.le_of_ble_eq_true rfl⟩ (fun v10 q9 gq9 H locs hv10 => appW (ws' := [(k0, .inr (12, [.int 0, .int 0, .ref k0_2, .ref k0_3, .ref k0_4, .ref k0_5, .int 0, .int 0, .int 0, .ref k0_9, .ref k0_10, .ref k0_11, .int 0, .int 0, .int 0, .int 0, .long 0, .int (-1), .int 0, .int 0, .ref k0_20, .int 0, .ref k0_22, .ref k0_23, .int 0, .ref k0_25, .ref k0_26, .int 0, .int 0, .ref k0_29, .ref k0_30, .ref k0_31, .ref k0_32, .int 0, .long 0, .long 0, .long 0, .long 0, .int 0, .ref k0_39, .ref k0_40, .int 0, .ref k0_42, .int 0, .ref k0_44, .ref k0_45, .int 0, .int 0, .int 0, .int 0, .int 0, .int 0])), (k0_2, .inl (cI, 35942, .inl mrow))]) rfl (fun hP hD hS => ?_))
  obtain ⟨r11, rfl, hr11⟩ := hv10
  refine lv_aload_n hx hb dL_law_1194 rfl (lv_at hl 1 rfl) ?_
  refine lv_aload_n hx hb dL_law_1195 rfl (lv_at hl 3 rfl) ?_
  refine lv_iload_n hx hb dL_law_1196 rfl (lv_at hl 0 rfl) ?_
  refine lv_iconst (v := 1) hx hb dL_law_1197 (by decide) ?_
  refine lv_iadd hx hb dL_law_1198 ?_
  refine lv_topi (fun x12 ex12 => ?_)
  obtain rfl : 1 = x12 := (ex12.trans (by decide)).symm
  refine va_sld hx hb hX hbl hbA hS (vp_in_iff.mpr (by decide)) dL_law_1199 ?_
  refine lv_topi (fun x13 ex13 => ?_)
  obtain rfl : xs 1 = x13 := (ex13.trans rfl).symm
  refine lv_aload_n hx hb dL_law_1200 rfl (lv_at hl 3 rfl) ?_
  refine lv_iload_n hx hb dL_law_1201 rfl (lv_at hl 0 rfl) ?_
  refine lv_iconst (v := 2) hx hb dL_law_1202 (by decide) ?_
  refine lv_iadd hx hb dL_law_1203 ?_
  refine lv_topi (fun x14 ex14 => ?_)
  obtain rfl : 2 = x14 := (ex14.trans (by decide)).symm
  refine va_sld hx hb hX hbl hbA hS (vp_in_iff.mpr (by decide)) dL_law_1204 ?_
  refine lv_topi (fun x15 ex15 => ?_)
  obtain rfl : xs 2 = x15 := (ex15.trans rfl).symm
  refine lv_aload_n hx hb dL_law_1205 rfl (lv_at hl 3 rfl) ?_
  refine lv_iload_n hx hb dL_law_1206 rfl (lv_at hl 0 rfl) ?_
  refine lv_iconst (v := 3) hx hb dL_law_1207 (by decide) ?_
  refine lv_iadd hx hb dL_law_1208 ?_
  refine lv_topi (fun x16 ex16 => ?_)
  obtain rfl : 3 = x16 := (ex16.trans (by decide)).symm
  refine va_sld hx hb hX hbl hbA hS (vp_in_iff.mpr (by decide)) dL_law_1209 ?_
  refine lv_topi (fun x17 ex17 => ?_)
  obtain rfl : xs 3 = x17 := (ex17.trans rfl).symm
  refine lv_aload_n hx hb dL_law_1210 rfl (lv_at hl 3 rfl) ?_
  refine lv_iload_n hx hb dL_law_1211 rfl (lv_at hl 0 rfl) ?_
  refine lv_iconst (v := 4) hx hb dL_law_1212 (by decide) ?_
  refine lv_iadd hx hb dL_law_1213 ?_
  refine lv_topi (fun x18 ex18 => ?_)
  obtain rfl : 4 = x18 := (ex18.trans (by decide)).symm
  refine va_sld hx hb hX hbl hbA hS (vp_in_iff.mpr (by decide)) dL_law_1214 ?_
  refine lv_topi (fun x19 ex19 => ?_)
  obtain rfl : xs 4 = x19 := (ex19.trans rfl).symm
  refine goV (As := [.int (xs 1), .int (xs 2), .int (xs 3), .int (xs 4)]) (rest := [.int r11]) (wr := []) ⟨hx, hb, hml, hown, hts⟩ (c_X12_broke l G cI cJ cZ cD cR cT k0 (xs 1) (xs 2) (xs 3) (xs 4) k0_2 k0_3 k0_4 k0_5 k0_9 k0_10 k0_11 k0_20 k0_22 k0_23 k0_25 k0_26 k0_29 k0_30 k0_31 k0_32 k0_39 k0_40 k0_42 k0_44 k0_45 _) (cwV 4 hts gv_law28_134_X12_broke rfl rfl rfl (by decide +kernel) ⟨Nat.le_of_ble_eq_true rfl, Nat.le_of_ble_eq_true rfl⟩) 0 rfl rfl rfl hKK hP hD hS hA [0, 1] [] rfl rfl (by decide +kernel) (by decide +kernel) (by decide +kernel) rfl hl.1 rfl (lv_room (Nat.le_of_ble_eq_true rfl)) dL_law_1215 ⟨Nat.le_of_ble_eq_true rfl, Nat.le_of_ble_eq_true rfl⟩ (fun v21 q20 gq20 H locs hv21 => appW (ws' := []) rfl (fun hP hD hS => ?_))
  obtain ⟨r22, rfl, hr22⟩ := hv21
  refine lv_icmp_eq (tgt := 1678) hx hb dL_law_1218 (by decide) (fun _ => ?_) (fun c => absurd (hr11.trans hr22.symm) c)
  refine lv_iinc (v := 6) (lv' := [(3, .int 6), (2, .ref k0), (1, .ref h0), (0, .ref b)]) hx hb dL_law_1678 hl (k := 0) rfl (by decide) (by decide) rfl (fun ls hl => ?_)
  refine lv_goto (tgt := 18) hx hb dL_law_1681 (by decide) ?_
  refine lv_iload_n hx hb dL_law_18 rfl (lv_at hl 0 rfl) ?_
  refine lv_aload_n hx hb dL_law_19 rfl (lv_at hl 3 rfl) ?_
  refine va_slen hx hb hX hbl hbA hS dL_law_20 ?_
  refine lv_topi (fun x23 ex23 => ?_)
  obtain rfl : 6 = x23 := (ex23.trans rfl).symm
  refine lv_bipush (v := 6) hx hb dL_law_21 (by decide) ?_
  refine lv_isub hx hb dL_law_23 ?_
  refine lv_topi (fun x24 ex24 => ?_)
  obtain rfl : 0 = x24 := (ex24.trans (by decide)).symm
  refine lv_icmp_gt (tgt := 1684) hx hb dL_law_24 (by decide) (fun _ => ?_) (fun c => absurd c (by decide))
  refine lv_iconst (v := 1) hx hb dL_law_1684 (by decide) ?_
  refine va_forget (fun q h => hS.2.2 q h) ?_
  refine W.widen (k := 600000) (n := 7302250) (Nat.le_of_ble_eq_true rfl) (Nat.le_of_ble_eq_true rfl) ?_
  exact W.base (lw_ret (Drawn.sameBut.refl s.drawn lw_cs) hx hb hr hlocks dL_law_1685)
set_option maxRecDepth 20000 in
theorem gv_law29_135_X11_last : GoodIn lw_tbl (wsV RL 135 RX11 yX11_last v_X11_last) := goodIn_app (goodIn_r _ [1207, 1208, 1209, 103] (by decide +kernel) (by decide +kernel)) (gi tb_X11_last gd_X11_last)
set_option maxRecDepth 20000 in
theorem gv_law29_138_X12_last : GoodIn lw_tbl (wsV RL 138 RX12 yX12_last v_X12_last) := goodIn_app (goodIn_r _ [1992, 1993, 1994, 114] (by decide +kernel) (by decide +kernel)) (gi tb_X12_last gd_X12_last)
set_option maxHeartbeats 4000000 in
set_option maxRecDepth 100000 in
theorem law_case_29 {p : Program} {e : Env} {s : State} {m : MethodId} {below : List Frame} {meth : Method} {c : Code} (l : Launch) (G : va_G) (cI cJ cZ cD cR cT : ClassId) {b : Nat} {xs : Nat → Int32} (h0 k0 h0_0 h0_1 h0_2 h0_3 h0_6 h0_7 h0_8 h0_10 h0_11 h0_13 h0_0_0 h0_0_1 h0_0_2 h0_0_3 h0_0_4 h0_0_5 h0_0_8 h0_0_15 h0_0_16 h0_0_5_4 h0_0_5_5 k0_2 k0_3 k0_4 k0_5 k0_9 k0_10 k0_11 k0_20 k0_22 k0_23 k0_25 k0_26 k0_29 k0_30 k0_31 k0_32 k0_39 k0_40 k0_42 k0_44 k0_45 : Nat) {H : Heap} {locs : List Loc} {ls : Array Slot} (hx : p.tables.exec = Jvm.exec) (hb : c.code = code) (hr : meth.sig.returnType = ret) (hml : c.maxLocals = 4) (hown : s.vm.findClass RL = some m.cls) (hts : ∀ w ∈ lw_tbl, w.before #[Value.ref b] s = true) (hX : va_X b 6 xs s s.heap) (hbl : b < s.heap.size) (hlocks : meth.locks = false) (hKK : KK G (tys6 cI cJ cZ cD cR cT) s) (hP : va_P G vwCl [(h0, .inr (11, [.ref h0_0, .ref h0_1, .ref h0_2, .ref h0_3, .int 0, .int 0, .ref h0_6, .ref h0_7, .ref h0_8, .int 0, .ref h0_10, .ref h0_11, .int 0, .ref h0_13, .int 0, .int 0])), (h0_0, .inr (0, [.ref h0_0_0, .ref h0_0_1, .ref h0_0_2, .ref h0_0_3, .ref h0_0_4, .ref h0_0_5, .int 0, .int 0, .ref h0_0_8, .int 0, .int 0, .int 0, .int 0, .long 0, .int 0, .ref h0_0_15, .ref h0_0_16])), (h0_0_5, .inr (3, [.int 0, .int 50, .int 0, .int 0, .ref h0_0_5_4, .ref h0_0_5_5])), (k0, .inr (12, [.int 0, .int 0, .ref k0_2, .ref k0_3, .ref k0_4, .ref k0_5, .int 0, .int 0, .int 0, .ref k0_9, .ref k0_10, .ref k0_11, .int 0, .int 0, .int 0, .int 0, .long 0, .int (-1), .int 0, .int 0, .ref k0_20, .int 0, .ref k0_22, .ref k0_23, .int 0, .ref k0_25, .ref k0_26, .int 0, .int 0, .ref k0_29, .ref k0_30, .ref k0_31, .ref k0_32, .int 0, .long 0, .long 0, .long 0, .long 0, .int 0, .ref k0_39, .ref k0_40, .int 0, .ref k0_42, .int 0, .ref k0_44, .ref k0_45, .int 0, .int 0, .int 0, .int 0, .int 0, .int 0])), (k0_2, .inl (cI, 35942, .inl mrow))] H) (hD : va_D (fun q : Nat => s.heap.size ≤ q) [(h0, .inr (11, [.ref h0_0, .ref h0_1, .ref h0_2, .ref h0_3, .int 0, .int 0, .ref h0_6, .ref h0_7, .ref h0_8, .int 0, .ref h0_10, .ref h0_11, .int 0, .ref h0_13, .int 0, .int 0])), (h0_0, .inr (0, [.ref h0_0_0, .ref h0_0_1, .ref h0_0_2, .ref h0_0_3, .ref h0_0_4, .ref h0_0_5, .int 0, .int 0, .ref h0_0_8, .int 0, .int 0, .int 0, .int 0, .long 0, .int 0, .ref h0_0_15, .ref h0_0_16])), (h0_0_5, .inr (3, [.int 0, .int 50, .int 0, .int 0, .ref h0_0_5_4, .ref h0_0_5_5])), (k0, .inr (12, [.int 0, .int 0, .ref k0_2, .ref k0_3, .ref k0_4, .ref k0_5, .int 0, .int 0, .int 0, .ref k0_9, .ref k0_10, .ref k0_11, .int 0, .int 0, .int 0, .int 0, .long 0, .int (-1), .int 0, .int 0, .ref k0_20, .int 0, .ref k0_22, .ref k0_23, .int 0, .ref k0_25, .ref k0_26, .int 0, .int 0, .ref k0_29, .ref k0_30, .ref k0_31, .ref k0_32, .int 0, .long 0, .long 0, .long 0, .long 0, .int 0, .ref k0_39, .ref k0_40, .int 0, .ref k0_42, .int 0, .ref k0_44, .ref k0_45, .int 0, .int 0, .int 0, .int 0, .int 0, .int 0])), (k0_2, .inl (cI, 35942, .inl mrow))]) (hS : va_S (fun q : Nat => s.heap.size ≤ q) s.heap H locs) (hl : lv_has ls 4 [(3, .int 0), (2, .ref k0), (1, .ref h0), (0, .ref b)]) : W p l e room_1 s m #[Value.ref b] below meth c H locs 221 158368 (lw_Z below #[Value.ref b] s) (F0 m 1223 ls []) := by
  have hK := hKK.1
  have hA : ∀ q : Nat, s.heap.size ≤ q → (fun q : Nat => s.heap.size ≤ q) q := fun _ h => h
  have hbA : ¬ (fun q : Nat => s.heap.size ≤ q) b := Nat.not_le.mpr hbl
  refine lv_aload_n hx hb dL_law_1223 rfl (lv_at hl 2 rfl) ?_
  refine lv_aload_n hx hb dL_law_1224 rfl (lv_at hl 3 rfl) ?_
  refine lv_iload_n hx hb dL_law_1225 rfl (lv_at hl 0 rfl) ?_
  refine lv_iconst (v := 1) hx hb dL_law_1226 (by decide) ?_
  refine lv_iadd hx hb dL_law_1227 ?_
  refine lv_topi (fun x1 ex1 => ?_)
  obtain rfl : 1 = x1 := (ex1.trans (by decide)).symm
  refine va_sld hx hb hX hbl hbA hS (vp_in_iff.mpr (by decide)) dL_law_1228 ?_
  refine lv_topi (fun x2 ex2 => ?_)
  obtain rfl : xs 1 = x2 := (ex2.trans rfl).symm
  refine lv_aload_n hx hb dL_law_1229 rfl (lv_at hl 3 rfl) ?_
  refine lv_iload_n hx hb dL_law_1230 rfl (lv_at hl 0 rfl) ?_
  refine lv_iconst (v := 2) hx hb dL_law_1231 (by decide) ?_
  refine lv_iadd hx hb dL_law_1232 ?_
  refine lv_topi (fun x3 ex3 => ?_)
  obtain rfl : 2 = x3 := (ex3.trans (by decide)).symm
  refine va_sld hx hb hX hbl hbA hS (vp_in_iff.mpr (by decide)) dL_law_1233 ?_
  refine lv_topi (fun x4 ex4 => ?_)
  obtain rfl : xs 2 = x4 := (ex4.trans rfl).symm
  refine lv_aload_n hx hb dL_law_1234 rfl (lv_at hl 3 rfl) ?_
  refine lv_iload_n hx hb dL_law_1235 rfl (lv_at hl 0 rfl) ?_
  refine lv_iconst (v := 3) hx hb dL_law_1236 (by decide) ?_
  refine lv_iadd hx hb dL_law_1237 ?_
  refine lv_topi (fun x5 ex5 => ?_)
  obtain rfl : 3 = x5 := (ex5.trans (by decide)).symm
  refine va_sld hx hb hX hbl hbA hS (vp_in_iff.mpr (by decide)) dL_law_1238 ?_
  refine lv_topi (fun x6 ex6 => ?_)
  obtain rfl : xs 3 = x6 := (ex6.trans rfl).symm
  refine goV (As := [.int (xs 1), .int (xs 2), .int (xs 3)]) (rest := []) (wr := [(k0, .inr (12, [.int 0, .int 0, .ref k0_2, .ref k0_3, .ref k0_4, .ref k0_5, .int 0, .int 0, .int 0, .ref k0_9, .ref k0_10, .ref k0_11, .int 0, .int 0, .int 0, .int 0, .long 0, .int (-1), .int 0, .int 0, .ref k0_20, .int 0, .ref k0_22, .ref k0_23, .int 0, .ref k0_25, .ref k0_26, .int 0, .int 0, .ref k0_29, .ref k0_30, .ref k0_31, .ref k0_32, .int 0, .long 0, .long 0, .long 0, .long 0, .int 0, .ref k0_39, .ref k0_40, .int 0, .ref k0_42, .int 0, .ref k0_44, .ref k0_45, .int 0, .int 0, .int 0, .int 0, .int 0, .int 0])), (k0_2, .inl (cI, 35942, .inl mrow))]) ⟨hx, hb, hml, hown, hts⟩ (c_X11_last l G cI cJ cZ cD cR cT h0 (xs 1) (xs 2) (xs 3) h0_0 h0_1 h0_2 h0_3 h0_6 h0_7 h0_8 h0_10 h0_11 h0_13 h0_0_0 h0_0_1 h0_0_2 h0_0_3 h0_0_4 h0_0_5 h0_0_8 h0_0_15 h0_0_16 h0_0_5_4 h0_0_5_5 _) (cwV 3 hts gv_law29_135_X11_last rfl rfl rfl (by decide +kernel) ⟨Nat.le_of_ble_eq_true rfl, Nat.le_of_ble_eq_true rfl⟩) 0 rfl rfl rfl hKK hP hD hS hA [0, 1, 2] [3, 4] rfl rfl (by decide +kernel) (by decide +kernel) (by decide +kernel) rfl hl.1 rfl (lv_room (Nat.le_of_ble_eq_true rfl)) dL_law_1239 ⟨Nat.le_of_ble_eq_true rfl, Nat.le_of_ble_eq_true rfl⟩ (fun v8 q7 gq7 H locs hv8 => appW (ws' := [(k0, .inr (12, [.int 0, .int 0, .ref k0_2, .ref k0_3, .ref k0_4, .ref k0_5, .int 0, .int 0, .int 0, .ref k0_9, .ref k0_10, .ref k0_11, .int 0, .int 0, .int 0, .int 0, .long 0, .int (-1), .int 0, .int 0, .ref k0_20, .int 0, .ref k0_22, .ref k0_23, .int 0, .ref k0_25, .ref k0_26, .int 0, .int 0, .ref k0_29, .ref k0_30, .ref k0_31, .ref k0_32, .int 0, .long 0, .long 0, .long 0, .long 0, .int 0, .ref k0_39, .ref k0_40, .int 0, .ref k0_42, .int 0, .ref k0_44, .ref k0_45, .int 0, .int 0, .int 0, .int 0, .int 0, .int 0])), (k0_2, .inl (cI, 35942, .inl mrow))]) rfl (fun hP hD hS => ?_))
  obtain ⟨r9, rfl, hr9⟩ := hv8
  refine lv_aload_n hx hb dL_law_1242 rfl (lv_at hl 1 rfl) ?_
  refine lv_aload_n hx hb dL_law_1243 rfl (lv_at hl 3 rfl) ?_
  refine lv_iload_n hx hb dL_law_1244 rfl (lv_at hl 0 rfl) ?_
  refine lv_iconst (v := 1) hx hb dL_law_1245 (by decide) ?_
  refine lv_iadd hx hb dL_law_1246 ?_
  refine lv_topi (fun x10 ex10 => ?_)
  obtain rfl : 1 = x10 := (ex10.trans (by decide)).symm
  refine va_sld hx hb hX hbl hbA hS (vp_in_iff.mpr (by decide)) dL_law_1247 ?_
  refine lv_topi (fun x11 ex11 => ?_)
  obtain rfl : xs 1 = x11 := (ex11.trans rfl).symm
  refine lv_aload_n hx hb dL_law_1248 rfl (lv_at hl 3 rfl) ?_
  refine lv_iload_n hx hb dL_law_1249 rfl (lv_at hl 0 rfl) ?_
  refine lv_iconst (v := 2) hx hb dL_law_1250 (by decide) ?_
  refine lv_iadd hx hb dL_law_1251 ?_
  refine lv_topi (fun x12 ex12 => ?_)
  obtain rfl : 2 = x12 := (ex12.trans (by decide)).symm
  refine va_sld hx hb hX hbl hbA hS (vp_in_iff.mpr (by decide)) dL_law_1252 ?_
  refine lv_topi (fun x13 ex13 => ?_)
  obtain rfl : xs 2 = x13 := (ex13.trans rfl).symm
  refine lv_aload_n hx hb dL_law_1253 rfl (lv_at hl 3 rfl) ?_
  refine lv_iload_n hx hb dL_law_1254 rfl (lv_at hl 0 rfl) ?_
  refine lv_iconst (v := 3) hx hb dL_law_1255 (by decide) ?_
  refine lv_iadd hx hb dL_law_1256 ?_
  refine lv_topi (fun x14 ex14 => ?_)
  obtain rfl : 3 = x14 := (ex14.trans (by decide)).symm
  refine va_sld hx hb hX hbl hbA hS (vp_in_iff.mpr (by decide)) dL_law_1257 ?_
  refine lv_topi (fun x15 ex15 => ?_)
  obtain rfl : xs 3 = x15 := (ex15.trans rfl).symm
  refine goV (As := [.int (xs 1), .int (xs 2), .int (xs 3)]) (rest := [.int r9]) (wr := []) ⟨hx, hb, hml, hown, hts⟩ (c_X12_last l G cI cJ cZ cD cR cT k0 (xs 1) (xs 2) (xs 3) k0_2 k0_3 k0_4 k0_5 k0_9 k0_10 k0_11 k0_20 k0_22 k0_23 k0_25 k0_26 k0_29 k0_30 k0_31 k0_32 k0_39 k0_40 k0_42 k0_44 k0_45 _) (cwV 3 hts gv_law29_138_X12_last rfl rfl rfl (by decide +kernel) ⟨Nat.le_of_ble_eq_true rfl, Nat.le_of_ble_eq_true rfl⟩) 0 rfl rfl rfl hKK hP hD hS hA [0, 1] [] rfl rfl (by decide +kernel) (by decide +kernel) (by decide +kernel) rfl hl.1 rfl (lv_room (Nat.le_of_ble_eq_true rfl)) dL_law_1258 ⟨Nat.le_of_ble_eq_true rfl, Nat.le_of_ble_eq_true rfl⟩ (fun v17 q16 gq16 H locs hv17 => appW (ws' := []) rfl (fun hP hD hS => ?_))
  obtain ⟨r18, rfl, hr18⟩ := hv17
  refine lv_icmp_eq (tgt := 1678) hx hb dL_law_1261 (by decide) (fun _ => ?_) (fun c => absurd (hr9.trans hr18.symm) c)
  refine lv_iinc (v := 6) (lv' := [(3, .int 6), (2, .ref k0), (1, .ref h0), (0, .ref b)]) hx hb dL_law_1678 hl (k := 0) rfl (by decide) (by decide) rfl (fun ls hl => ?_)
  refine lv_goto (tgt := 18) hx hb dL_law_1681 (by decide) ?_
  refine lv_iload_n hx hb dL_law_18 rfl (lv_at hl 0 rfl) ?_
  refine lv_aload_n hx hb dL_law_19 rfl (lv_at hl 3 rfl) ?_
  refine va_slen hx hb hX hbl hbA hS dL_law_20 ?_
  refine lv_topi (fun x19 ex19 => ?_)
  obtain rfl : 6 = x19 := (ex19.trans rfl).symm
  refine lv_bipush (v := 6) hx hb dL_law_21 (by decide) ?_
  refine lv_isub hx hb dL_law_23 ?_
  refine lv_topi (fun x20 ex20 => ?_)
  obtain rfl : 0 = x20 := (ex20.trans (by decide)).symm
  refine lv_icmp_gt (tgt := 1684) hx hb dL_law_24 (by decide) (fun _ => ?_) (fun c => absurd c (by decide))
  refine lv_iconst (v := 1) hx hb dL_law_1684 (by decide) ?_
  refine va_forget (fun q h => hS.2.2 q h) ?_
  refine W.widen (k := 600000) (n := 7302250) (Nat.le_of_ble_eq_true rfl) (Nat.le_of_ble_eq_true rfl) ?_
  exact W.base (lw_ret (Drawn.sameBut.refl s.drawn lw_cs) hx hb hr hlocks dL_law_1685)
set_option maxRecDepth 20000 in
theorem gv_law30_139_X11_least : GoodIn lw_tbl (wsV RL 139 RX11 yX11_least v_X11_least) := goodIn_app (goodIn_r _ [1211, 1212, 1213, 103] (by decide +kernel) (by decide +kernel)) (gi tb_X11_least gd_X11_least)
set_option maxRecDepth 20000 in
theorem gv_law30_142_X12_least : GoodIn lw_tbl (wsV RL 142 RX12 yX12_least v_X12_least) := goodIn_app (goodIn_r _ [1996, 1997, 1998, 114] (by decide +kernel) (by decide +kernel)) (gi tb_X12_least gd_X12_least)
set_option maxHeartbeats 4000000 in
set_option maxRecDepth 100000 in
theorem law_case_30 {p : Program} {e : Env} {s : State} {m : MethodId} {below : List Frame} {meth : Method} {c : Code} (l : Launch) (G : va_G) (cI cJ cZ cD cR cT : ClassId) {b : Nat} {xs : Nat → Int32} (h0 k0 h0_0 h0_1 h0_2 h0_3 h0_6 h0_7 h0_8 h0_10 h0_11 h0_13 h0_0_0 h0_0_1 h0_0_2 h0_0_3 h0_0_4 h0_0_5 h0_0_8 h0_0_15 h0_0_16 h0_0_1_1 h0_0_1_2 h0_0_1_3 h0_0_1_4 h0_0_1_5 h0_0_1_6 h0_0_1_7 h0_0_1_9 h0_0_1_10 h0_0_1_11 k0_2 k0_3 k0_4 k0_5 k0_9 k0_10 k0_11 k0_20 k0_22 k0_23 k0_25 k0_26 k0_29 k0_30 k0_31 k0_32 k0_39 k0_40 k0_42 k0_44 k0_45 : Nat) {H : Heap} {locs : List Loc} {ls : Array Slot} (hx : p.tables.exec = Jvm.exec) (hb : c.code = code) (hr : meth.sig.returnType = ret) (hml : c.maxLocals = 4) (hown : s.vm.findClass RL = some m.cls) (hts : ∀ w ∈ lw_tbl, w.before #[Value.ref b] s = true) (hX : va_X b 6 xs s s.heap) (hbl : b < s.heap.size) (hlocks : meth.locks = false) (hKK : KK G (tys6 cI cJ cZ cD cR cT) s) (hP : va_P G vwCl [(h0, .inr (11, [.ref h0_0, .ref h0_1, .ref h0_2, .ref h0_3, .int 0, .int 0, .ref h0_6, .ref h0_7, .ref h0_8, .int 0, .ref h0_10, .ref h0_11, .int 0, .ref h0_13, .int 0, .int 0])), (h0_0, .inr (0, [.ref h0_0_0, .ref h0_0_1, .ref h0_0_2, .ref h0_0_3, .ref h0_0_4, .ref h0_0_5, .int 0, .int 0, .ref h0_0_8, .int 0, .int 0, .int 0, .int 0, .long 0, .int 0, .ref h0_0_15, .ref h0_0_16])), (h0_0_1, .inr (1, [.int 0, .ref h0_0_1_1, .ref h0_0_1_2, .ref h0_0_1_3, .ref h0_0_1_4, .ref h0_0_1_5, .ref h0_0_1_6, .ref h0_0_1_7, .int 0, .ref h0_0_1_9, .ref h0_0_1_10, .ref h0_0_1_11, .int (-1), .long 0, .long 0])), (k0, .inr (12, [.int 0, .int 0, .ref k0_2, .ref k0_3, .ref k0_4, .ref k0_5, .int 0, .int 0, .int 0, .ref k0_9, .ref k0_10, .ref k0_11, .int 0, .int 0, .int 0, .int 0, .long 0, .int (-1), .int 0, .int 0, .ref k0_20, .int 0, .ref k0_22, .ref k0_23, .int 0, .ref k0_25, .ref k0_26, .int 0, .int 0, .ref k0_29, .ref k0_30, .ref k0_31, .ref k0_32, .int 0, .long 0, .long 0, .long 0, .long 0, .int 0, .ref k0_39, .ref k0_40, .int 0, .ref k0_42, .int 0, .ref k0_44, .ref k0_45, .int 0, .int 0, .int 0, .int 0, .int 0, .int 0])), (k0_2, .inl (cI, 35942, .inl mrow))] H) (hD : va_D (fun q : Nat => s.heap.size ≤ q) [(h0, .inr (11, [.ref h0_0, .ref h0_1, .ref h0_2, .ref h0_3, .int 0, .int 0, .ref h0_6, .ref h0_7, .ref h0_8, .int 0, .ref h0_10, .ref h0_11, .int 0, .ref h0_13, .int 0, .int 0])), (h0_0, .inr (0, [.ref h0_0_0, .ref h0_0_1, .ref h0_0_2, .ref h0_0_3, .ref h0_0_4, .ref h0_0_5, .int 0, .int 0, .ref h0_0_8, .int 0, .int 0, .int 0, .int 0, .long 0, .int 0, .ref h0_0_15, .ref h0_0_16])), (h0_0_1, .inr (1, [.int 0, .ref h0_0_1_1, .ref h0_0_1_2, .ref h0_0_1_3, .ref h0_0_1_4, .ref h0_0_1_5, .ref h0_0_1_6, .ref h0_0_1_7, .int 0, .ref h0_0_1_9, .ref h0_0_1_10, .ref h0_0_1_11, .int (-1), .long 0, .long 0])), (k0, .inr (12, [.int 0, .int 0, .ref k0_2, .ref k0_3, .ref k0_4, .ref k0_5, .int 0, .int 0, .int 0, .ref k0_9, .ref k0_10, .ref k0_11, .int 0, .int 0, .int 0, .int 0, .long 0, .int (-1), .int 0, .int 0, .ref k0_20, .int 0, .ref k0_22, .ref k0_23, .int 0, .ref k0_25, .ref k0_26, .int 0, .int 0, .ref k0_29, .ref k0_30, .ref k0_31, .ref k0_32, .int 0, .long 0, .long 0, .long 0, .long 0, .int 0, .ref k0_39, .ref k0_40, .int 0, .ref k0_42, .int 0, .ref k0_44, .ref k0_45, .int 0, .int 0, .int 0, .int 0, .int 0, .int 0])), (k0_2, .inl (cI, 35942, .inl mrow))]) (hS : va_S (fun q : Nat => s.heap.size ≤ q) s.heap H locs) (hl : lv_has ls 4 [(3, .int 0), (2, .ref k0), (1, .ref h0), (0, .ref b)]) : W p l e room_1 s m #[Value.ref b] below meth c H locs 221 158368 (lw_Z below #[Value.ref b] s) (F0 m 1266 ls []) := by
  have hK := hKK.1
  have hA : ∀ q : Nat, s.heap.size ≤ q → (fun q : Nat => s.heap.size ≤ q) q := fun _ h => h
  have hbA : ¬ (fun q : Nat => s.heap.size ≤ q) b := Nat.not_le.mpr hbl
  refine lv_aload_n hx hb dL_law_1266 rfl (lv_at hl 2 rfl) ?_
  refine lv_aload_n hx hb dL_law_1267 rfl (lv_at hl 3 rfl) ?_
  refine lv_iload_n hx hb dL_law_1268 rfl (lv_at hl 0 rfl) ?_
  refine lv_iconst (v := 1) hx hb dL_law_1269 (by decide) ?_
  refine lv_iadd hx hb dL_law_1270 ?_
  refine lv_topi (fun x1 ex1 => ?_)
  obtain rfl : 1 = x1 := (ex1.trans (by decide)).symm
  refine va_sld hx hb hX hbl hbA hS (vp_in_iff.mpr (by decide)) dL_law_1271 ?_
  refine lv_topi (fun x2 ex2 => ?_)
  obtain rfl : xs 1 = x2 := (ex2.trans rfl).symm
  refine lv_aload_n hx hb dL_law_1272 rfl (lv_at hl 3 rfl) ?_
  refine lv_iload_n hx hb dL_law_1273 rfl (lv_at hl 0 rfl) ?_
  refine lv_iconst (v := 2) hx hb dL_law_1274 (by decide) ?_
  refine lv_iadd hx hb dL_law_1275 ?_
  refine lv_topi (fun x3 ex3 => ?_)
  obtain rfl : 2 = x3 := (ex3.trans (by decide)).symm
  refine va_sld hx hb hX hbl hbA hS (vp_in_iff.mpr (by decide)) dL_law_1276 ?_
  refine lv_topi (fun x4 ex4 => ?_)
  obtain rfl : xs 2 = x4 := (ex4.trans rfl).symm
  refine goV (As := [.int (xs 1), .int (xs 2)]) (rest := []) (wr := [(k0, .inr (12, [.int 0, .int 0, .ref k0_2, .ref k0_3, .ref k0_4, .ref k0_5, .int 0, .int 0, .int 0, .ref k0_9, .ref k0_10, .ref k0_11, .int 0, .int 0, .int 0, .int 0, .long 0, .int (-1), .int 0, .int 0, .ref k0_20, .int 0, .ref k0_22, .ref k0_23, .int 0, .ref k0_25, .ref k0_26, .int 0, .int 0, .ref k0_29, .ref k0_30, .ref k0_31, .ref k0_32, .int 0, .long 0, .long 0, .long 0, .long 0, .int 0, .ref k0_39, .ref k0_40, .int 0, .ref k0_42, .int 0, .ref k0_44, .ref k0_45, .int 0, .int 0, .int 0, .int 0, .int 0, .int 0])), (k0_2, .inl (cI, 35942, .inl mrow))]) ⟨hx, hb, hml, hown, hts⟩ (c_X11_least l G cI cJ cZ cD cR cT h0 (xs 1) (xs 2) h0_0 h0_1 h0_2 h0_3 h0_6 h0_7 h0_8 h0_10 h0_11 h0_13 h0_0_0 h0_0_1 h0_0_2 h0_0_3 h0_0_4 h0_0_5 h0_0_8 h0_0_15 h0_0_16 h0_0_1_1 h0_0_1_2 h0_0_1_3 h0_0_1_4 h0_0_1_5 h0_0_1_6 h0_0_1_7 h0_0_1_9 h0_0_1_10 h0_0_1_11 _) (cwV 2 hts gv_law30_139_X11_least rfl rfl rfl (by decide +kernel) ⟨Nat.le_of_ble_eq_true rfl, Nat.le_of_ble_eq_true rfl⟩) 0 rfl rfl rfl hKK hP hD hS hA [0, 1, 2] [3, 4] rfl rfl (by decide +kernel) (by decide +kernel) (by decide +kernel) rfl hl.1 rfl (lv_room (Nat.le_of_ble_eq_true rfl)) dL_law_1277 ⟨Nat.le_of_ble_eq_true rfl, Nat.le_of_ble_eq_true rfl⟩ (fun v6 q5 gq5 H locs hv6 => appW (ws' := [(k0, .inr (12, [.int 0, .int 0, .ref k0_2, .ref k0_3, .ref k0_4, .ref k0_5, .int 0, .int 0, .int 0, .ref k0_9, .ref k0_10, .ref k0_11, .int 0, .int 0, .int 0, .int 0, .long 0, .int (-1), .int 0, .int 0, .ref k0_20, .int 0, .ref k0_22, .ref k0_23, .int 0, .ref k0_25, .ref k0_26, .int 0, .int 0, .ref k0_29, .ref k0_30, .ref k0_31, .ref k0_32, .int 0, .long 0, .long 0, .long 0, .long 0, .int 0, .ref k0_39, .ref k0_40, .int 0, .ref k0_42, .int 0, .ref k0_44, .ref k0_45, .int 0, .int 0, .int 0, .int 0, .int 0, .int 0])), (k0_2, .inl (cI, 35942, .inl mrow))]) rfl (fun hP hD hS => ?_))
  obtain ⟨r7, rfl, hr7⟩ := hv6
  refine lv_aload_n hx hb dL_law_1280 rfl (lv_at hl 1 rfl) ?_
  refine lv_aload_n hx hb dL_law_1281 rfl (lv_at hl 3 rfl) ?_
  refine lv_iload_n hx hb dL_law_1282 rfl (lv_at hl 0 rfl) ?_
  refine lv_iconst (v := 1) hx hb dL_law_1283 (by decide) ?_
  refine lv_iadd hx hb dL_law_1284 ?_
  refine lv_topi (fun x8 ex8 => ?_)
  obtain rfl : 1 = x8 := (ex8.trans (by decide)).symm
  refine va_sld hx hb hX hbl hbA hS (vp_in_iff.mpr (by decide)) dL_law_1285 ?_
  refine lv_topi (fun x9 ex9 => ?_)
  obtain rfl : xs 1 = x9 := (ex9.trans rfl).symm
  refine lv_aload_n hx hb dL_law_1286 rfl (lv_at hl 3 rfl) ?_
  refine lv_iload_n hx hb dL_law_1287 rfl (lv_at hl 0 rfl) ?_
  refine lv_iconst (v := 2) hx hb dL_law_1288 (by decide) ?_
  refine lv_iadd hx hb dL_law_1289 ?_
  refine lv_topi (fun x10 ex10 => ?_)
  obtain rfl : 2 = x10 := (ex10.trans (by decide)).symm
  refine va_sld hx hb hX hbl hbA hS (vp_in_iff.mpr (by decide)) dL_law_1290 ?_
  refine lv_topi (fun x11 ex11 => ?_)
  obtain rfl : xs 2 = x11 := (ex11.trans rfl).symm
  refine goV (As := [.int (xs 1), .int (xs 2)]) (rest := [.int r7]) (wr := []) ⟨hx, hb, hml, hown, hts⟩ (c_X12_least l G cI cJ cZ cD cR cT k0 (xs 1) (xs 2) k0_2 k0_3 k0_4 k0_5 k0_9 k0_10 k0_11 k0_20 k0_22 k0_23 k0_25 k0_26 k0_29 k0_30 k0_31 k0_32 k0_39 k0_40 k0_42 k0_44 k0_45 _) (cwV 2 hts gv_law30_142_X12_least rfl rfl rfl (by decide +kernel) ⟨Nat.le_of_ble_eq_true rfl, Nat.le_of_ble_eq_true rfl⟩) 0 rfl rfl rfl hKK hP hD hS hA [0, 1] [] rfl rfl (by decide +kernel) (by decide +kernel) (by decide +kernel) rfl hl.1 rfl (lv_room (Nat.le_of_ble_eq_true rfl)) dL_law_1291 ⟨Nat.le_of_ble_eq_true rfl, Nat.le_of_ble_eq_true rfl⟩ (fun v13 q12 gq12 H locs hv13 => appW (ws' := []) rfl (fun hP hD hS => ?_))
  obtain ⟨r14, rfl, hr14⟩ := hv13
  refine lv_icmp_eq (tgt := 1678) hx hb dL_law_1294 (by decide) (fun _ => ?_) (fun c => absurd (hr7.trans hr14.symm) c)
  refine lv_iinc (v := 6) (lv' := [(3, .int 6), (2, .ref k0), (1, .ref h0), (0, .ref b)]) hx hb dL_law_1678 hl (k := 0) rfl (by decide) (by decide) rfl (fun ls hl => ?_)
  refine lv_goto (tgt := 18) hx hb dL_law_1681 (by decide) ?_
  refine lv_iload_n hx hb dL_law_18 rfl (lv_at hl 0 rfl) ?_
  refine lv_aload_n hx hb dL_law_19 rfl (lv_at hl 3 rfl) ?_
  refine va_slen hx hb hX hbl hbA hS dL_law_20 ?_
  refine lv_topi (fun x15 ex15 => ?_)
  obtain rfl : 6 = x15 := (ex15.trans rfl).symm
  refine lv_bipush (v := 6) hx hb dL_law_21 (by decide) ?_
  refine lv_isub hx hb dL_law_23 ?_
  refine lv_topi (fun x16 ex16 => ?_)
  obtain rfl : 0 = x16 := (ex16.trans (by decide)).symm
  refine lv_icmp_gt (tgt := 1684) hx hb dL_law_24 (by decide) (fun _ => ?_) (fun c => absurd c (by decide))
  refine lv_iconst (v := 1) hx hb dL_law_1684 (by decide) ?_
  refine va_forget (fun q h => hS.2.2 q h) ?_
  refine W.widen (k := 600000) (n := 7302250) (Nat.le_of_ble_eq_true rfl) (Nat.le_of_ble_eq_true rfl) ?_
  exact W.base (lw_ret (Drawn.sameBut.refl s.drawn lw_cs) hx hb hr hlocks dL_law_1685)
set_option maxRecDepth 20000 in
theorem gv_law31_143_X11_offer : GoodIn lw_tbl (wsV RL 143 RX11 yX11_offer v_X11_offer) := goodIn_app (goodIn_r _ [1226, 1227, 1228, 103] (by decide +kernel) (by decide +kernel)) (gi tb_X11_offer gd_X11_offer)
set_option maxRecDepth 20000 in
theorem gv_law31_146_X12_offer : GoodIn lw_tbl (wsV RL 146 RX12 yX12_offer v_X12_offer) := goodIn_app (goodIn_r _ [2005, 2006, 2007, 114] (by decide +kernel) (by decide +kernel)) (gi tb_X12_offer gd_X12_offer)
set_option maxHeartbeats 4000000 in
set_option maxRecDepth 100000 in
theorem law_case_31 {p : Program} {e : Env} {s : State} {m : MethodId} {below : List Frame} {meth : Method} {c : Code} (l : Launch) (G : va_G) (cI cJ cZ cD cR cT : ClassId) {b : Nat} {xs : Nat → Int32} (h0 k0 h0_0 h0_1 h0_2 h0_3 h0_6 h0_7 h0_8 h0_10 h0_11 h0_13 h0_0_0 h0_0_1 h0_0_2 h0_0_3 h0_0_4 h0_0_5 h0_0_8 h0_0_15 h0_0_16 h0_0_5_4 h0_0_5_5 k0_2 k0_3 k0_4 k0_5 k0_9 k0_10 k0_11 k0_20 k0_22 k0_23 k0_25 k0_26 k0_29 k0_30 k0_31 k0_32 k0_39 k0_40 k0_42 k0_44 k0_45 : Nat) {H : Heap} {locs : List Loc} {ls : Array Slot} (hx : p.tables.exec = Jvm.exec) (hb : c.code = code) (hr : meth.sig.returnType = ret) (hml : c.maxLocals = 4) (hown : s.vm.findClass RL = some m.cls) (hts : ∀ w ∈ lw_tbl, w.before #[Value.ref b] s = true) (hX : va_X b 6 xs s s.heap) (hbl : b < s.heap.size) (hlocks : meth.locks = false) (hKK : KK G (tys6 cI cJ cZ cD cR cT) s) (hP : va_P G vwCl [(h0, .inr (11, [.ref h0_0, .ref h0_1, .ref h0_2, .ref h0_3, .int 0, .int 0, .ref h0_6, .ref h0_7, .ref h0_8, .int 0, .ref h0_10, .ref h0_11, .int 0, .ref h0_13, .int 0, .int 0])), (h0_0, .inr (0, [.ref h0_0_0, .ref h0_0_1, .ref h0_0_2, .ref h0_0_3, .ref h0_0_4, .ref h0_0_5, .int 0, .int 0, .ref h0_0_8, .int 0, .int 0, .int 0, .int 0, .long 0, .int 0, .ref h0_0_15, .ref h0_0_16])), (h0_0_5, .inr (3, [.int 0, .int 50, .int 0, .int 0, .ref h0_0_5_4, .ref h0_0_5_5])), (h0_0_5_4, .inl (cI, 9, .inl (fun _ => 0))), (h0_0_5_5, .inl (cI, 9, .inl (fun _ => 0))), (k0, .inr (12, [.int 0, .int 0, .ref k0_2, .ref k0_3, .ref k0_4, .ref k0_5, .int 0, .int 0, .int 0, .ref k0_9, .ref k0_10, .ref k0_11, .int 0, .int 0, .int 0, .int 0, .long 0, .int (-1), .int 0, .int 0, .ref k0_20, .int 0, .ref k0_22, .ref k0_23, .int 0, .ref k0_25, .ref k0_26, .int 0, .int 0, .ref k0_29, .ref k0_30, .ref k0_31, .ref k0_32, .int 0, .long 0, .long 0, .long 0, .long 0, .int 0, .ref k0_39, .ref k0_40, .int 0, .ref k0_42, .int 0, .ref k0_44, .ref k0_45, .int 0, .int 0, .int 0, .int 0, .int 0, .int 0])), (k0_2, .inl (cI, 35942, .inl mrow))] H) (hD : va_D (fun q : Nat => s.heap.size ≤ q) [(h0, .inr (11, [.ref h0_0, .ref h0_1, .ref h0_2, .ref h0_3, .int 0, .int 0, .ref h0_6, .ref h0_7, .ref h0_8, .int 0, .ref h0_10, .ref h0_11, .int 0, .ref h0_13, .int 0, .int 0])), (h0_0, .inr (0, [.ref h0_0_0, .ref h0_0_1, .ref h0_0_2, .ref h0_0_3, .ref h0_0_4, .ref h0_0_5, .int 0, .int 0, .ref h0_0_8, .int 0, .int 0, .int 0, .int 0, .long 0, .int 0, .ref h0_0_15, .ref h0_0_16])), (h0_0_5, .inr (3, [.int 0, .int 50, .int 0, .int 0, .ref h0_0_5_4, .ref h0_0_5_5])), (h0_0_5_4, .inl (cI, 9, .inl (fun _ => 0))), (h0_0_5_5, .inl (cI, 9, .inl (fun _ => 0))), (k0, .inr (12, [.int 0, .int 0, .ref k0_2, .ref k0_3, .ref k0_4, .ref k0_5, .int 0, .int 0, .int 0, .ref k0_9, .ref k0_10, .ref k0_11, .int 0, .int 0, .int 0, .int 0, .long 0, .int (-1), .int 0, .int 0, .ref k0_20, .int 0, .ref k0_22, .ref k0_23, .int 0, .ref k0_25, .ref k0_26, .int 0, .int 0, .ref k0_29, .ref k0_30, .ref k0_31, .ref k0_32, .int 0, .long 0, .long 0, .long 0, .long 0, .int 0, .ref k0_39, .ref k0_40, .int 0, .ref k0_42, .int 0, .ref k0_44, .ref k0_45, .int 0, .int 0, .int 0, .int 0, .int 0, .int 0])), (k0_2, .inl (cI, 35942, .inl mrow))]) (hS : va_S (fun q : Nat => s.heap.size ≤ q) s.heap H locs) (hl : lv_has ls 4 [(3, .int 0), (2, .ref k0), (1, .ref h0), (0, .ref b)]) : W p l e room_1 s m #[Value.ref b] below meth c H locs 221 158368 (lw_Z below #[Value.ref b] s) (F0 m 1299 ls []) := by
  have hK := hKK.1
  have hA : ∀ q : Nat, s.heap.size ≤ q → (fun q : Nat => s.heap.size ≤ q) q := fun _ h => h
  have hbA : ¬ (fun q : Nat => s.heap.size ≤ q) b := Nat.not_le.mpr hbl
  refine lv_aload_n hx hb dL_law_1299 rfl (lv_at hl 2 rfl) ?_
  refine lv_aload_n hx hb dL_law_1300 rfl (lv_at hl 3 rfl) ?_
  refine lv_iload_n hx hb dL_law_1301 rfl (lv_at hl 0 rfl) ?_
  refine lv_iconst (v := 1) hx hb dL_law_1302 (by decide) ?_
  refine lv_iadd hx hb dL_law_1303 ?_
  refine lv_topi (fun x1 ex1 => ?_)
  obtain rfl : 1 = x1 := (ex1.trans (by decide)).symm
  refine va_sld hx hb hX hbl hbA hS (vp_in_iff.mpr (by decide)) dL_law_1304 ?_
  refine lv_topi (fun x2 ex2 => ?_)
  obtain rfl : xs 1 = x2 := (ex2.trans rfl).symm
  refine lv_aload_n hx hb dL_law_1305 rfl (lv_at hl 3 rfl) ?_
  refine lv_iload_n hx hb dL_law_1306 rfl (lv_at hl 0 rfl) ?_
  refine lv_iconst (v := 2) hx hb dL_law_1307 (by decide) ?_
  refine lv_iadd hx hb dL_law_1308 ?_
  refine lv_topi (fun x3 ex3 => ?_)
  obtain rfl : 2 = x3 := (ex3.trans (by decide)).symm
  refine va_sld hx hb hX hbl hbA hS (vp_in_iff.mpr (by decide)) dL_law_1309 ?_
  refine lv_topi (fun x4 ex4 => ?_)
  obtain rfl : xs 2 = x4 := (ex4.trans rfl).symm
  refine goV (As := [.int (xs 1), .int (xs 2)]) (rest := []) (wr := [(k0, .inr (12, [.int 0, .int 0, .ref k0_2, .ref k0_3, .ref k0_4, .ref k0_5, .int 0, .int 0, .int 0, .ref k0_9, .ref k0_10, .ref k0_11, .int 0, .int 0, .int 0, .int 0, .long 0, .int (-1), .int 0, .int 0, .ref k0_20, .int 0, .ref k0_22, .ref k0_23, .int 0, .ref k0_25, .ref k0_26, .int 0, .int 0, .ref k0_29, .ref k0_30, .ref k0_31, .ref k0_32, .int 0, .long 0, .long 0, .long 0, .long 0, .int 0, .ref k0_39, .ref k0_40, .int 0, .ref k0_42, .int 0, .ref k0_44, .ref k0_45, .int 0, .int 0, .int 0, .int 0, .int 0, .int 0])), (k0_2, .inl (cI, 35942, .inl mrow))]) ⟨hx, hb, hml, hown, hts⟩ (c_X11_offer l G cI cJ cZ cD cR cT h0 (xs 1) (xs 2) h0_0 h0_1 h0_2 h0_3 h0_6 h0_7 h0_8 h0_10 h0_11 h0_13 h0_0_0 h0_0_1 h0_0_2 h0_0_3 h0_0_4 h0_0_5 h0_0_8 h0_0_15 h0_0_16 h0_0_5_4 h0_0_5_5 _) (cwV 2 hts gv_law31_143_X11_offer rfl rfl rfl (by decide +kernel) ⟨Nat.le_of_ble_eq_true rfl, Nat.le_of_ble_eq_true rfl⟩) 0 rfl rfl rfl hKK hP hD hS hA [0, 1, 2, 3, 4] [5, 6] rfl rfl (by decide +kernel) (by decide +kernel) (by decide +kernel) rfl hl.1 rfl (lv_room (Nat.le_of_ble_eq_true rfl)) dL_law_1310 ⟨Nat.le_of_ble_eq_true rfl, Nat.le_of_ble_eq_true rfl⟩ (fun v6 q5 gq5 H locs hv6 => appW (ws' := [(k0, .inr (12, [.int 0, .int 0, .ref k0_2, .ref k0_3, .ref k0_4, .ref k0_5, .int 0, .int 0, .int 0, .ref k0_9, .ref k0_10, .ref k0_11, .int 0, .int 0, .int 0, .int 0, .long 0, .int (-1), .int 0, .int 0, .ref k0_20, .int 0, .ref k0_22, .ref k0_23, .int 0, .ref k0_25, .ref k0_26, .int 0, .int 0, .ref k0_29, .ref k0_30, .ref k0_31, .ref k0_32, .int 0, .long 0, .long 0, .long 0, .long 0, .int 0, .ref k0_39, .ref k0_40, .int 0, .ref k0_42, .int 0, .ref k0_44, .ref k0_45, .int 0, .int 0, .int 0, .int 0, .int 0, .int 0])), (k0_2, .inl (cI, 35942, .inl mrow))]) rfl (fun hP hD hS => ?_))
  obtain ⟨r7, rfl, hr7⟩ := hv6
  refine lv_aload_n hx hb dL_law_1313 rfl (lv_at hl 1 rfl) ?_
  refine lv_aload_n hx hb dL_law_1314 rfl (lv_at hl 3 rfl) ?_
  refine lv_iload_n hx hb dL_law_1315 rfl (lv_at hl 0 rfl) ?_
  refine lv_iconst (v := 1) hx hb dL_law_1316 (by decide) ?_
  refine lv_iadd hx hb dL_law_1317 ?_
  refine lv_topi (fun x8 ex8 => ?_)
  obtain rfl : 1 = x8 := (ex8.trans (by decide)).symm
  refine va_sld hx hb hX hbl hbA hS (vp_in_iff.mpr (by decide)) dL_law_1318 ?_
  refine lv_topi (fun x9 ex9 => ?_)
  obtain rfl : xs 1 = x9 := (ex9.trans rfl).symm
  refine lv_aload_n hx hb dL_law_1319 rfl (lv_at hl 3 rfl) ?_
  refine lv_iload_n hx hb dL_law_1320 rfl (lv_at hl 0 rfl) ?_
  refine lv_iconst (v := 2) hx hb dL_law_1321 (by decide) ?_
  refine lv_iadd hx hb dL_law_1322 ?_
  refine lv_topi (fun x10 ex10 => ?_)
  obtain rfl : 2 = x10 := (ex10.trans (by decide)).symm
  refine va_sld hx hb hX hbl hbA hS (vp_in_iff.mpr (by decide)) dL_law_1323 ?_
  refine lv_topi (fun x11 ex11 => ?_)
  obtain rfl : xs 2 = x11 := (ex11.trans rfl).symm
  refine goV (As := [.int (xs 1), .int (xs 2)]) (rest := [.int r7]) (wr := []) ⟨hx, hb, hml, hown, hts⟩ (c_X12_offer l G cI cJ cZ cD cR cT k0 (xs 1) (xs 2) k0_2 k0_3 k0_4 k0_5 k0_9 k0_10 k0_11 k0_20 k0_22 k0_23 k0_25 k0_26 k0_29 k0_30 k0_31 k0_32 k0_39 k0_40 k0_42 k0_44 k0_45 _) (cwV 2 hts gv_law31_146_X12_offer rfl rfl rfl (by decide +kernel) ⟨Nat.le_of_ble_eq_true rfl, Nat.le_of_ble_eq_true rfl⟩) 0 rfl rfl rfl hKK hP hD hS hA [0, 1] [] rfl rfl (by decide +kernel) (by decide +kernel) (by decide +kernel) rfl hl.1 rfl (lv_room (Nat.le_of_ble_eq_true rfl)) dL_law_1324 ⟨Nat.le_of_ble_eq_true rfl, Nat.le_of_ble_eq_true rfl⟩ (fun v13 q12 gq12 H locs hv13 => appW (ws' := []) rfl (fun hP hD hS => ?_))
  obtain ⟨r14, rfl, hr14⟩ := hv13
  refine lv_icmp_eq (tgt := 1678) hx hb dL_law_1327 (by decide) (fun _ => ?_) (fun c => absurd (hr7.trans hr14.symm) c)
  refine lv_iinc (v := 6) (lv' := [(3, .int 6), (2, .ref k0), (1, .ref h0), (0, .ref b)]) hx hb dL_law_1678 hl (k := 0) rfl (by decide) (by decide) rfl (fun ls hl => ?_)
  refine lv_goto (tgt := 18) hx hb dL_law_1681 (by decide) ?_
  refine lv_iload_n hx hb dL_law_18 rfl (lv_at hl 0 rfl) ?_
  refine lv_aload_n hx hb dL_law_19 rfl (lv_at hl 3 rfl) ?_
  refine va_slen hx hb hX hbl hbA hS dL_law_20 ?_
  refine lv_topi (fun x15 ex15 => ?_)
  obtain rfl : 6 = x15 := (ex15.trans rfl).symm
  refine lv_bipush (v := 6) hx hb dL_law_21 (by decide) ?_
  refine lv_isub hx hb dL_law_23 ?_
  refine lv_topi (fun x16 ex16 => ?_)
  obtain rfl : 0 = x16 := (ex16.trans (by decide)).symm
  refine lv_icmp_gt (tgt := 1684) hx hb dL_law_24 (by decide) (fun _ => ?_) (fun c => absurd c (by decide))
  refine lv_iconst (v := 1) hx hb dL_law_1684 (by decide) ?_
  refine va_forget (fun q h => hS.2.2 q h) ?_
  refine W.widen (k := 600000) (n := 7302250) (Nat.le_of_ble_eq_true rfl) (Nat.le_of_ble_eq_true rfl) ?_
  exact W.base (lw_ret (Drawn.sameBut.refl s.drawn lw_cs) hx hb hr hlocks dL_law_1685)
set_option maxRecDepth 20000 in
theorem gv_law32_147_X11_agree : GoodIn lw_tbl (wsV RL 147 RX11 yX11_agree v_X11_agree) := goodIn_app (goodIn_r _ [1234, 1235, 1236, 103] (by decide +kernel) (by decide +kernel)) (gi tb_X11_agree gd_X11_agree)
set_option maxRecDepth 20000 in
theorem gv_law32_150_X12_agree : GoodIn lw_tbl (wsV RL 150 RX12 yX12_agree v_X12_agree) := goodIn_app (goodIn_r _ [2010, 2011, 2012, 114] (by decide +kernel) (by decide +kernel)) (gi tb_X12_agree gd_X12_agree)
set_option maxHeartbeats 4000000 in
set_option maxRecDepth 100000 in
theorem law_case_32 {p : Program} {e : Env} {s : State} {m : MethodId} {below : List Frame} {meth : Method} {c : Code} (l : Launch) (G : va_G) (cI cJ cZ cD cR cT : ClassId) {b : Nat} {xs : Nat → Int32} (h0 k0 h0_0 h0_1 h0_2 h0_3 h0_6 h0_7 h0_8 h0_10 h0_11 h0_13 h0_0_0 h0_0_1 h0_0_2 h0_0_3 h0_0_4 h0_0_5 h0_0_8 h0_0_15 h0_0_16 h0_0_5_4 h0_0_5_5 k0_2 k0_3 k0_4 k0_5 k0_9 k0_10 k0_11 k0_20 k0_22 k0_23 k0_25 k0_26 k0_29 k0_30 k0_31 k0_32 k0_39 k0_40 k0_42 k0_44 k0_45 : Nat) {H : Heap} {locs : List Loc} {ls : Array Slot} (hx : p.tables.exec = Jvm.exec) (hb : c.code = code) (hr : meth.sig.returnType = ret) (hml : c.maxLocals = 4) (hown : s.vm.findClass RL = some m.cls) (hts : ∀ w ∈ lw_tbl, w.before #[Value.ref b] s = true) (hX : va_X b 6 xs s s.heap) (hbl : b < s.heap.size) (hlocks : meth.locks = false) (hKK : KK G (tys6 cI cJ cZ cD cR cT) s) (hP : va_P G vwCl [(h0, .inr (11, [.ref h0_0, .ref h0_1, .ref h0_2, .ref h0_3, .int 0, .int 0, .ref h0_6, .ref h0_7, .ref h0_8, .int 0, .ref h0_10, .ref h0_11, .int 0, .ref h0_13, .int 0, .int 0])), (h0_0, .inr (0, [.ref h0_0_0, .ref h0_0_1, .ref h0_0_2, .ref h0_0_3, .ref h0_0_4, .ref h0_0_5, .int 0, .int 0, .ref h0_0_8, .int 0, .int 0, .int 0, .int 0, .long 0, .int 0, .ref h0_0_15, .ref h0_0_16])), (h0_0_5, .inr (3, [.int 0, .int 50, .int 0, .int 0, .ref h0_0_5_4, .ref h0_0_5_5])), (k0, .inr (12, [.int 0, .int 0, .ref k0_2, .ref k0_3, .ref k0_4, .ref k0_5, .int 0, .int 0, .int 0, .ref k0_9, .ref k0_10, .ref k0_11, .int 0, .int 0, .int 0, .int 0, .long 0, .int (-1), .int 0, .int 0, .ref k0_20, .int 0, .ref k0_22, .ref k0_23, .int 0, .ref k0_25, .ref k0_26, .int 0, .int 0, .ref k0_29, .ref k0_30, .ref k0_31, .ref k0_32, .int 0, .long 0, .long 0, .long 0, .long 0, .int 0, .ref k0_39, .ref k0_40, .int 0, .ref k0_42, .int 0, .ref k0_44, .ref k0_45, .int 0, .int 0, .int 0, .int 0, .int 0, .int 0])), (k0_2, .inl (cI, 35942, .inl mrow))] H) (hD : va_D (fun q : Nat => s.heap.size ≤ q) [(h0, .inr (11, [.ref h0_0, .ref h0_1, .ref h0_2, .ref h0_3, .int 0, .int 0, .ref h0_6, .ref h0_7, .ref h0_8, .int 0, .ref h0_10, .ref h0_11, .int 0, .ref h0_13, .int 0, .int 0])), (h0_0, .inr (0, [.ref h0_0_0, .ref h0_0_1, .ref h0_0_2, .ref h0_0_3, .ref h0_0_4, .ref h0_0_5, .int 0, .int 0, .ref h0_0_8, .int 0, .int 0, .int 0, .int 0, .long 0, .int 0, .ref h0_0_15, .ref h0_0_16])), (h0_0_5, .inr (3, [.int 0, .int 50, .int 0, .int 0, .ref h0_0_5_4, .ref h0_0_5_5])), (k0, .inr (12, [.int 0, .int 0, .ref k0_2, .ref k0_3, .ref k0_4, .ref k0_5, .int 0, .int 0, .int 0, .ref k0_9, .ref k0_10, .ref k0_11, .int 0, .int 0, .int 0, .int 0, .long 0, .int (-1), .int 0, .int 0, .ref k0_20, .int 0, .ref k0_22, .ref k0_23, .int 0, .ref k0_25, .ref k0_26, .int 0, .int 0, .ref k0_29, .ref k0_30, .ref k0_31, .ref k0_32, .int 0, .long 0, .long 0, .long 0, .long 0, .int 0, .ref k0_39, .ref k0_40, .int 0, .ref k0_42, .int 0, .ref k0_44, .ref k0_45, .int 0, .int 0, .int 0, .int 0, .int 0, .int 0])), (k0_2, .inl (cI, 35942, .inl mrow))]) (hS : va_S (fun q : Nat => s.heap.size ≤ q) s.heap H locs) (hl : lv_has ls 4 [(3, .int 0), (2, .ref k0), (1, .ref h0), (0, .ref b)]) : W p l e room_1 s m #[Value.ref b] below meth c H locs 221 158368 (lw_Z below #[Value.ref b] s) (F0 m 1332 ls []) := by
  have hK := hKK.1
  have hA : ∀ q : Nat, s.heap.size ≤ q → (fun q : Nat => s.heap.size ≤ q) q := fun _ h => h
  have hbA : ¬ (fun q : Nat => s.heap.size ≤ q) b := Nat.not_le.mpr hbl
  refine lv_aload_n hx hb dL_law_1332 rfl (lv_at hl 2 rfl) ?_
  refine lv_aload_n hx hb dL_law_1333 rfl (lv_at hl 3 rfl) ?_
  refine lv_iload_n hx hb dL_law_1334 rfl (lv_at hl 0 rfl) ?_
  refine lv_iconst (v := 1) hx hb dL_law_1335 (by decide) ?_
  refine lv_iadd hx hb dL_law_1336 ?_
  refine lv_topi (fun x1 ex1 => ?_)
  obtain rfl : 1 = x1 := (ex1.trans (by decide)).symm
  refine va_sld hx hb hX hbl hbA hS (vp_in_iff.mpr (by decide)) dL_law_1337 ?_
  refine lv_topi (fun x2 ex2 => ?_)
  obtain rfl : xs 1 = x2 := (ex2.trans rfl).symm
  refine lv_aload_n hx hb dL_law_1338 rfl (lv_at hl 3 rfl) ?_
  refine lv_iload_n hx hb dL_law_1339 rfl (lv_at hl 0 rfl) ?_
  refine lv_iconst (v := 2) hx hb dL_law_1340 (by decide) ?_
  refine lv_iadd hx hb dL_law_1341 ?_
  refine lv_topi (fun x3 ex3 => ?_)
  obtain rfl : 2 = x3 := (ex3.trans (by decide)).symm
  refine va_sld hx hb hX hbl hbA hS (vp_in_iff.mpr (by decide)) dL_law_1342 ?_
  refine lv_topi (fun x4 ex4 => ?_)
  obtain rfl : xs 2 = x4 := (ex4.trans rfl).symm
  refine goV (As := [.int (xs 1), .int (xs 2)]) (rest := []) (wr := [(k0, .inr (12, [.int 0, .int 0, .ref k0_2, .ref k0_3, .ref k0_4, .ref k0_5, .int 0, .int 0, .int 0, .ref k0_9, .ref k0_10, .ref k0_11, .int 0, .int 0, .int 0, .int 0, .long 0, .int (-1), .int 0, .int 0, .ref k0_20, .int 0, .ref k0_22, .ref k0_23, .int 0, .ref k0_25, .ref k0_26, .int 0, .int 0, .ref k0_29, .ref k0_30, .ref k0_31, .ref k0_32, .int 0, .long 0, .long 0, .long 0, .long 0, .int 0, .ref k0_39, .ref k0_40, .int 0, .ref k0_42, .int 0, .ref k0_44, .ref k0_45, .int 0, .int 0, .int 0, .int 0, .int 0, .int 0])), (k0_2, .inl (cI, 35942, .inl mrow))]) ⟨hx, hb, hml, hown, hts⟩ (c_X11_agree l G cI cJ cZ cD cR cT h0 (xs 1) (xs 2) h0_0 h0_1 h0_2 h0_3 h0_6 h0_7 h0_8 h0_10 h0_11 h0_13 h0_0_0 h0_0_1 h0_0_2 h0_0_3 h0_0_4 h0_0_5 h0_0_8 h0_0_15 h0_0_16 h0_0_5_4 h0_0_5_5 _) (cwV 2 hts gv_law32_147_X11_agree rfl rfl rfl (by decide +kernel) ⟨Nat.le_of_ble_eq_true rfl, Nat.le_of_ble_eq_true rfl⟩) 0 rfl rfl rfl hKK hP hD hS hA [0, 1, 2] [3, 4] rfl rfl (by decide +kernel) (by decide +kernel) (by decide +kernel) rfl hl.1 rfl (lv_room (Nat.le_of_ble_eq_true rfl)) dL_law_1343 ⟨Nat.le_of_ble_eq_true rfl, Nat.le_of_ble_eq_true rfl⟩ (fun v6 q5 gq5 H locs hv6 => appW (ws' := [(k0, .inr (12, [.int 0, .int 0, .ref k0_2, .ref k0_3, .ref k0_4, .ref k0_5, .int 0, .int 0, .int 0, .ref k0_9, .ref k0_10, .ref k0_11, .int 0, .int 0, .int 0, .int 0, .long 0, .int (-1), .int 0, .int 0, .ref k0_20, .int 0, .ref k0_22, .ref k0_23, .int 0, .ref k0_25, .ref k0_26, .int 0, .int 0, .ref k0_29, .ref k0_30, .ref k0_31, .ref k0_32, .int 0, .long 0, .long 0, .long 0, .long 0, .int 0, .ref k0_39, .ref k0_40, .int 0, .ref k0_42, .int 0, .ref k0_44, .ref k0_45, .int 0, .int 0, .int 0, .int 0, .int 0, .int 0])), (k0_2, .inl (cI, 35942, .inl mrow))]) rfl (fun hP hD hS => ?_))
  obtain ⟨r7, rfl, hr7⟩ := hv6
  refine lv_aload_n hx hb dL_law_1346 rfl (lv_at hl 1 rfl) ?_
  refine lv_aload_n hx hb dL_law_1347 rfl (lv_at hl 3 rfl) ?_
  refine lv_iload_n hx hb dL_law_1348 rfl (lv_at hl 0 rfl) ?_
  refine lv_iconst (v := 1) hx hb dL_law_1349 (by decide) ?_
  refine lv_iadd hx hb dL_law_1350 ?_
  refine lv_topi (fun x8 ex8 => ?_)
  obtain rfl : 1 = x8 := (ex8.trans (by decide)).symm
  refine va_sld hx hb hX hbl hbA hS (vp_in_iff.mpr (by decide)) dL_law_1351 ?_
  refine lv_topi (fun x9 ex9 => ?_)
  obtain rfl : xs 1 = x9 := (ex9.trans rfl).symm
  refine lv_aload_n hx hb dL_law_1352 rfl (lv_at hl 3 rfl) ?_
  refine lv_iload_n hx hb dL_law_1353 rfl (lv_at hl 0 rfl) ?_
  refine lv_iconst (v := 2) hx hb dL_law_1354 (by decide) ?_
  refine lv_iadd hx hb dL_law_1355 ?_
  refine lv_topi (fun x10 ex10 => ?_)
  obtain rfl : 2 = x10 := (ex10.trans (by decide)).symm
  refine va_sld hx hb hX hbl hbA hS (vp_in_iff.mpr (by decide)) dL_law_1356 ?_
  refine lv_topi (fun x11 ex11 => ?_)
  obtain rfl : xs 2 = x11 := (ex11.trans rfl).symm
  refine goV (As := [.int (xs 1), .int (xs 2)]) (rest := [.int r7]) (wr := []) ⟨hx, hb, hml, hown, hts⟩ (c_X12_agree l G cI cJ cZ cD cR cT k0 (xs 1) (xs 2) k0_2 k0_3 k0_4 k0_5 k0_9 k0_10 k0_11 k0_20 k0_22 k0_23 k0_25 k0_26 k0_29 k0_30 k0_31 k0_32 k0_39 k0_40 k0_42 k0_44 k0_45 _) (cwV 2 hts gv_law32_150_X12_agree rfl rfl rfl (by decide +kernel) ⟨Nat.le_of_ble_eq_true rfl, Nat.le_of_ble_eq_true rfl⟩) 0 rfl rfl rfl hKK hP hD hS hA [0, 1] [] rfl rfl (by decide +kernel) (by decide +kernel) (by decide +kernel) rfl hl.1 rfl (lv_room (Nat.le_of_ble_eq_true rfl)) dL_law_1357 ⟨Nat.le_of_ble_eq_true rfl, Nat.le_of_ble_eq_true rfl⟩ (fun v13 q12 gq12 H locs hv13 => appW (ws' := []) rfl (fun hP hD hS => ?_))
  obtain ⟨r14, rfl, hr14⟩ := hv13
  refine lv_icmp_eq (tgt := 1678) hx hb dL_law_1360 (by decide) (fun _ => ?_) (fun c => absurd (hr7.trans hr14.symm) c)
  refine lv_iinc (v := 6) (lv' := [(3, .int 6), (2, .ref k0), (1, .ref h0), (0, .ref b)]) hx hb dL_law_1678 hl (k := 0) rfl (by decide) (by decide) rfl (fun ls hl => ?_)
  refine lv_goto (tgt := 18) hx hb dL_law_1681 (by decide) ?_
  refine lv_iload_n hx hb dL_law_18 rfl (lv_at hl 0 rfl) ?_
  refine lv_aload_n hx hb dL_law_19 rfl (lv_at hl 3 rfl) ?_
  refine va_slen hx hb hX hbl hbA hS dL_law_20 ?_
  refine lv_topi (fun x15 ex15 => ?_)
  obtain rfl : 6 = x15 := (ex15.trans rfl).symm
  refine lv_bipush (v := 6) hx hb dL_law_21 (by decide) ?_
  refine lv_isub hx hb dL_law_23 ?_
  refine lv_topi (fun x16 ex16 => ?_)
  obtain rfl : 0 = x16 := (ex16.trans (by decide)).symm
  refine lv_icmp_gt (tgt := 1684) hx hb dL_law_24 (by decide) (fun _ => ?_) (fun c => absurd c (by decide))
  refine lv_iconst (v := 1) hx hb dL_law_1684 (by decide) ?_
  refine va_forget (fun q h => hS.2.2 q h) ?_
  refine W.widen (k := 600000) (n := 7302250) (Nat.le_of_ble_eq_true rfl) (Nat.le_of_ble_eq_true rfl) ?_
  exact W.base (lw_ret (Drawn.sameBut.refl s.drawn lw_cs) hx hb hr hlocks dL_law_1685)
set_option maxRecDepth 20000 in
theorem gv_law33_151_X11_wish : GoodIn lw_tbl (wsV RL 151 RX11 yX11_wish v_X11_wish) := goodIn_app (goodIn_r _ [1252, 1253, 1254, 103] (by decide +kernel) (by decide +kernel)) (gi tb_X11_wish gd_X11_wish)
set_option maxRecDepth 20000 in
theorem gv_law33_154_X12_wish : GoodIn lw_tbl (wsV RL 154 RX12 yX12_wish v_X12_wish) := goodIn_app (goodIn_r _ [2015, 2016, 2017, 114] (by decide +kernel) (by decide +kernel)) (gi tb_X12_wish gd_X12_wish)
set_option maxHeartbeats 4000000 in
set_option maxRecDepth 100000 in
theorem law_case_33 {p : Program} {e : Env} {s : State} {m : MethodId} {below : List Frame} {meth : Method} {c : Code} (l : Launch) (G : va_G) (cI cJ cZ cD cR cT : ClassId) {b : Nat} {xs : Nat → Int32} (h0 k0 h0_0 h0_1 h0_2 h0_3 h0_6 h0_7 h0_8 h0_10 h0_11 h0_13 h0_0_0 h0_0_1 h0_0_2 h0_0_3 h0_0_4 h0_0_5 h0_0_8 h0_0_15 h0_0_16 h0_0_1_1 h0_0_1_2 h0_0_1_3 h0_0_1_4 h0_0_1_5 h0_0_1_6 h0_0_1_7 h0_0_1_9 h0_0_1_10 h0_0_1_11 k0_2 k0_3 k0_4 k0_5 k0_9 k0_10 k0_11 k0_20 k0_22 k0_23 k0_25 k0_26 k0_29 k0_30 k0_31 k0_32 k0_39 k0_40 k0_42 k0_44 k0_45 : Nat) {H : Heap} {locs : List Loc} {ls : Array Slot} (hx : p.tables.exec = Jvm.exec) (hb : c.code = code) (hr : meth.sig.returnType = ret) (hml : c.maxLocals = 4) (hown : s.vm.findClass RL = some m.cls) (hts : ∀ w ∈ lw_tbl, w.before #[Value.ref b] s = true) (hX : va_X b 6 xs s s.heap) (hbl : b < s.heap.size) (hlocks : meth.locks = false) (hKK : KK G (tys6 cI cJ cZ cD cR cT) s) (hP : va_P G vwCl [(h0, .inr (11, [.ref h0_0, .ref h0_1, .ref h0_2, .ref h0_3, .int 0, .int 0, .ref h0_6, .ref h0_7, .ref h0_8, .int 0, .ref h0_10, .ref h0_11, .int 0, .ref h0_13, .int 0, .int 0])), (h0_0, .inr (0, [.ref h0_0_0, .ref h0_0_1, .ref h0_0_2, .ref h0_0_3, .ref h0_0_4, .ref h0_0_5, .int 0, .int 0, .ref h0_0_8, .int 0, .int 0, .int 0, .int 0, .long 0, .int 0, .ref h0_0_15, .ref h0_0_16])), (h0_0_1, .inr (1, [.int 0, .ref h0_0_1_1, .ref h0_0_1_2, .ref h0_0_1_3, .ref h0_0_1_4, .ref h0_0_1_5, .ref h0_0_1_6, .ref h0_0_1_7, .int 0, .ref h0_0_1_9, .ref h0_0_1_10, .ref h0_0_1_11, .int (-1), .long 0, .long 0])), (k0, .inr (12, [.int 0, .int 0, .ref k0_2, .ref k0_3, .ref k0_4, .ref k0_5, .int 0, .int 0, .int 0, .ref k0_9, .ref k0_10, .ref k0_11, .int 0, .int 0, .int 0, .int 0, .long 0, .int (-1), .int 0, .int 0, .ref k0_20, .int 0, .ref k0_22, .ref k0_23, .int 0, .ref k0_25, .ref k0_26, .int 0, .int 0, .ref k0_29, .ref k0_30, .ref k0_31, .ref k0_32, .int 0, .long 0, .long 0, .long 0, .long 0, .int 0, .ref k0_39, .ref k0_40, .int 0, .ref k0_42, .int 0, .ref k0_44, .ref k0_45, .int 0, .int 0, .int 0, .int 0, .int 0, .int 0])), (k0_2, .inl (cI, 35942, .inl mrow))] H) (hD : va_D (fun q : Nat => s.heap.size ≤ q) [(h0, .inr (11, [.ref h0_0, .ref h0_1, .ref h0_2, .ref h0_3, .int 0, .int 0, .ref h0_6, .ref h0_7, .ref h0_8, .int 0, .ref h0_10, .ref h0_11, .int 0, .ref h0_13, .int 0, .int 0])), (h0_0, .inr (0, [.ref h0_0_0, .ref h0_0_1, .ref h0_0_2, .ref h0_0_3, .ref h0_0_4, .ref h0_0_5, .int 0, .int 0, .ref h0_0_8, .int 0, .int 0, .int 0, .int 0, .long 0, .int 0, .ref h0_0_15, .ref h0_0_16])), (h0_0_1, .inr (1, [.int 0, .ref h0_0_1_1, .ref h0_0_1_2, .ref h0_0_1_3, .ref h0_0_1_4, .ref h0_0_1_5, .ref h0_0_1_6, .ref h0_0_1_7, .int 0, .ref h0_0_1_9, .ref h0_0_1_10, .ref h0_0_1_11, .int (-1), .long 0, .long 0])), (k0, .inr (12, [.int 0, .int 0, .ref k0_2, .ref k0_3, .ref k0_4, .ref k0_5, .int 0, .int 0, .int 0, .ref k0_9, .ref k0_10, .ref k0_11, .int 0, .int 0, .int 0, .int 0, .long 0, .int (-1), .int 0, .int 0, .ref k0_20, .int 0, .ref k0_22, .ref k0_23, .int 0, .ref k0_25, .ref k0_26, .int 0, .int 0, .ref k0_29, .ref k0_30, .ref k0_31, .ref k0_32, .int 0, .long 0, .long 0, .long 0, .long 0, .int 0, .ref k0_39, .ref k0_40, .int 0, .ref k0_42, .int 0, .ref k0_44, .ref k0_45, .int 0, .int 0, .int 0, .int 0, .int 0, .int 0])), (k0_2, .inl (cI, 35942, .inl mrow))]) (hS : va_S (fun q : Nat => s.heap.size ≤ q) s.heap H locs) (hl : lv_has ls 4 [(3, .int 0), (2, .ref k0), (1, .ref h0), (0, .ref b)]) : W p l e room_1 s m #[Value.ref b] below meth c H locs 221 158368 (lw_Z below #[Value.ref b] s) (F0 m 1365 ls []) := by
  have hK := hKK.1
  have hA : ∀ q : Nat, s.heap.size ≤ q → (fun q : Nat => s.heap.size ≤ q) q := fun _ h => h
  have hbA : ¬ (fun q : Nat => s.heap.size ≤ q) b := Nat.not_le.mpr hbl
  refine lv_aload_n hx hb dL_law_1365 rfl (lv_at hl 2 rfl) ?_
  refine lv_aload_n hx hb dL_law_1366 rfl (lv_at hl 3 rfl) ?_
  refine lv_iload_n hx hb dL_law_1367 rfl (lv_at hl 0 rfl) ?_
  refine lv_iconst (v := 1) hx hb dL_law_1368 (by decide) ?_
  refine lv_iadd hx hb dL_law_1369 ?_
  refine lv_topi (fun x1 ex1 => ?_)
  obtain rfl : 1 = x1 := (ex1.trans (by decide)).symm
  refine va_sld hx hb hX hbl hbA hS (vp_in_iff.mpr (by decide)) dL_law_1370 ?_
  refine lv_topi (fun x2 ex2 => ?_)
  obtain rfl : xs 1 = x2 := (ex2.trans rfl).symm
  refine goV (As := [.int (xs 1)]) (rest := []) (wr := [(k0, .inr (12, [.int 0, .int 0, .ref k0_2, .ref k0_3, .ref k0_4, .ref k0_5, .int 0, .int 0, .int 0, .ref k0_9, .ref k0_10, .ref k0_11, .int 0, .int 0, .int 0, .int 0, .long 0, .int (-1), .int 0, .int 0, .ref k0_20, .int 0, .ref k0_22, .ref k0_23, .int 0, .ref k0_25, .ref k0_26, .int 0, .int 0, .ref k0_29, .ref k0_30, .ref k0_31, .ref k0_32, .int 0, .long 0, .long 0, .long 0, .long 0, .int 0, .ref k0_39, .ref k0_40, .int 0, .ref k0_42, .int 0, .ref k0_44, .ref k0_45, .int 0, .int 0, .int 0, .int 0, .int 0, .int 0])), (k0_2, .inl (cI, 35942, .inl mrow))]) ⟨hx, hb, hml, hown, hts⟩ (c_X11_wish l G cI cJ cZ cD cR cT h0 (xs 1) h0_0 h0_1 h0_2 h0_3 h0_6 h0_7 h0_8 h0_10 h0_11 h0_13 h0_0_0 h0_0_1 h0_0_2 h0_0_3 h0_0_4 h0_0_5 h0_0_8 h0_0_15 h0_0_16 h0_0_1_1 h0_0_1_2 h0_0_1_3 h0_0_1_4 h0_0_1_5 h0_0_1_6 h0_0_1_7 h0_0_1_9 h0_0_1_10 h0_0_1_11 _) (cwV 1 hts gv_law33_151_X11_wish rfl rfl rfl (by decide +kernel) ⟨Nat.le_of_ble_eq_true rfl, Nat.le_of_ble_eq_true rfl⟩) 0 rfl rfl rfl hKK hP hD hS hA [0, 1, 2] [3, 4] rfl rfl (by decide +kernel) (by decide +kernel) (by decide +kernel) rfl hl.1 rfl (lv_room (Nat.le_of_ble_eq_true rfl)) dL_law_1371 ⟨Nat.le_of_ble_eq_true rfl, Nat.le_of_ble_eq_true rfl⟩ (fun v4 q3 gq3 H locs hv4 => appW (ws' := [(k0, .inr (12, [.int 0, .int 0, .ref k0_2, .ref k0_3, .ref k0_4, .ref k0_5, .int 0, .int 0, .int 0, .ref k0_9, .ref k0_10, .ref k0_11, .int 0, .int 0, .int 0, .int 0, .long 0, .int (-1), .int 0, .int 0, .ref k0_20, .int 0, .ref k0_22, .ref k0_23, .int 0, .ref k0_25, .ref k0_26, .int 0, .int 0, .ref k0_29, .ref k0_30, .ref k0_31, .ref k0_32, .int 0, .long 0, .long 0, .long 0, .long 0, .int 0, .ref k0_39, .ref k0_40, .int 0, .ref k0_42, .int 0, .ref k0_44, .ref k0_45, .int 0, .int 0, .int 0, .int 0, .int 0, .int 0])), (k0_2, .inl (cI, 35942, .inl mrow))]) rfl (fun hP hD hS => ?_))
  obtain ⟨r5, rfl, hr5⟩ := hv4
  refine lv_aload_n hx hb dL_law_1374 rfl (lv_at hl 1 rfl) ?_
  refine lv_aload_n hx hb dL_law_1375 rfl (lv_at hl 3 rfl) ?_
  refine lv_iload_n hx hb dL_law_1376 rfl (lv_at hl 0 rfl) ?_
  refine lv_iconst (v := 1) hx hb dL_law_1377 (by decide) ?_
  refine lv_iadd hx hb dL_law_1378 ?_
  refine lv_topi (fun x6 ex6 => ?_)
  obtain rfl : 1 = x6 := (ex6.trans (by decide)).symm
  refine va_sld hx hb hX hbl hbA hS (vp_in_iff.mpr (by decide)) dL_law_1379 ?_
  refine lv_topi (fun x7 ex7 => ?_)
  obtain rfl : xs 1 = x7 := (ex7.trans rfl).symm
  refine goV (As := [.int (xs 1)]) (rest := [.int r5]) (wr := []) ⟨hx, hb, hml, hown, hts⟩ (c_X12_wish l G cI cJ cZ cD cR cT k0 (xs 1) k0_2 k0_3 k0_4 k0_5 k0_9 k0_10 k0_11 k0_20 k0_22 k0_23 k0_25 k0_26 k0_29 k0_30 k0_31 k0_32 k0_39 k0_40 k0_42 k0_44 k0_45 _) (cwV 1 hts gv_law33_154_X12_wish rfl rfl rfl (by decide +kernel) ⟨Nat.le_of_ble_eq_true rfl, Nat.le_of_ble_eq_true rfl⟩) 0 rfl rfl rfl hKK hP hD hS hA [0, 1] [] rfl rfl (by decide +kernel) (by decide +kernel) (by decide +kernel) rfl hl.1 rfl (lv_room (Nat.le_of_ble_eq_true rfl)) dL_law_1380 ⟨Nat.le_of_ble_eq_true rfl, Nat.le_of_ble_eq_true rfl⟩ (fun v9 q8 gq8 H locs hv9 => appW (ws' := []) rfl (fun hP hD hS => ?_))
  obtain ⟨r10, rfl, hr10⟩ := hv9
  refine lv_icmp_eq (tgt := 1678) hx hb dL_law_1383 (by decide) (fun _ => ?_) (fun c => absurd (hr5.trans hr10.symm) c)
  refine lv_iinc (v := 6) (lv' := [(3, .int 6), (2, .ref k0), (1, .ref h0), (0, .ref b)]) hx hb dL_law_1678 hl (k := 0) rfl (by decide) (by decide) rfl (fun ls hl => ?_)
  refine lv_goto (tgt := 18) hx hb dL_law_1681 (by decide) ?_
  refine lv_iload_n hx hb dL_law_18 rfl (lv_at hl 0 rfl) ?_
  refine lv_aload_n hx hb dL_law_19 rfl (lv_at hl 3 rfl) ?_
  refine va_slen hx hb hX hbl hbA hS dL_law_20 ?_
  refine lv_topi (fun x11 ex11 => ?_)
  obtain rfl : 6 = x11 := (ex11.trans rfl).symm
  refine lv_bipush (v := 6) hx hb dL_law_21 (by decide) ?_
  refine lv_isub hx hb dL_law_23 ?_
  refine lv_topi (fun x12 ex12 => ?_)
  obtain rfl : 0 = x12 := (ex12.trans (by decide)).symm
  refine lv_icmp_gt (tgt := 1684) hx hb dL_law_24 (by decide) (fun _ => ?_) (fun c => absurd c (by decide))
  refine lv_iconst (v := 1) hx hb dL_law_1684 (by decide) ?_
  refine va_forget (fun q h => hS.2.2 q h) ?_
  refine W.widen (k := 600000) (n := 7302250) (Nat.le_of_ble_eq_true rfl) (Nat.le_of_ble_eq_true rfl) ?_
  exact W.base (lw_ret (Drawn.sameBut.refl s.drawn lw_cs) hx hb hr hlocks dL_law_1685)
set_option maxRecDepth 20000 in
theorem gv_law34_155_X11_clear : GoodIn lw_tbl (wsV RL 155 RX11 yX11_clear v_X11_clear) := goodIn_app (goodIn_r _ [1260, 1261, 1262, 103] (by decide +kernel) (by decide +kernel)) (gi tb_X11_clear gd_X11_clear)
set_option maxRecDepth 20000 in
theorem gv_law34_158_X12_clear : GoodIn lw_tbl (wsV RL 158 RX12 yX12_clear v_X12_clear) := goodIn_app (goodIn_r _ [2019, 2020, 2021, 114] (by decide +kernel) (by decide +kernel)) (gi tb_X12_clear gd_X12_clear)
set_option maxHeartbeats 4000000 in
set_option maxRecDepth 100000 in
theorem law_case_34 {p : Program} {e : Env} {s : State} {m : MethodId} {below : List Frame} {meth : Method} {c : Code} (l : Launch) (G : va_G) (cI cJ cZ cD cR cT : ClassId) {b : Nat} {xs : Nat → Int32} (h0 k0 h0_0 h0_1 h0_2 h0_3 h0_6 h0_7 h0_8 h0_10 h0_11 h0_13 k0_2 k0_3 k0_4 k0_5 k0_9 k0_10 k0_11 k0_20 k0_22 k0_23 k0_25 k0_26 k0_29 k0_30 k0_31 k0_32 k0_39 k0_40 k0_42 k0_44 k0_45 : Nat) {H : Heap} {locs : List Loc} {ls : Array Slot} (hx : p.tables.exec = Jvm.exec) (hb : c.code = code) (hr : meth.sig.returnType = ret) (hml : c.maxLocals = 4) (hown : s.vm.findClass RL = some m.cls) (hts : ∀ w ∈ lw_tbl, w.before #[Value.ref b] s = true) (hX : va_X b 6 xs s s.heap) (hbl : b < s.heap.size) (hlocks : meth.locks = false) (hKK : KK G (tys6 cI cJ cZ cD cR cT) s) (hP : va_P G vwCl [(h0, .inr (11, [.ref h0_0, .ref h0_1, .ref h0_2, .ref h0_3, .int 0, .int 0, .ref h0_6, .ref h0_7, .ref h0_8, .int 0, .ref h0_10, .ref h0_11, .int 0, .ref h0_13, .int 0, .int 0])), (k0, .inr (12, [.int 0, .int 0, .ref k0_2, .ref k0_3, .ref k0_4, .ref k0_5, .int 0, .int 0, .int 0, .ref k0_9, .ref k0_10, .ref k0_11, .int 0, .int 0, .int 0, .int 0, .long 0, .int (-1), .int 0, .int 0, .ref k0_20, .int 0, .ref k0_22, .ref k0_23, .int 0, .ref k0_25, .ref k0_26, .int 0, .int 0, .ref k0_29, .ref k0_30, .ref k0_31, .ref k0_32, .int 0, .long 0, .long 0, .long 0, .long 0, .int 0, .ref k0_39, .ref k0_40, .int 0, .ref k0_42, .int 0, .ref k0_44, .ref k0_45, .int 0, .int 0, .int 0, .int 0, .int 0, .int 0]))] H) (hD : va_D (fun q : Nat => s.heap.size ≤ q) [(h0, .inr (11, [.ref h0_0, .ref h0_1, .ref h0_2, .ref h0_3, .int 0, .int 0, .ref h0_6, .ref h0_7, .ref h0_8, .int 0, .ref h0_10, .ref h0_11, .int 0, .ref h0_13, .int 0, .int 0])), (k0, .inr (12, [.int 0, .int 0, .ref k0_2, .ref k0_3, .ref k0_4, .ref k0_5, .int 0, .int 0, .int 0, .ref k0_9, .ref k0_10, .ref k0_11, .int 0, .int 0, .int 0, .int 0, .long 0, .int (-1), .int 0, .int 0, .ref k0_20, .int 0, .ref k0_22, .ref k0_23, .int 0, .ref k0_25, .ref k0_26, .int 0, .int 0, .ref k0_29, .ref k0_30, .ref k0_31, .ref k0_32, .int 0, .long 0, .long 0, .long 0, .long 0, .int 0, .ref k0_39, .ref k0_40, .int 0, .ref k0_42, .int 0, .ref k0_44, .ref k0_45, .int 0, .int 0, .int 0, .int 0, .int 0, .int 0]))]) (hS : va_S (fun q : Nat => s.heap.size ≤ q) s.heap H locs) (hl : lv_has ls 4 [(3, .int 0), (2, .ref k0), (1, .ref h0), (0, .ref b)]) : W p l e room_1 s m #[Value.ref b] below meth c H locs 221 158368 (lw_Z below #[Value.ref b] s) (F0 m 1388 ls []) := by
  have hK := hKK.1
  have hA : ∀ q : Nat, s.heap.size ≤ q → (fun q : Nat => s.heap.size ≤ q) q := fun _ h => h
  have hbA : ¬ (fun q : Nat => s.heap.size ≤ q) b := Nat.not_le.mpr hbl
  refine lv_aload_n hx hb dL_law_1388 rfl (lv_at hl 2 rfl) ?_
  refine goV (As := []) (rest := []) (wr := [(k0, .inr (12, [.int 0, .int 0, .ref k0_2, .ref k0_3, .ref k0_4, .ref k0_5, .int 0, .int 0, .int 0, .ref k0_9, .ref k0_10, .ref k0_11, .int 0, .int 0, .int 0, .int 0, .long 0, .int (-1), .int 0, .int 0, .ref k0_20, .int 0, .ref k0_22, .ref k0_23, .int 0, .ref k0_25, .ref k0_26, .int 0, .int 0, .ref k0_29, .ref k0_30, .ref k0_31, .ref k0_32, .int 0, .long 0, .long 0, .long 0, .long 0, .int 0, .ref k0_39, .ref k0_40, .int 0, .ref k0_42, .int 0, .ref k0_44, .ref k0_45, .int 0, .int 0, .int 0, .int 0, .int 0, .int 0]))]) ⟨hx, hb, hml, hown, hts⟩ (c_X11_clear l G cI cJ cZ cD cR cT h0 h0_0 h0_1 h0_2 h0_3 h0_6 h0_7 h0_8 h0_10 h0_11 h0_13 _) (cwV 0 hts gv_law34_155_X11_clear rfl rfl rfl (by decide +kernel) ⟨Nat.le_of_ble_eq_true rfl, Nat.le_of_ble_eq_true rfl⟩) 0 rfl rfl rfl hKK hP hD hS hA [0] [1] rfl rfl (by decide +kernel) (by decide +kernel) (by decide +kernel) rfl hl.1 rfl (lv_room (Nat.le_of_ble_eq_true rfl)) dL_law_1389 ⟨Nat.le_of_ble_eq_true rfl, Nat.le_of_ble_eq_true rfl⟩ (fun v2 q1 gq1 H locs hv2 => appW (ws' := [(k0, .inr (12, [.int 0, .int 0, .ref k0_2, .ref k0_3, .ref k0_4, .ref k0_5, .int 0, .int 0, .int 0, .ref k0_9, .ref k0_10, .ref k0_11, .int 0, .int 0, .int 0, .int 0, .long 0, .int (-1), .int 0, .int 0, .ref k0_20, .int 0, .ref k0_22, .ref k0_23, .int 0, .ref k0_25, .ref k0_26, .int 0, .int 0, .ref k0_29, .ref k0_30, .ref k0_31, .ref k0_32, .int 0, .long 0, .long 0, .long 0, .long 0, .int 0, .ref k0_39, .ref k0_40, .int 0, .ref k0_42, .int 0, .ref k0_44, .ref k0_45, .int 0, .int 0, .int 0, .int 0, .int 0, .int 0]))]) rfl (fun hP hD hS => ?_))
  obtain ⟨r3, rfl, hr3⟩ := hv2
  refine lv_aload_n hx hb dL_law_1392 rfl (lv_at hl 1 rfl) ?_
  refine goV (As := []) (rest := [.int r3]) (wr := []) ⟨hx, hb, hml, hown, hts⟩ (c_X12_clear l G cI cJ cZ cD cR cT k0 k0_2 k0_3 k0_4 k0_5 k0_9 k0_10 k0_11 k0_20 k0_22 k0_23 k0_25 k0_26 k0_29 k0_30 k0_31 k0_32 k0_39 k0_40 k0_42 k0_44 k0_45 _) (cwV 0 hts gv_law34_158_X12_clear rfl rfl rfl (by decide +kernel) ⟨Nat.le_of_ble_eq_true rfl, Nat.le_of_ble_eq_true rfl⟩) 0 rfl rfl rfl hKK hP hD hS hA [0] [] rfl rfl (by decide +kernel) (by decide +kernel) (by decide +kernel) rfl hl.1 rfl (lv_room (Nat.le_of_ble_eq_true rfl)) dL_law_1393 ⟨Nat.le_of_ble_eq_true rfl, Nat.le_of_ble_eq_true rfl⟩ (fun v5 q4 gq4 H locs hv5 => appW (ws' := []) rfl (fun hP hD hS => ?_))
  obtain ⟨r6, rfl, hr6⟩ := hv5
  refine lv_icmp_eq (tgt := 1678) hx hb dL_law_1396 (by decide) (fun _ => ?_) (fun c => absurd (hr3.trans hr6.symm) c)
  refine lv_iinc (v := 6) (lv' := [(3, .int 6), (2, .ref k0), (1, .ref h0), (0, .ref b)]) hx hb dL_law_1678 hl (k := 0) rfl (by decide) (by decide) rfl (fun ls hl => ?_)
  refine lv_goto (tgt := 18) hx hb dL_law_1681 (by decide) ?_
  refine lv_iload_n hx hb dL_law_18 rfl (lv_at hl 0 rfl) ?_
  refine lv_aload_n hx hb dL_law_19 rfl (lv_at hl 3 rfl) ?_
  refine va_slen hx hb hX hbl hbA hS dL_law_20 ?_
  refine lv_topi (fun x7 ex7 => ?_)
  obtain rfl : 6 = x7 := (ex7.trans rfl).symm
  refine lv_bipush (v := 6) hx hb dL_law_21 (by decide) ?_
  refine lv_isub hx hb dL_law_23 ?_
  refine lv_topi (fun x8 ex8 => ?_)
  obtain rfl : 0 = x8 := (ex8.trans (by decide)).symm
  refine lv_icmp_gt (tgt := 1684) hx hb dL_law_24 (by decide) (fun _ => ?_) (fun c => absurd c (by decide))
  refine lv_iconst (v := 1) hx hb dL_law_1684 (by decide) ?_
  refine va_forget (fun q h => hS.2.2 q h) ?_
  refine W.widen (k := 600000) (n := 7302250) (Nat.le_of_ble_eq_true rfl) (Nat.le_of_ble_eq_true rfl) ?_
  exact W.base (lw_ret (Drawn.sameBut.refl s.drawn lw_cs) hx hb hr hlocks dL_law_1685)
set_option maxRecDepth 20000 in
theorem gv_law35_159_X11_crops : GoodIn lw_tbl (wsV RL 159 RX11 yX11_crops v_X11_crops) := goodIn_app (goodIn_r _ [1264, 1265, 1266, 103] (by decide +kernel) (by decide +kernel)) (gi tb_X11_crops gd_X11_crops)
set_option maxRecDepth 20000 in
theorem gv_law35_162_X12_crops : GoodIn lw_tbl (wsV RL 162 RX12 yX12_crops v_X12_crops) := goodIn_app (goodIn_r _ [2023, 2024, 2025, 114] (by decide +kernel) (by decide +kernel)) (gi tb_X12_crops gd_X12_crops)
set_option maxHeartbeats 4000000 in
set_option maxRecDepth 100000 in
theorem law_case_35 {p : Program} {e : Env} {s : State} {m : MethodId} {below : List Frame} {meth : Method} {c : Code} (l : Launch) (G : va_G) (cI cJ cZ cD cR cT : ClassId) {b : Nat} {xs : Nat → Int32} (h0 k0 h0_0 h0_1 h0_2 h0_3 h0_6 h0_7 h0_8 h0_10 h0_11 h0_13 k0_2 k0_3 k0_4 k0_5 k0_9 k0_10 k0_11 k0_20 k0_22 k0_23 k0_25 k0_26 k0_29 k0_30 k0_31 k0_32 k0_39 k0_40 k0_42 k0_44 k0_45 : Nat) {H : Heap} {locs : List Loc} {ls : Array Slot} (hx : p.tables.exec = Jvm.exec) (hb : c.code = code) (hr : meth.sig.returnType = ret) (hml : c.maxLocals = 4) (hown : s.vm.findClass RL = some m.cls) (hts : ∀ w ∈ lw_tbl, w.before #[Value.ref b] s = true) (hX : va_X b 6 xs s s.heap) (hbl : b < s.heap.size) (hlocks : meth.locks = false) (hKK : KK G (tys6 cI cJ cZ cD cR cT) s) (hP : va_P G vwCl [(h0, .inr (11, [.ref h0_0, .ref h0_1, .ref h0_2, .ref h0_3, .int 0, .int 0, .ref h0_6, .ref h0_7, .ref h0_8, .int 0, .ref h0_10, .ref h0_11, .int 0, .ref h0_13, .int 0, .int 0])), (h0_10, .inl (cI, 3, .inl (fun _ => 0))), (h0_11, .inl (cI, 3, .inl (fun _ => 0))), (k0, .inr (12, [.int 0, .int 0, .ref k0_2, .ref k0_3, .ref k0_4, .ref k0_5, .int 0, .int 0, .int 0, .ref k0_9, .ref k0_10, .ref k0_11, .int 0, .int 0, .int 0, .int 0, .long 0, .int (-1), .int 0, .int 0, .ref k0_20, .int 0, .ref k0_22, .ref k0_23, .int 0, .ref k0_25, .ref k0_26, .int 0, .int 0, .ref k0_29, .ref k0_30, .ref k0_31, .ref k0_32, .int 0, .long 0, .long 0, .long 0, .long 0, .int 0, .ref k0_39, .ref k0_40, .int 0, .ref k0_42, .int 0, .ref k0_44, .ref k0_45, .int 0, .int 0, .int 0, .int 0, .int 0, .int 0])), (k0_44, .inl (cI, 3, .inl (fun _ => 0))), (k0_45, .inl (cI, 3, .inl (fun _ => 0)))] H) (hD : va_D (fun q : Nat => s.heap.size ≤ q) [(h0, .inr (11, [.ref h0_0, .ref h0_1, .ref h0_2, .ref h0_3, .int 0, .int 0, .ref h0_6, .ref h0_7, .ref h0_8, .int 0, .ref h0_10, .ref h0_11, .int 0, .ref h0_13, .int 0, .int 0])), (h0_10, .inl (cI, 3, .inl (fun _ => 0))), (h0_11, .inl (cI, 3, .inl (fun _ => 0))), (k0, .inr (12, [.int 0, .int 0, .ref k0_2, .ref k0_3, .ref k0_4, .ref k0_5, .int 0, .int 0, .int 0, .ref k0_9, .ref k0_10, .ref k0_11, .int 0, .int 0, .int 0, .int 0, .long 0, .int (-1), .int 0, .int 0, .ref k0_20, .int 0, .ref k0_22, .ref k0_23, .int 0, .ref k0_25, .ref k0_26, .int 0, .int 0, .ref k0_29, .ref k0_30, .ref k0_31, .ref k0_32, .int 0, .long 0, .long 0, .long 0, .long 0, .int 0, .ref k0_39, .ref k0_40, .int 0, .ref k0_42, .int 0, .ref k0_44, .ref k0_45, .int 0, .int 0, .int 0, .int 0, .int 0, .int 0])), (k0_44, .inl (cI, 3, .inl (fun _ => 0))), (k0_45, .inl (cI, 3, .inl (fun _ => 0)))]) (hS : va_S (fun q : Nat => s.heap.size ≤ q) s.heap H locs) (hl : lv_has ls 4 [(3, .int 0), (2, .ref k0), (1, .ref h0), (0, .ref b)]) : W p l e room_1 s m #[Value.ref b] below meth c H locs 221 158368 (lw_Z below #[Value.ref b] s) (F0 m 1401 ls []) := by
  have hK := hKK.1
  have hA : ∀ q : Nat, s.heap.size ≤ q → (fun q : Nat => s.heap.size ≤ q) q := fun _ h => h
  have hbA : ¬ (fun q : Nat => s.heap.size ≤ q) b := Nat.not_le.mpr hbl
  refine lv_aload_n hx hb dL_law_1401 rfl (lv_at hl 2 rfl) ?_
  refine lv_aload_n hx hb dL_law_1402 rfl (lv_at hl 3 rfl) ?_
  refine lv_iload_n hx hb dL_law_1403 rfl (lv_at hl 0 rfl) ?_
  refine lv_iconst (v := 1) hx hb dL_law_1404 (by decide) ?_
  refine lv_iadd hx hb dL_law_1405 ?_
  refine lv_topi (fun x1 ex1 => ?_)
  obtain rfl : 1 = x1 := (ex1.trans (by decide)).symm
  refine va_sld hx hb hX hbl hbA hS (vp_in_iff.mpr (by decide)) dL_law_1406 ?_
  refine lv_topi (fun x2 ex2 => ?_)
  obtain rfl : xs 1 = x2 := (ex2.trans rfl).symm
  refine lv_aload_n hx hb dL_law_1407 rfl (lv_at hl 3 rfl) ?_
  refine lv_iload_n hx hb dL_law_1408 rfl (lv_at hl 0 rfl) ?_
  refine lv_iconst (v := 2) hx hb dL_law_1409 (by decide) ?_
  refine lv_iadd hx hb dL_law_1410 ?_
  refine lv_topi (fun x3 ex3 => ?_)
  obtain rfl : 2 = x3 := (ex3.trans (by decide)).symm
  refine va_sld hx hb hX hbl hbA hS (vp_in_iff.mpr (by decide)) dL_law_1411 ?_
  refine lv_topi (fun x4 ex4 => ?_)
  obtain rfl : xs 2 = x4 := (ex4.trans rfl).symm
  refine goV (As := [.int (xs 1), .int (xs 2)]) (rest := []) (wr := [(k0, .inr (12, [.int 0, .int 0, .ref k0_2, .ref k0_3, .ref k0_4, .ref k0_5, .int 0, .int 0, .int 0, .ref k0_9, .ref k0_10, .ref k0_11, .int 0, .int 0, .int 0, .int 0, .long 0, .int (-1), .int 0, .int 0, .ref k0_20, .int 0, .ref k0_22, .ref k0_23, .int 0, .ref k0_25, .ref k0_26, .int 0, .int 0, .ref k0_29, .ref k0_30, .ref k0_31, .ref k0_32, .int 0, .long 0, .long 0, .long 0, .long 0, .int 0, .ref k0_39, .ref k0_40, .int 0, .ref k0_42, .int 0, .ref k0_44, .ref k0_45, .int 0, .int 0, .int 0, .int 0, .int 0, .int 0])), (k0_44, .inl (cI, 3, .inl (fun _ => 0))), (k0_45, .inl (cI, 3, .inl (fun _ => 0)))]) ⟨hx, hb, hml, hown, hts⟩ (c_X11_crops l G cI cJ cZ cD cR cT h0 (xs 1) (xs 2) h0_0 h0_1 h0_2 h0_3 h0_6 h0_7 h0_8 h0_10 h0_11 h0_13 _) (cwV 2 hts gv_law35_159_X11_crops rfl rfl rfl (by decide +kernel) ⟨Nat.le_of_ble_eq_true rfl, Nat.le_of_ble_eq_true rfl⟩) 0 rfl rfl rfl hKK hP hD hS hA [0, 1, 2] [3, 4, 5] rfl rfl (by decide +kernel) (by decide +kernel) (by decide +kernel) rfl hl.1 rfl (lv_room (Nat.le_of_ble_eq_true rfl)) dL_law_1412 ⟨Nat.le_of_ble_eq_true rfl, Nat.le_of_ble_eq_true rfl⟩ (fun v6 q5 gq5 H locs hv6 => appW (ws' := [(k0, .inr (12, [.int 0, .int 0, .ref k0_2, .ref k0_3, .ref k0_4, .ref k0_5, .int 0, .int 0, .int 0, .ref k0_9, .ref k0_10, .ref k0_11, .int 0, .int 0, .int 0, .int 0, .long 0, .int (-1), .int 0, .int 0, .ref k0_20, .int 0, .ref k0_22, .ref k0_23, .int 0, .ref k0_25, .ref k0_26, .int 0, .int 0, .ref k0_29, .ref k0_30, .ref k0_31, .ref k0_32, .int 0, .long 0, .long 0, .long 0, .long 0, .int 0, .ref k0_39, .ref k0_40, .int 0, .ref k0_42, .int 0, .ref k0_44, .ref k0_45, .int 0, .int 0, .int 0, .int 0, .int 0, .int 0])), (k0_44, .inl (cI, 3, .inl (fun _ => 0))), (k0_45, .inl (cI, 3, .inl (fun _ => 0)))]) rfl (fun hP hD hS => ?_))
  obtain ⟨r7, rfl, hr7⟩ := hv6
  refine lv_aload_n hx hb dL_law_1415 rfl (lv_at hl 1 rfl) ?_
  refine lv_aload_n hx hb dL_law_1416 rfl (lv_at hl 3 rfl) ?_
  refine lv_iload_n hx hb dL_law_1417 rfl (lv_at hl 0 rfl) ?_
  refine lv_iconst (v := 1) hx hb dL_law_1418 (by decide) ?_
  refine lv_iadd hx hb dL_law_1419 ?_
  refine lv_topi (fun x8 ex8 => ?_)
  obtain rfl : 1 = x8 := (ex8.trans (by decide)).symm
  refine va_sld hx hb hX hbl hbA hS (vp_in_iff.mpr (by decide)) dL_law_1420 ?_
  refine lv_topi (fun x9 ex9 => ?_)
  obtain rfl : xs 1 = x9 := (ex9.trans rfl).symm
  refine lv_aload_n hx hb dL_law_1421 rfl (lv_at hl 3 rfl) ?_
  refine lv_iload_n hx hb dL_law_1422 rfl (lv_at hl 0 rfl) ?_
  refine lv_iconst (v := 2) hx hb dL_law_1423 (by decide) ?_
  refine lv_iadd hx hb dL_law_1424 ?_
  refine lv_topi (fun x10 ex10 => ?_)
  obtain rfl : 2 = x10 := (ex10.trans (by decide)).symm
  refine va_sld hx hb hX hbl hbA hS (vp_in_iff.mpr (by decide)) dL_law_1425 ?_
  refine lv_topi (fun x11 ex11 => ?_)
  obtain rfl : xs 2 = x11 := (ex11.trans rfl).symm
  refine goV (As := [.int (xs 1), .int (xs 2)]) (rest := [.int r7]) (wr := []) ⟨hx, hb, hml, hown, hts⟩ (c_X12_crops l G cI cJ cZ cD cR cT k0 (xs 1) (xs 2) k0_2 k0_3 k0_4 k0_5 k0_9 k0_10 k0_11 k0_20 k0_22 k0_23 k0_25 k0_26 k0_29 k0_30 k0_31 k0_32 k0_39 k0_40 k0_42 k0_44 k0_45 _) (cwV 2 hts gv_law35_162_X12_crops rfl rfl rfl (by decide +kernel) ⟨Nat.le_of_ble_eq_true rfl, Nat.le_of_ble_eq_true rfl⟩) 0 rfl rfl rfl hKK hP hD hS hA [0, 1, 2] [] rfl rfl (by decide +kernel) (by decide +kernel) (by decide +kernel) rfl hl.1 rfl (lv_room (Nat.le_of_ble_eq_true rfl)) dL_law_1426 ⟨Nat.le_of_ble_eq_true rfl, Nat.le_of_ble_eq_true rfl⟩ (fun v13 q12 gq12 H locs hv13 => appW (ws' := []) rfl (fun hP hD hS => ?_))
  obtain ⟨r14, rfl, hr14⟩ := hv13
  refine lv_icmp_eq (tgt := 1678) hx hb dL_law_1429 (by decide) (fun _ => ?_) (fun c => absurd (hr7.trans hr14.symm) c)
  refine lv_iinc (v := 6) (lv' := [(3, .int 6), (2, .ref k0), (1, .ref h0), (0, .ref b)]) hx hb dL_law_1678 hl (k := 0) rfl (by decide) (by decide) rfl (fun ls hl => ?_)
  refine lv_goto (tgt := 18) hx hb dL_law_1681 (by decide) ?_
  refine lv_iload_n hx hb dL_law_18 rfl (lv_at hl 0 rfl) ?_
  refine lv_aload_n hx hb dL_law_19 rfl (lv_at hl 3 rfl) ?_
  refine va_slen hx hb hX hbl hbA hS dL_law_20 ?_
  refine lv_topi (fun x15 ex15 => ?_)
  obtain rfl : 6 = x15 := (ex15.trans rfl).symm
  refine lv_bipush (v := 6) hx hb dL_law_21 (by decide) ?_
  refine lv_isub hx hb dL_law_23 ?_
  refine lv_topi (fun x16 ex16 => ?_)
  obtain rfl : 0 = x16 := (ex16.trans (by decide)).symm
  refine lv_icmp_gt (tgt := 1684) hx hb dL_law_24 (by decide) (fun _ => ?_) (fun c => absurd c (by decide))
  refine lv_iconst (v := 1) hx hb dL_law_1684 (by decide) ?_
  refine va_forget (fun q h => hS.2.2 q h) ?_
  refine W.widen (k := 600000) (n := 7302250) (Nat.le_of_ble_eq_true rfl) (Nat.le_of_ble_eq_true rfl) ?_
  exact W.base (lw_ret (Drawn.sameBut.refl s.drawn lw_cs) hx hb hr hlocks dL_law_1685)
