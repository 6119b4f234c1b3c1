theorem dL_law_1053 : decode cL_law 1053 = .ok (.iconst 1, 1) := by decide +kernel
theorem dL_law_1054 : decode cL_law 1054 = .ok (.goto 4, 3) := by decide +kernel
theorem dL_law_1057 : decode cL_law 1057 = .ok (.iconst 0, 1) := by decide +kernel
theorem dL_law_1058 : decode cL_law 1058 = .ok (.invokevirtual 114, 3) := by decide +kernel
theorem dL_law_1061 : decode cL_law 1061 = .ok (.aload_n 2, 1) := by decide +kernel
theorem dL_law_1062 : decode cL_law 1062 = .ok (.aload_n 0, 1) := by decide +kernel
theorem dL_law_1063 : decode cL_law 1063 = .ok (.iload_n 3, 1) := by decide +kernel
theorem dL_law_1064 : decode cL_law 1064 = .ok (.iconst 1, 1) := by decide +kernel
theorem dL_law_1065 : decode cL_law 1065 = .ok (.iadd, 1) := by decide +kernel
theorem dL_law_1066 : decode cL_law 1066 = .ok (.iaload, 1) := by decide +kernel
theorem dL_law_1067 : decode cL_law 1067 = .ok (.aload_n 0, 1) := by decide +kernel
theorem dL_law_1068 : decode cL_law 1068 = .ok (.iload_n 3, 1) := by decide +kernel
theorem dL_law_1069 : decode cL_law 1069 = .ok (.iconst 2, 1) := by decide +kernel
theorem dL_law_1070 : decode cL_law 1070 = .ok (.iadd, 1) := by decide +kernel
theorem dL_law_1071 : decode cL_law 1071 = .ok (.iaload, 1) := by decide +kernel
theorem dL_law_1072 : decode cL_law 1072 = .ok (.ifCond .eq 7, 3) := by decide +kernel
theorem dL_law_1075 : decode cL_law 1075 = .ok (.iconst 1, 1) := by decide +kernel
theorem dL_law_1076 : decode cL_law 1076 = .ok (.goto 4, 3) := by decide +kernel
theorem dL_law_1079 : decode cL_law 1079 = .ok (.iconst 0, 1) := by decide +kernel
theorem dL_law_1080 : decode cL_law 1080 = .ok (.aload_n 0, 1) := by decide +kernel
theorem dL_law_1081 : decode cL_law 1081 = .ok (.iload_n 3, 1) := by decide +kernel
theorem dL_law_1082 : decode cL_law 1082 = .ok (.iconst 3, 1) := by decide +kernel
theorem dL_law_1083 : decode cL_law 1083 = .ok (.iadd, 1) := by decide +kernel
theorem dL_law_1084 : decode cL_law 1084 = .ok (.iaload, 1) := by decide +kernel
theorem dL_law_1085 : decode cL_law 1085 = .ok (.ifCond .eq 7, 3) := by decide +kernel
theorem dL_law_1088 : decode cL_law 1088 = .ok (.iconst 1, 1) := by decide +kernel
theorem dL_law_1089 : decode cL_law 1089 = .ok (.goto 4, 3) := by decide +kernel
theorem dL_law_1092 : decode cL_law 1092 = .ok (.iconst 0, 1) := by decide +kernel
theorem dL_law_1093 : decode cL_law 1093 = .ok (.invokevirtual 118, 3) := by decide +kernel
theorem dL_law_1096 : decode cL_law 1096 = .ok (.if_icmp .eq 226, 3) := by decide +kernel
theorem dL_law_1099 : decode cL_law 1099 = .ok (.iconst 0, 1) := by decide +kernel
theorem dL_law_1100 : decode cL_law 1100 = .ok (.ireturn, 1) := by decide +kernel
theorem dL_law_1101 : decode cL_law 1101 = .ok (.aload_n 1, 1) := by decide +kernel
theorem dL_law_1102 : decode cL_law 1102 = .ok (.aload_n 0, 1) := by decide +kernel
theorem dL_law_1103 : decode cL_law 1103 = .ok (.iload_n 3, 1) := by decide +kernel
theorem dL_law_1104 : decode cL_law 1104 = .ok (.iconst 1, 1) := by decide +kernel
theorem dL_law_1105 : decode cL_law 1105 = .ok (.iadd, 1) := by decide +kernel
theorem dL_law_1106 : decode cL_law 1106 = .ok (.iaload, 1) := by decide +kernel
theorem dL_law_1107 : decode cL_law 1107 = .ok (.aload_n 0, 1) := by decide +kernel
theorem dL_law_1108 : decode cL_law 1108 = .ok (.iload_n 3, 1) := by decide +kernel
theorem dL_law_1109 : decode cL_law 1109 = .ok (.iconst 2, 1) := by decide +kernel
theorem dL_law_1110 : decode cL_law 1110 = .ok (.iadd, 1) := by decide +kernel
theorem dL_law_1111 : decode cL_law 1111 = .ok (.iaload, 1) := by decide +kernel
theorem dL_law_1112 : decode cL_law 1112 = .ok (.ifCond .eq 7, 3) := by decide +kernel
theorem dL_law_1115 : decode cL_law 1115 = .ok (.iconst 1, 1) := by decide +kernel
theorem dL_law_1116 : decode cL_law 1116 = .ok (.goto 4, 3) := by decide +kernel
theorem dL_law_1119 : decode cL_law 1119 = .ok (.iconst 0, 1) := by decide +kernel
theorem dL_law_1120 : decode cL_law 1120 = .ok (.aload_n 0, 1) := by decide +kernel
theorem dL_law_1121 : decode cL_law 1121 = .ok (.iload_n 3, 1) := by decide +kernel
theorem dL_law_1122 : decode cL_law 1122 = .ok (.iconst 3, 1) := by decide +kernel
theorem dL_law_1123 : decode cL_law 1123 = .ok (.iadd, 1) := by decide +kernel
theorem dL_law_1124 : decode cL_law 1124 = .ok (.iaload, 1) := by decide +kernel
theorem dL_law_1125 : decode cL_law 1125 = .ok (.ifCond .eq 7, 3) := by decide +kernel
theorem dL_law_1128 : decode cL_law 1128 = .ok (.iconst 1, 1) := by decide +kernel
theorem dL_law_1129 : decode cL_law 1129 = .ok (.goto 4, 3) := by decide +kernel
theorem dL_law_1132 : decode cL_law 1132 = .ok (.iconst 0, 1) := by decide +kernel
theorem dL_law_1133 : decode cL_law 1133 = .ok (.invokevirtual 119, 3) := by decide +kernel
theorem dL_law_1136 : decode cL_law 1136 = .ok (.aload_n 2, 1) := by decide +kernel
theorem dL_law_1137 : decode cL_law 1137 = .ok (.aload_n 0, 1) := by decide +kernel
theorem dL_law_1138 : decode cL_law 1138 = .ok (.iload_n 3, 1) := by decide +kernel
theorem dL_law_1139 : decode cL_law 1139 = .ok (.iconst 1, 1) := by decide +kernel
theorem dL_law_1140 : decode cL_law 1140 = .ok (.iadd, 1) := by decide +kernel
theorem dL_law_1141 : decode cL_law 1141 = .ok (.iaload, 1) := by decide +kernel
theorem dL_law_1142 : decode cL_law 1142 = .ok (.aload_n 0, 1) := by decide +kernel
theorem dL_law_1143 : decode cL_law 1143 = .ok (.iload_n 3, 1) := by decide +kernel
theorem dL_law_1144 : decode cL_law 1144 = .ok (.iconst 2, 1) := by decide +kernel
theorem dL_law_1145 : decode cL_law 1145 = .ok (.iadd, 1) := by decide +kernel
theorem dL_law_1146 : decode cL_law 1146 = .ok (.iaload, 1) := by decide +kernel
theorem dL_law_1147 : decode cL_law 1147 = .ok (.ifCond .eq 7, 3) := by decide +kernel
theorem dL_law_1150 : decode cL_law 1150 = .ok (.iconst 1, 1) := by decide +kernel
theorem dL_law_1151 : decode cL_law 1151 = .ok (.goto 4, 3) := by decide +kernel
theorem dL_law_1154 : decode cL_law 1154 = .ok (.iconst 0, 1) := by decide +kernel
theorem dL_law_1155 : decode cL_law 1155 = .ok (.aload_n 0, 1) := by decide +kernel
theorem dL_law_1156 : decode cL_law 1156 = .ok (.iload_n 3, 1) := by decide +kernel
theorem dL_law_1157 : decode cL_law 1157 = .ok (.iconst 3, 1) := by decide +kernel
theorem dL_law_1158 : decode cL_law 1158 = .ok (.iadd, 1) := by decide +kernel
theorem dL_law_1159 : decode cL_law 1159 = .ok (.iaload, 1) := by decide +kernel
theorem dL_law_1160 : decode cL_law 1160 = .ok (.ifCond .eq 7, 3) := by decide +kernel
theorem dL_law_1163 : decode cL_law 1163 = .ok (.iconst 1, 1) := by decide +kernel
theorem dL_law_1164 : decode cL_law 1164 = .ok (.goto 4, 3) := by decide +kernel
theorem dL_law_1167 : decode cL_law 1167 = .ok (.iconst 0, 1) := by decide +kernel
theorem dL_law_1168 : decode cL_law 1168 = .ok (.invokevirtual 122, 3) := by decide +kernel
theorem dL_law_1171 : decode cL_law 1171 = .ok (.if_icmp .eq 151, 3) := by decide +kernel
theorem dL_law_1174 : decode cL_law 1174 = .ok (.iconst 0, 1) := by decide +kernel
theorem dL_law_1175 : decode cL_law 1175 = .ok (.ireturn, 1) := by decide +kernel
theorem dL_law_1176 : decode cL_law 1176 = .ok (.aload_n 1, 1) := by decide +kernel
theorem dL_law_1177 : decode cL_law 1177 = .ok (.aload_n 0, 1) := by decide +kernel
theorem dL_law_1178 : decode cL_law 1178 = .ok (.iload_n 3, 1) := by decide +kernel
theorem dL_law_1179 : decode cL_law 1179 = .ok (.iconst 1, 1) := by decide +kernel
theorem dL_law_1180 : decode cL_law 1180 = .ok (.iadd, 1) := by decide +kernel
theorem dL_law_1181 : decode cL_law 1181 = .ok (.iaload, 1) := by decide +kernel
theorem dL_law_1182 : decode cL_law 1182 = .ok (.i2l, 1) := by decide +kernel
theorem dL_law_1183 : decode cL_law 1183 = .ok (.bipush 32, 2) := by decide +kernel
theorem dL_law_1185 : decode cL_law 1185 = .ok (.lshl, 1) := by decide +kernel
theorem dL_law_1186 : decode cL_law 1186 = .ok (.aload_n 0, 1) := by decide +kernel
theorem dL_law_1187 : decode cL_law 1187 = .ok (.iload_n 3, 1) := by decide +kernel
theorem dL_law_1188 : decode cL_law 1188 = .ok (.iconst 2, 1) := by decide +kernel
theorem dL_law_1189 : decode cL_law 1189 = .ok (.iadd, 1) := by decide +kernel
theorem dL_law_1190 : decode cL_law 1190 = .ok (.iaload, 1) := by decide +kernel
theorem dL_law_1191 : decode cL_law 1191 = .ok (.i2l, 1) := by decide +kernel
theorem dL_law_1192 : decode cL_law 1192 = .ok (.ldc2_w 107, 3) := by decide +kernel
theorem dL_law_1195 : decode cL_law 1195 = .ok (.land, 1) := by decide +kernel
theorem dL_law_1196 : decode cL_law 1196 = .ok (.lor, 1) := by decide +kernel
theorem dL_law_1197 : decode cL_law 1197 = .ok (.invokevirtual 123, 3) := by decide +kernel
theorem dL_law_1200 : decode cL_law 1200 = .ok (.aload_n 2, 1) := by decide +kernel
theorem dL_law_1201 : decode cL_law 1201 = .ok (.aload_n 0, 1) := by decide +kernel
theorem dL_law_1202 : decode cL_law 1202 = .ok (.iload_n 3, 1) := by decide +kernel
theorem dL_law_1203 : decode cL_law 1203 = .ok (.iconst 1, 1) := by decide +kernel
theorem dL_law_1204 : decode cL_law 1204 = .ok (.iadd, 1) := by decide +kernel
theorem dL_law_1205 : decode cL_law 1205 = .ok (.iaload, 1) := by decide +kernel
theorem dL_law_1206 : decode cL_law 1206 = .ok (.i2l, 1) := by decide +kernel
theorem dL_law_1207 : decode cL_law 1207 = .ok (.bipush 32, 2) := by decide +kernel
theorem dL_law_1209 : decode cL_law 1209 = .ok (.lshl, 1) := by decide +kernel
theorem dL_law_1210 : decode cL_law 1210 = .ok (.aload_n 0, 1) := by decide +kernel
theorem dL_law_1211 : decode cL_law 1211 = .ok (.iload_n 3, 1) := by decide +kernel
theorem dL_law_1212 : decode cL_law 1212 = .ok (.iconst 2, 1) := by decide +kernel
theorem dL_law_1213 : decode cL_law 1213 = .ok (.iadd, 1) := by decide +kernel
theorem dL_law_1214 : decode cL_law 1214 = .ok (.iaload, 1) := by decide +kernel
theorem dL_law_1215 : decode cL_law 1215 = .ok (.i2l, 1) := by decide +kernel
theorem dL_law_1216 : decode cL_law 1216 = .ok (.ldc2_w 107, 3) := by decide +kernel
theorem dL_law_1219 : decode cL_law 1219 = .ok (.land, 1) := by decide +kernel
theorem dL_law_1220 : decode cL_law 1220 = .ok (.lor, 1) := by decide +kernel
theorem dL_law_1221 : decode cL_law 1221 = .ok (.invokevirtual 127, 3) := by decide +kernel
theorem dL_law_1224 : decode cL_law 1224 = .ok (.lcmp, 1) := by decide +kernel
theorem dL_law_1225 : decode cL_law 1225 = .ok (.ifCond .eq 97, 3) := by decide +kernel
theorem dL_law_1228 : decode cL_law 1228 = .ok (.iconst 0, 1) := by decide +kernel
theorem dL_law_1229 : decode cL_law 1229 = .ok (.ireturn, 1) := by decide +kernel
theorem dL_law_1230 : decode cL_law 1230 = .ok (.aload_n 1, 1) := by decide +kernel
theorem dL_law_1231 : decode cL_law 1231 = .ok (.aload_n 0, 1) := by decide +kernel
theorem dL_law_1232 : decode cL_law 1232 = .ok (.iload_n 3, 1) := by decide +kernel
theorem dL_law_1233 : decode cL_law 1233 = .ok (.iconst 1, 1) := by decide +kernel
theorem dL_law_1234 : decode cL_law 1234 = .ok (.iadd, 1) := by decide +kernel
theorem dL_law_1235 : decode cL_law 1235 = .ok (.iaload, 1) := by decide +kernel
theorem dL_law_1236 : decode cL_law 1236 = .ok (.invokevirtual 128, 3) := by decide +kernel
theorem dL_law_1239 : decode cL_law 1239 = .ok (.aload_n 2, 1) := by decide +kernel
theorem dL_law_1240 : decode cL_law 1240 = .ok (.aload_n 0, 1) := by decide +kernel
theorem dL_law_1241 : decode cL_law 1241 = .ok (.iload_n 3, 1) := by decide +kernel
theorem dL_law_1242 : decode cL_law 1242 = .ok (.iconst 1, 1) := by decide +kernel
theorem dL_law_1243 : decode cL_law 1243 = .ok (.iadd, 1) := by decide +kernel
theorem dL_law_1244 : decode cL_law 1244 = .ok (.iaload, 1) := by decide +kernel
theorem dL_law_1245 : decode cL_law 1245 = .ok (.invokevirtual 131, 3) := by decide +kernel
theorem dL_law_1248 : decode cL_law 1248 = .ok (.if_icmp .eq 74, 3) := by decide +kernel
theorem dL_law_1251 : decode cL_law 1251 = .ok (.iconst 0, 1) := by decide +kernel
theorem dL_law_1252 : decode cL_law 1252 = .ok (.ireturn, 1) := by decide +kernel
theorem dL_law_1253 : decode cL_law 1253 = .ok (.aload_n 1, 1) := by decide +kernel
theorem dL_law_1254 : decode cL_law 1254 = .ok (.aload_n 0, 1) := by decide +kernel
theorem dL_law_1255 : decode cL_law 1255 = .ok (.iload_n 3, 1) := by decide +kernel
theorem dL_law_1256 : decode cL_law 1256 = .ok (.iconst 1, 1) := by decide +kernel
theorem dL_law_1257 : decode cL_law 1257 = .ok (.iadd, 1) := by decide +kernel
theorem dL_law_1258 : decode cL_law 1258 = .ok (.iaload, 1) := by decide +kernel
theorem dL_law_1259 : decode cL_law 1259 = .ok (.invokevirtual 132, 3) := by decide +kernel
theorem dL_law_1262 : decode cL_law 1262 = .ok (.aload_n 2, 1) := by decide +kernel
theorem dL_law_1263 : decode cL_law 1263 = .ok (.aload_n 0, 1) := by decide +kernel
theorem dL_law_1264 : decode cL_law 1264 = .ok (.iload_n 3, 1) := by decide +kernel
theorem dL_law_1265 : decode cL_law 1265 = .ok (.iconst 1, 1) := by decide +kernel
theorem dL_law_1266 : decode cL_law 1266 = .ok (.iadd, 1) := by decide +kernel
theorem dL_law_1267 : decode cL_law 1267 = .ok (.iaload, 1) := by decide +kernel
theorem dL_law_1268 : decode cL_law 1268 = .ok (.invokevirtual 135, 3) := by decide +kernel
theorem dL_law_1271 : decode cL_law 1271 = .ok (.if_icmp .eq 51, 3) := by decide +kernel
theorem dL_law_1274 : decode cL_law 1274 = .ok (.iconst 0, 1) := by decide +kernel
theorem dL_law_1275 : decode cL_law 1275 = .ok (.ireturn, 1) := by decide +kernel
theorem dL_law_1276 : decode cL_law 1276 = .ok (.aload_n 1, 1) := by decide +kernel
theorem dL_law_1277 : decode cL_law 1277 = .ok (.aload_n 0, 1) := by decide +kernel
theorem dL_law_1278 : decode cL_law 1278 = .ok (.iload_n 3, 1) := by decide +kernel
theorem dL_law_1279 : decode cL_law 1279 = .ok (.iconst 1, 1) := by decide +kernel
theorem dL_law_1280 : decode cL_law 1280 = .ok (.iadd, 1) := by decide +kernel
theorem dL_law_1281 : decode cL_law 1281 = .ok (.iaload, 1) := by decide +kernel
theorem dL_law_1282 : decode cL_law 1282 = .ok (.invokevirtual 136, 3) := by decide +kernel
theorem dL_law_1285 : decode cL_law 1285 = .ok (.aload_n 2, 1) := by decide +kernel
theorem dL_law_1286 : decode cL_law 1286 = .ok (.aload_n 0, 1) := by decide +kernel
theorem dL_law_1287 : decode cL_law 1287 = .ok (.iload_n 3, 1) := by decide +kernel
theorem dL_law_1288 : decode cL_law 1288 = .ok (.iconst 1, 1) := by decide +kernel
theorem dL_law_1289 : decode cL_law 1289 = .ok (.iadd, 1) := by decide +kernel
theorem dL_law_1290 : decode cL_law 1290 = .ok (.iaload, 1) := by decide +kernel
theorem dL_law_1291 : decode cL_law 1291 = .ok (.invokevirtual 139, 3) := by decide +kernel
theorem dL_law_1294 : decode cL_law 1294 = .ok (.if_icmp .eq 28, 3) := by decide +kernel
theorem dL_law_1297 : decode cL_law 1297 = .ok (.iconst 0, 1) := by decide +kernel
theorem dL_law_1298 : decode cL_law 1298 = .ok (.ireturn, 1) := by decide +kernel
theorem dL_law_1299 : decode cL_law 1299 = .ok (.aload_n 1, 1) := by decide +kernel
theorem dL_law_1300 : decode cL_law 1300 = .ok (.aload_n 0, 1) := by decide +kernel
theorem dL_law_1301 : decode cL_law 1301 = .ok (.iload_n 3, 1) := by decide +kernel
theorem dL_law_1302 : decode cL_law 1302 = .ok (.iconst 1, 1) := by decide +kernel
theorem dL_law_1303 : decode cL_law 1303 = .ok (.iadd, 1) := by decide +kernel
theorem dL_law_1304 : decode cL_law 1304 = .ok (.iaload, 1) := by decide +kernel
theorem dL_law_1305 : decode cL_law 1305 = .ok (.invokevirtual 140, 3) := by decide +kernel
theorem dL_law_1308 : decode cL_law 1308 = .ok (.aload_n 2, 1) := by decide +kernel
theorem dL_law_1309 : decode cL_law 1309 = .ok (.aload_n 0, 1) := by decide +kernel
theorem dL_law_1310 : decode cL_law 1310 = .ok (.iload_n 3, 1) := by decide +kernel
theorem dL_law_1311 : decode cL_law 1311 = .ok (.iconst 1, 1) := by decide +kernel
theorem dL_law_1312 : decode cL_law 1312 = .ok (.iadd, 1) := by decide +kernel
theorem dL_law_1313 : decode cL_law 1313 = .ok (.iaload, 1) := by decide +kernel
theorem dL_law_1314 : decode cL_law 1314 = .ok (.invokevirtual 143, 3) := by decide +kernel
theorem dL_law_1317 : decode cL_law 1317 = .ok (.if_icmp .eq 5, 3) := by decide +kernel
theorem dL_law_1320 : decode cL_law 1320 = .ok (.iconst 0, 1) := by decide +kernel
theorem dL_law_1321 : decode cL_law 1321 = .ok (.ireturn, 1) := by decide +kernel
theorem dL_law_1322 : decode cL_law 1322 = .ok (.iinc 3 4, 3) := by decide +kernel
theorem dL_law_1325 : decode cL_law 1325 = .ok (.goto (-1307), 3) := by decide +kernel
theorem dL_law_1328 : decode cL_law 1328 = .ok (.iconst 1, 1) := by decide +kernel
theorem dL_law_1329 : decode cL_law 1329 = .ok (.ireturn, 1) := by decide +kernel
