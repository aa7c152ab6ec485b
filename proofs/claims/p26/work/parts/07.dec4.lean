theorem dL_day_1133 : decode cL_day 1133 = .ok (.laload, 1) := by decide +kernel
theorem dL_day_1134 : decode cL_day 1134 = .ok (.lcmp, 1) := by decide +kernel
theorem dL_day_1135 : decode cL_day 1135 = .ok (.ifCond .ne 25, 3) := by decide +kernel
theorem dL_day_1138 : decode cL_day 1138 = .ok (.aload_n 0, 1) := by decide +kernel
theorem dL_day_1139 : decode cL_day 1139 = .ok (.bipush 9, 2) := by decide +kernel
theorem dL_day_1141 : decode cL_day 1141 = .ok (.invokevirtual 50, 3) := by decide +kernel
theorem dL_day_1144 : decode cL_day 1144 = .ok (.iload 31, 2) := by decide +kernel
theorem dL_day_1146 : decode cL_day 1146 = .ok (.if_icmp .ne 14, 3) := by decide +kernel
theorem dL_day_1149 : decode cL_day 1149 = .ok (.aload_n 0, 1) := by decide +kernel
theorem dL_day_1150 : decode cL_day 1150 = .ok (.iconst 2, 1) := by decide +kernel
theorem dL_day_1151 : decode cL_day 1151 = .ok (.invokevirtual 61, 3) := by decide +kernel
theorem dL_day_1154 : decode cL_day 1154 = .ok (.lload 26, 2) := by decide +kernel
theorem dL_day_1156 : decode cL_day 1156 = .ok (.lcmp, 1) := by decide +kernel
theorem dL_day_1157 : decode cL_day 1157 = .ok (.ifCond .eq 5, 3) := by decide +kernel
theorem dL_day_1160 : decode cL_day 1160 = .ok (.iconst 0, 1) := by decide +kernel
theorem dL_day_1161 : decode cL_day 1161 = .ok (.ireturn, 1) := by decide +kernel
theorem dL_day_1162 : decode cL_day 1162 = .ok (.iconst 0, 1) := by decide +kernel
theorem dL_day_1163 : decode cL_day 1163 = .ok (.istore 32, 2) := by decide +kernel
theorem dL_day_1165 : decode cL_day 1165 = .ok (.iload 32, 2) := by decide +kernel
theorem dL_day_1167 : decode cL_day 1167 = .ok (.bipush 6, 2) := by decide +kernel
theorem dL_day_1169 : decode cL_day 1169 = .ok (.if_icmp .ge 62, 3) := by decide +kernel
theorem dL_day_1172 : decode cL_day 1172 = .ok (.aload_n 0, 1) := by decide +kernel
theorem dL_day_1173 : decode cL_day 1173 = .ok (.iload 32, 2) := by decide +kernel
theorem dL_day_1175 : decode cL_day 1175 = .ok (.iconst 0, 1) := by decide +kernel
theorem dL_day_1176 : decode cL_day 1176 = .ok (.invokevirtual 47, 3) := by decide +kernel
theorem dL_day_1179 : decode cL_day 1179 = .ok (.i2l, 1) := by decide +kernel
theorem dL_day_1180 : decode cL_day 1180 = .ok (.aload 5, 2) := by decide +kernel
theorem dL_day_1182 : decode cL_day 1182 = .ok (.iload 32, 2) := by decide +kernel
theorem dL_day_1184 : decode cL_day 1184 = .ok (.laload, 1) := by decide +kernel
theorem dL_day_1185 : decode cL_day 1185 = .ok (.lcmp, 1) := by decide +kernel
theorem dL_day_1186 : decode cL_day 1186 = .ok (.ifCond .ne 37, 3) := by decide +kernel
theorem dL_day_1189 : decode cL_day 1189 = .ok (.aload_n 0, 1) := by decide +kernel
theorem dL_day_1190 : decode cL_day 1190 = .ok (.iload 32, 2) := by decide +kernel
theorem dL_day_1192 : decode cL_day 1192 = .ok (.iconst 5, 1) := by decide +kernel
theorem dL_day_1193 : decode cL_day 1193 = .ok (.invokevirtual 47, 3) := by decide +kernel
theorem dL_day_1196 : decode cL_day 1196 = .ok (.i2l, 1) := by decide +kernel
theorem dL_day_1197 : decode cL_day 1197 = .ok (.aload 6, 2) := by decide +kernel
theorem dL_day_1199 : decode cL_day 1199 = .ok (.iload 32, 2) := by decide +kernel
theorem dL_day_1201 : decode cL_day 1201 = .ok (.laload, 1) := by decide +kernel
theorem dL_day_1202 : decode cL_day 1202 = .ok (.lcmp, 1) := by decide +kernel
theorem dL_day_1203 : decode cL_day 1203 = .ok (.ifCond .ne 20, 3) := by decide +kernel
theorem dL_day_1206 : decode cL_day 1206 = .ok (.aload_n 0, 1) := by decide +kernel
theorem dL_day_1207 : decode cL_day 1207 = .ok (.iload 32, 2) := by decide +kernel
theorem dL_day_1209 : decode cL_day 1209 = .ok (.iconst 4, 1) := by decide +kernel
theorem dL_day_1210 : decode cL_day 1210 = .ok (.invokevirtual 47, 3) := by decide +kernel
theorem dL_day_1213 : decode cL_day 1213 = .ok (.i2l, 1) := by decide +kernel
theorem dL_day_1214 : decode cL_day 1214 = .ok (.aload 7, 2) := by decide +kernel
theorem dL_day_1216 : decode cL_day 1216 = .ok (.iload 32, 2) := by decide +kernel
theorem dL_day_1218 : decode cL_day 1218 = .ok (.laload, 1) := by decide +kernel
theorem dL_day_1219 : decode cL_day 1219 = .ok (.lcmp, 1) := by decide +kernel
theorem dL_day_1220 : decode cL_day 1220 = .ok (.ifCond .eq 5, 3) := by decide +kernel
theorem dL_day_1223 : decode cL_day 1223 = .ok (.iconst 0, 1) := by decide +kernel
theorem dL_day_1224 : decode cL_day 1224 = .ok (.ireturn, 1) := by decide +kernel
theorem dL_day_1225 : decode cL_day 1225 = .ok (.iinc 32 1, 3) := by decide +kernel
theorem dL_day_1228 : decode cL_day 1228 = .ok (.goto (-63), 3) := by decide +kernel
theorem dL_day_1231 : decode cL_day 1231 = .ok (.iconst 0, 1) := by decide +kernel
theorem dL_day_1232 : decode cL_day 1232 = .ok (.istore 32, 2) := by decide +kernel
theorem dL_day_1234 : decode cL_day 1234 = .ok (.iconst 0, 1) := by decide +kernel
theorem dL_day_1235 : decode cL_day 1235 = .ok (.istore 33, 2) := by decide +kernel
theorem dL_day_1237 : decode cL_day 1237 = .ok (.iload 33, 2) := by decide +kernel
theorem dL_day_1239 : decode cL_day 1239 = .ok (.iload_n 2, 1) := by decide +kernel
theorem dL_day_1240 : decode cL_day 1240 = .ok (.if_icmp .ge 58, 3) := by decide +kernel
theorem dL_day_1243 : decode cL_day 1243 = .ok (.aload 9, 2) := by decide +kernel
theorem dL_day_1245 : decode cL_day 1245 = .ok (.iload 33, 2) := by decide +kernel
theorem dL_day_1247 : decode cL_day 1247 = .ok (.laload, 1) := by decide +kernel
theorem dL_day_1248 : decode cL_day 1248 = .ok (.lconst 0, 1) := by decide +kernel
theorem dL_day_1249 : decode cL_day 1249 = .ok (.lcmp, 1) := by decide +kernel
theorem dL_day_1250 : decode cL_day 1250 = .ok (.ifCond .le 42, 3) := by decide +kernel
theorem dL_day_1253 : decode cL_day 1253 = .ok (.aload_n 0, 1) := by decide +kernel
theorem dL_day_1254 : decode cL_day 1254 = .ok (.iconst 1, 1) := by decide +kernel
theorem dL_day_1255 : decode cL_day 1255 = .ok (.iload 32, 2) := by decide +kernel
theorem dL_day_1257 : decode cL_day 1257 = .ok (.iconst 0, 1) := by decide +kernel
theorem dL_day_1258 : decode cL_day 1258 = .ok (.invokevirtual 54, 3) := by decide +kernel
theorem dL_day_1261 : decode cL_day 1261 = .ok (.aload 10, 2) := by decide +kernel
theorem dL_day_1263 : decode cL_day 1263 = .ok (.iload 33, 2) := by decide +kernel
theorem dL_day_1265 : decode cL_day 1265 = .ok (.iaload, 1) := by decide +kernel
theorem dL_day_1266 : decode cL_day 1266 = .ok (.if_icmp .ne 21, 3) := by decide +kernel
theorem dL_day_1269 : decode cL_day 1269 = .ok (.aload_n 0, 1) := by decide +kernel
theorem dL_day_1270 : decode cL_day 1270 = .ok (.iconst 1, 1) := by decide +kernel
theorem dL_day_1271 : decode cL_day 1271 = .ok (.iload 32, 2) := by decide +kernel
theorem dL_day_1273 : decode cL_day 1273 = .ok (.iconst 1, 1) := by decide +kernel
theorem dL_day_1274 : decode cL_day 1274 = .ok (.invokevirtual 54, 3) := by decide +kernel
theorem dL_day_1277 : decode cL_day 1277 = .ok (.i2l, 1) := by decide +kernel
theorem dL_day_1278 : decode cL_day 1278 = .ok (.aload 9, 2) := by decide +kernel
theorem dL_day_1280 : decode cL_day 1280 = .ok (.iload 33, 2) := by decide +kernel
theorem dL_day_1282 : decode cL_day 1282 = .ok (.laload, 1) := by decide +kernel
theorem dL_day_1283 : decode cL_day 1283 = .ok (.lcmp, 1) := by decide +kernel
theorem dL_day_1284 : decode cL_day 1284 = .ok (.ifCond .eq 5, 3) := by decide +kernel
theorem dL_day_1287 : decode cL_day 1287 = .ok (.iconst 0, 1) := by decide +kernel
theorem dL_day_1288 : decode cL_day 1288 = .ok (.ireturn, 1) := by decide +kernel
theorem dL_day_1289 : decode cL_day 1289 = .ok (.iinc 32 1, 3) := by decide +kernel
theorem dL_day_1292 : decode cL_day 1292 = .ok (.iinc 33 1, 3) := by decide +kernel
theorem dL_day_1295 : decode cL_day 1295 = .ok (.goto (-58), 3) := by decide +kernel
theorem dL_day_1298 : decode cL_day 1298 = .ok (.aload_n 0, 1) := by decide +kernel
theorem dL_day_1299 : decode cL_day 1299 = .ok (.bipush 10, 2) := by decide +kernel
theorem dL_day_1301 : decode cL_day 1301 = .ok (.invokevirtual 50, 3) := by decide +kernel
theorem dL_day_1304 : decode cL_day 1304 = .ok (.iload 32, 2) := by decide +kernel
theorem dL_day_1306 : decode cL_day 1306 = .ok (.if_icmp .ne 91, 3) := by decide +kernel
theorem dL_day_1309 : decode cL_day 1309 = .ok (.aload_n 0, 1) := by decide +kernel
theorem dL_day_1310 : decode cL_day 1310 = .ok (.iconst 0, 1) := by decide +kernel
theorem dL_day_1311 : decode cL_day 1311 = .ok (.invokevirtual 58, 3) := by decide +kernel
theorem dL_day_1314 : decode cL_day 1314 = .ok (.i2l, 1) := by decide +kernel
theorem dL_day_1315 : decode cL_day 1315 = .ok (.aload 4, 2) := by decide +kernel
theorem dL_day_1317 : decode cL_day 1317 = .ok (.iconst 3, 1) := by decide +kernel
theorem dL_day_1318 : decode cL_day 1318 = .ok (.laload, 1) := by decide +kernel
theorem dL_day_1319 : decode cL_day 1319 = .ok (.lcmp, 1) := by decide +kernel
theorem dL_day_1320 : decode cL_day 1320 = .ok (.ifCond .ne 77, 3) := by decide +kernel
theorem dL_day_1323 : decode cL_day 1323 = .ok (.aload_n 0, 1) := by decide +kernel
theorem dL_day_1324 : decode cL_day 1324 = .ok (.iconst 1, 1) := by decide +kernel
theorem dL_day_1325 : decode cL_day 1325 = .ok (.invokevirtual 58, 3) := by decide +kernel
theorem dL_day_1328 : decode cL_day 1328 = .ok (.i2l, 1) := by decide +kernel
theorem dL_day_1329 : decode cL_day 1329 = .ok (.aload 4, 2) := by decide +kernel
theorem dL_day_1331 : decode cL_day 1331 = .ok (.iconst 4, 1) := by decide +kernel
theorem dL_day_1332 : decode cL_day 1332 = .ok (.laload, 1) := by decide +kernel
theorem dL_day_1333 : decode cL_day 1333 = .ok (.lcmp, 1) := by decide +kernel
theorem dL_day_1334 : decode cL_day 1334 = .ok (.ifCond .ne 63, 3) := by decide +kernel
theorem dL_day_1337 : decode cL_day 1337 = .ok (.aload_n 0, 1) := by decide +kernel
theorem dL_day_1338 : decode cL_day 1338 = .ok (.iconst 2, 1) := by decide +kernel
theorem dL_day_1339 : decode cL_day 1339 = .ok (.invokevirtual 58, 3) := by decide +kernel
theorem dL_day_1342 : decode cL_day 1342 = .ok (.i2l, 1) := by decide +kernel
theorem dL_day_1343 : decode cL_day 1343 = .ok (.aload 4, 2) := by decide +kernel
theorem dL_day_1345 : decode cL_day 1345 = .ok (.iconst 5, 1) := by decide +kernel
theorem dL_day_1346 : decode cL_day 1346 = .ok (.laload, 1) := by decide +kernel
theorem dL_day_1347 : decode cL_day 1347 = .ok (.lcmp, 1) := by decide +kernel
theorem dL_day_1348 : decode cL_day 1348 = .ok (.ifCond .ne 49, 3) := by decide +kernel
theorem dL_day_1351 : decode cL_day 1351 = .ok (.aload_n 0, 1) := by decide +kernel
theorem dL_day_1352 : decode cL_day 1352 = .ok (.iconst 3, 1) := by decide +kernel
theorem dL_day_1353 : decode cL_day 1353 = .ok (.invokevirtual 58, 3) := by decide +kernel
theorem dL_day_1356 : decode cL_day 1356 = .ok (.iload 25, 2) := by decide +kernel
theorem dL_day_1358 : decode cL_day 1358 = .ok (.if_icmp .ne 39, 3) := by decide +kernel
theorem dL_day_1361 : decode cL_day 1361 = .ok (.aload_n 0, 1) := by decide +kernel
theorem dL_day_1362 : decode cL_day 1362 = .ok (.iconst 4, 1) := by decide +kernel
theorem dL_day_1363 : decode cL_day 1363 = .ok (.invokevirtual 58, 3) := by decide +kernel
theorem dL_day_1366 : decode cL_day 1366 = .ok (.i2l, 1) := by decide +kernel
theorem dL_day_1367 : decode cL_day 1367 = .ok (.lload 13, 2) := by decide +kernel
theorem dL_day_1369 : decode cL_day 1369 = .ok (.aload 4, 2) := by decide +kernel
theorem dL_day_1371 : decode cL_day 1371 = .ok (.iconst 4, 1) := by decide +kernel
theorem dL_day_1372 : decode cL_day 1372 = .ok (.laload, 1) := by decide +kernel
theorem dL_day_1373 : decode cL_day 1373 = .ok (.lsub, 1) := by decide +kernel
theorem dL_day_1374 : decode cL_day 1374 = .ok (.lcmp, 1) := by decide +kernel
theorem dL_day_1375 : decode cL_day 1375 = .ok (.ifCond .ne 22, 3) := by decide +kernel
theorem dL_day_1378 : decode cL_day 1378 = .ok (.aload_n 0, 1) := by decide +kernel
theorem dL_day_1379 : decode cL_day 1379 = .ok (.iconst 5, 1) := by decide +kernel
theorem dL_day_1380 : decode cL_day 1380 = .ok (.invokevirtual 58, 3) := by decide +kernel
theorem dL_day_1383 : decode cL_day 1383 = .ok (.i2l, 1) := by decide +kernel
theorem dL_day_1384 : decode cL_day 1384 = .ok (.aload 4, 2) := by decide +kernel
theorem dL_day_1386 : decode cL_day 1386 = .ok (.bipush 6, 2) := by decide +kernel
theorem dL_day_1388 : decode cL_day 1388 = .ok (.laload, 1) := by decide +kernel
theorem dL_day_1389 : decode cL_day 1389 = .ok (.lcmp, 1) := by decide +kernel
theorem dL_day_1390 : decode cL_day 1390 = .ok (.ifCond .ne 7, 3) := by decide +kernel
theorem dL_day_1393 : decode cL_day 1393 = .ok (.iconst 1, 1) := by decide +kernel
theorem dL_day_1394 : decode cL_day 1394 = .ok (.goto 4, 3) := by decide +kernel
theorem dL_day_1397 : decode cL_day 1397 = .ok (.iconst 0, 1) := by decide +kernel
theorem dL_day_1398 : decode cL_day 1398 = .ok (.ireturn, 1) := by decide +kernel
theorem dL_type_0 : decode cL_type 0 = .ok (.iload_n 1, 1) := by decide +kernel
theorem dL_type_1 : decode cL_type 1 = .ok (.i2l, 1) := by decide +kernel
theorem dL_type_2 : decode cL_type 2 = .ok (.lstore 9, 2) := by decide +kernel
theorem dL_type_4 : decode cL_type 4 = .ok (.iload_n 2, 1) := by decide +kernel
theorem dL_type_5 : decode cL_type 5 = .ok (.ifCond .le 13, 3) := by decide +kernel
theorem dL_type_8 : decode cL_type 8 = .ok (.lload 9, 2) := by decide +kernel
theorem dL_type_10 : decode cL_type 10 = .ok (.bipush 8, 2) := by decide +kernel
theorem dL_type_12 : decode cL_type 12 = .ok (.lshl, 1) := by decide +kernel
theorem dL_type_13 : decode cL_type 13 = .ok (.iload_n 2, 1) := by decide +kernel
theorem dL_type_14 : decode cL_type 14 = .ok (.i2l, 1) := by decide +kernel
theorem dL_type_15 : decode cL_type 15 = .ok (.lor, 1) := by decide +kernel
theorem dL_type_16 : decode cL_type 16 = .ok (.lstore 9, 2) := by decide +kernel
theorem dL_type_18 : decode cL_type 18 = .ok (.iload_n 3, 1) := by decide +kernel
theorem dL_type_19 : decode cL_type 19 = .ok (.ifCond .le 13, 3) := by decide +kernel
theorem dL_type_22 : decode cL_type 22 = .ok (.lload 9, 2) := by decide +kernel
theorem dL_type_24 : decode cL_type 24 = .ok (.bipush 8, 2) := by decide +kernel
theorem dL_type_26 : decode cL_type 26 = .ok (.lshl, 1) := by decide +kernel
theorem dL_type_27 : decode cL_type 27 = .ok (.iload_n 3, 1) := by decide +kernel
theorem dL_type_28 : decode cL_type 28 = .ok (.i2l, 1) := by decide +kernel
theorem dL_type_29 : decode cL_type 29 = .ok (.lor, 1) := by decide +kernel
theorem dL_type_30 : decode cL_type 30 = .ok (.lstore 9, 2) := by decide +kernel
theorem dL_type_32 : decode cL_type 32 = .ok (.iload 4, 2) := by decide +kernel
theorem dL_type_34 : decode cL_type 34 = .ok (.ifCond .le 14, 3) := by decide +kernel
theorem dL_type_37 : decode cL_type 37 = .ok (.lload 9, 2) := by decide +kernel
theorem dL_type_39 : decode cL_type 39 = .ok (.bipush 8, 2) := by decide +kernel
theorem dL_type_41 : decode cL_type 41 = .ok (.lshl, 1) := by decide +kernel
theorem dL_type_42 : decode cL_type 42 = .ok (.iload 4, 2) := by decide +kernel
theorem dL_type_44 : decode cL_type 44 = .ok (.i2l, 1) := by decide +kernel
theorem dL_type_45 : decode cL_type 45 = .ok (.lor, 1) := by decide +kernel
theorem dL_type_46 : decode cL_type 46 = .ok (.lstore 9, 2) := by decide +kernel
theorem dL_type_48 : decode cL_type 48 = .ok (.iload 5, 2) := by decide +kernel
theorem dL_type_50 : decode cL_type 50 = .ok (.ifCond .le 14, 3) := by decide +kernel
theorem dL_type_53 : decode cL_type 53 = .ok (.lload 9, 2) := by decide +kernel
theorem dL_type_55 : decode cL_type 55 = .ok (.bipush 8, 2) := by decide +kernel
theorem dL_type_57 : decode cL_type 57 = .ok (.lshl, 1) := by decide +kernel
theorem dL_type_58 : decode cL_type 58 = .ok (.iload 5, 2) := by decide +kernel
theorem dL_type_60 : decode cL_type 60 = .ok (.i2l, 1) := by decide +kernel
theorem dL_type_61 : decode cL_type 61 = .ok (.lor, 1) := by decide +kernel
theorem dL_type_62 : decode cL_type 62 = .ok (.lstore 9, 2) := by decide +kernel
theorem dL_type_64 : decode cL_type 64 = .ok (.iload 6, 2) := by decide +kernel
theorem dL_type_66 : decode cL_type 66 = .ok (.ifCond .le 14, 3) := by decide +kernel
theorem dL_type_69 : decode cL_type 69 = .ok (.lload 9, 2) := by decide +kernel
theorem dL_type_71 : decode cL_type 71 = .ok (.bipush 8, 2) := by decide +kernel
theorem dL_type_73 : decode cL_type 73 = .ok (.lshl, 1) := by decide +kernel
theorem dL_type_74 : decode cL_type 74 = .ok (.iload 6, 2) := by decide +kernel
theorem dL_type_76 : decode cL_type 76 = .ok (.i2l, 1) := by decide +kernel
theorem dL_type_77 : decode cL_type 77 = .ok (.lor, 1) := by decide +kernel
theorem dL_type_78 : decode cL_type 78 = .ok (.lstore 9, 2) := by decide +kernel
theorem dL_type_80 : decode cL_type 80 = .ok (.iload 7, 2) := by decide +kernel
theorem dL_type_82 : decode cL_type 82 = .ok (.ifCond .le 14, 3) := by decide +kernel
theorem dL_type_85 : decode cL_type 85 = .ok (.lload 9, 2) := by decide +kernel
theorem dL_type_87 : decode cL_type 87 = .ok (.bipush 8, 2) := by decide +kernel
theorem dL_type_89 : decode cL_type 89 = .ok (.lshl, 1) := by decide +kernel
theorem dL_type_90 : decode cL_type 90 = .ok (.iload 7, 2) := by decide +kernel
theorem dL_type_92 : decode cL_type 92 = .ok (.i2l, 1) := by decide +kernel
theorem dL_type_93 : decode cL_type 93 = .ok (.lor, 1) := by decide +kernel
theorem dL_type_94 : decode cL_type 94 = .ok (.lstore 9, 2) := by decide +kernel
theorem dL_type_96 : decode cL_type 96 = .ok (.iload 8, 2) := by decide +kernel
theorem dL_type_98 : decode cL_type 98 = .ok (.ifCond .le 14, 3) := by decide +kernel
theorem dL_type_101 : decode cL_type 101 = .ok (.lload 9, 2) := by decide +kernel
theorem dL_type_103 : decode cL_type 103 = .ok (.bipush 8, 2) := by decide +kernel
theorem dL_type_105 : decode cL_type 105 = .ok (.lshl, 1) := by decide +kernel
theorem dL_type_106 : decode cL_type 106 = .ok (.iload 8, 2) := by decide +kernel
theorem dL_type_108 : decode cL_type 108 = .ok (.i2l, 1) := by decide +kernel
theorem dL_type_109 : decode cL_type 109 = .ok (.lor, 1) := by decide +kernel
theorem dL_type_110 : decode cL_type 110 = .ok (.lstore 9, 2) := by decide +kernel
theorem dL_type_112 : decode cL_type 112 = .ok (.aload_n 0, 1) := by decide +kernel
theorem dL_type_113 : decode cL_type 113 = .ok (.lload 9, 2) := by decide +kernel
theorem dL_type_115 : decode cL_type 115 = .ok (.invokevirtual 120, 3) := by decide +kernel
theorem dL_type_118 : decode cL_type 118 = .ok (.ifCond .le 7, 3) := by decide +kernel
theorem dL_type_121 : decode cL_type 121 = .ok (.iconst 1, 1) := by decide +kernel
theorem dL_type_122 : decode cL_type 122 = .ok (.goto 4, 3) := by decide +kernel
theorem dL_type_125 : decode cL_type 125 = .ok (.iconst 0, 1) := by decide +kernel
theorem dL_type_126 : decode cL_type 126 = .ok (.ireturn, 1) := by decide +kernel
theorem dL_text_0 : decode cL_text 0 = .ok (.iload_n 1, 1) := by decide +kernel
theorem dL_text_1 : decode cL_text 1 = .ok (.bipush 6, 2) := by decide +kernel
theorem dL_text_3 : decode cL_text 3 = .ok (.invokestatic 22, 3) := by decide +kernel
theorem dL_text_6 : decode cL_text 6 = .ok (.istore_n 3, 1) := by decide +kernel
theorem dL_text_7 : decode cL_text 7 = .ok (.sipush 1000, 3) := by decide +kernel
theorem dL_text_10 : decode cL_text 10 = .ok (.iload_n 1, 1) := by decide +kernel
theorem dL_text_11 : decode cL_text 11 = .ok (.iconst 3, 1) := by decide +kernel
theorem dL_text_12 : decode cL_text 12 = .ok (.ishr, 1) := by decide +kernel
theorem dL_text_13 : decode cL_text 13 = .ok (.sipush 9000, 3) := by decide +kernel
theorem dL_text_16 : decode cL_text 16 = .ok (.invokestatic 22, 3) := by decide +kernel
theorem dL_text_19 : decode cL_text 19 = .ok (.iadd, 1) := by decide +kernel
theorem dL_text_20 : decode cL_text 20 = .ok (.istore 4, 2) := by decide +kernel
theorem dL_text_22 : decode cL_text 22 = .ok (.bipush 10, 2) := by decide +kernel
theorem dL_text_24 : decode cL_text 24 = .ok (.iload_n 1, 1) := by decide +kernel
theorem dL_text_25 : decode cL_text 25 = .ok (.bipush 17, 2) := by decide +kernel
theorem dL_text_27 : decode cL_text 27 = .ok (.ishr, 1) := by decide +kernel
theorem dL_text_28 : decode cL_text 28 = .ok (.bipush 14, 2) := by decide +kernel
theorem dL_text_30 : decode cL_text 30 = .ok (.invokestatic 22, 3) := by decide +kernel
theorem dL_text_33 : decode cL_text 33 = .ok (.iadd, 1) := by decide +kernel
theorem dL_text_34 : decode cL_text 34 = .ok (.istore 5, 2) := by decide +kernel
theorem dL_text_36 : decode cL_text 36 = .ok (.iload_n 2, 1) := by decide +kernel
theorem dL_text_37 : decode cL_text 37 = .ok (.bipush 6, 2) := by decide +kernel
theorem dL_text_39 : decode cL_text 39 = .ok (.invokestatic 22, 3) := by decide +kernel
theorem dL_text_42 : decode cL_text 42 = .ok (.istore 6, 2) := by decide +kernel
theorem dL_text_44 : decode cL_text 44 = .ok (.bipush 10, 2) := by decide +kernel
theorem dL_text_46 : decode cL_text 46 = .ok (.iload_n 2, 1) := by decide +kernel
theorem dL_text_47 : decode cL_text 47 = .ok (.iconst 3, 1) := by decide +kernel
theorem dL_text_48 : decode cL_text 48 = .ok (.ishr, 1) := by decide +kernel
theorem dL_text_49 : decode cL_text 49 = .ok (.bipush 90, 2) := by decide +kernel
theorem dL_text_51 : decode cL_text 51 = .ok (.invokestatic 22, 3) := by decide +kernel
theorem dL_text_54 : decode cL_text 54 = .ok (.iadd, 1) := by decide +kernel
theorem dL_text_55 : decode cL_text 55 = .ok (.istore 7, 2) := by decide +kernel
theorem dL_text_57 : decode cL_text 57 = .ok (.bipush 100, 2) := by decide +kernel
theorem dL_text_59 : decode cL_text 59 = .ok (.iload_n 2, 1) := by decide +kernel
theorem dL_text_60 : decode cL_text 60 = .ok (.bipush 10, 2) := by decide +kernel
theorem dL_text_62 : decode cL_text 62 = .ok (.ishr, 1) := by decide +kernel
theorem dL_text_63 : decode cL_text 63 = .ok (.sipush 900, 3) := by decide +kernel
theorem dL_text_66 : decode cL_text 66 = .ok (.invokestatic 22, 3) := by decide +kernel
theorem dL_text_69 : decode cL_text 69 = .ok (.iadd, 1) := by decide +kernel
theorem dL_text_70 : decode cL_text 70 = .ok (.istore 8, 2) := by decide +kernel
theorem dL_text_72 : decode cL_text 72 = .ok (.bipush 10, 2) := by decide +kernel
theorem dL_text_74 : decode cL_text 74 = .ok (.iload_n 2, 1) := by decide +kernel
theorem dL_text_75 : decode cL_text 75 = .ok (.bipush 20, 2) := by decide +kernel
theorem dL_text_77 : decode cL_text 77 = .ok (.ishr, 1) := by decide +kernel
theorem dL_text_78 : decode cL_text 78 = .ok (.bipush 90, 2) := by decide +kernel
theorem dL_text_80 : decode cL_text 80 = .ok (.invokestatic 22, 3) := by decide +kernel
theorem dL_text_83 : decode cL_text 83 = .ok (.iadd, 1) := by decide +kernel
theorem dL_text_84 : decode cL_text 84 = .ok (.istore 9, 2) := by decide +kernel
theorem dL_text_86 : decode cL_text 86 = .ok (.aload_n 0, 1) := by decide +kernel
theorem dL_text_87 : decode cL_text 87 = .ok (.invokevirtual 124, 3) := by decide +kernel
theorem dL_text_90 : decode cL_text 90 = .ok (.pop, 1) := by decide +kernel
theorem dL_text_91 : decode cL_text 91 = .ok (.aload_n 0, 1) := by decide +kernel
theorem dL_text_92 : decode cL_text 92 = .ok (.bipush 98, 2) := by decide +kernel
theorem dL_text_94 : decode cL_text 94 = .ok (.bipush 48, 2) := by decide +kernel
theorem dL_text_96 : decode cL_text 96 = .ok (.iload_n 3, 1) := by decide +kernel
theorem dL_text_97 : decode cL_text 97 = .ok (.iadd, 1) := by decide +kernel
theorem dL_text_98 : decode cL_text 98 = .ok (.bipush 58, 2) := by decide +kernel
theorem dL_text_100 : decode cL_text 100 = .ok (.bipush 48, 2) := by decide +kernel
theorem dL_text_102 : decode cL_text 102 = .ok (.iload 4, 2) := by decide +kernel
theorem dL_text_104 : decode cL_text 104 = .ok (.sipush 1000, 3) := by decide +kernel
theorem dL_text_107 : decode cL_text 107 = .ok (.idiv, 1) := by decide +kernel
theorem dL_text_108 : decode cL_text 108 = .ok (.iadd, 1) := by decide +kernel
theorem dL_text_109 : decode cL_text 109 = .ok (.bipush 48, 2) := by decide +kernel
theorem dL_text_111 : decode cL_text 111 = .ok (.iload 4, 2) := by decide +kernel
theorem dL_text_113 : decode cL_text 113 = .ok (.bipush 100, 2) := by decide +kernel
theorem dL_text_115 : decode cL_text 115 = .ok (.idiv, 1) := by decide +kernel
theorem dL_text_116 : decode cL_text 116 = .ok (.bipush 10, 2) := by decide +kernel
theorem dL_text_118 : decode cL_text 118 = .ok (.irem, 1) := by decide +kernel
theorem dL_text_119 : decode cL_text 119 = .ok (.iadd, 1) := by decide +kernel
theorem dL_text_120 : decode cL_text 120 = .ok (.bipush 48, 2) := by decide +kernel
theorem dL_text_122 : decode cL_text 122 = .ok (.iload 4, 2) := by decide +kernel
theorem dL_text_124 : decode cL_text 124 = .ok (.bipush 10, 2) := by decide +kernel
theorem dL_text_126 : decode cL_text 126 = .ok (.idiv, 1) := by decide +kernel
theorem dL_text_127 : decode cL_text 127 = .ok (.bipush 10, 2) := by decide +kernel
theorem dL_text_129 : decode cL_text 129 = .ok (.irem, 1) := by decide +kernel
theorem dL_text_130 : decode cL_text 130 = .ok (.iadd, 1) := by decide +kernel
theorem dL_text_131 : decode cL_text 131 = .ok (.bipush 48, 2) := by decide +kernel
theorem dL_text_133 : decode cL_text 133 = .ok (.iload 4, 2) := by decide +kernel
theorem dL_text_135 : decode cL_text 135 = .ok (.bipush 10, 2) := by decide +kernel
theorem dL_text_137 : decode cL_text 137 = .ok (.irem, 1) := by decide +kernel
theorem dL_text_138 : decode cL_text 138 = .ok (.iadd, 1) := by decide +kernel
theorem dL_text_139 : decode cL_text 139 = .ok (.bipush 64, 2) := by decide +kernel
theorem dL_text_141 : decode cL_text 141 = .ok (.invokestatic 127, 3) := by decide +kernel
theorem dL_text_144 : decode cL_text 144 = .ok (.ifCond .eq 138, 3) := by decide +kernel
theorem dL_text_147 : decode cL_text 147 = .ok (.aload_n 0, 1) := by decide +kernel
theorem dL_text_148 : decode cL_text 148 = .ok (.bipush 48, 2) := by decide +kernel
theorem dL_text_150 : decode cL_text 150 = .ok (.iload 5, 2) := by decide +kernel
theorem dL_text_152 : decode cL_text 152 = .ok (.bipush 10, 2) := by decide +kernel
theorem dL_text_154 : decode cL_text 154 = .ok (.idiv, 1) := by decide +kernel
theorem dL_text_155 : decode cL_text 155 = .ok (.iadd, 1) := by decide +kernel
theorem dL_text_156 : decode cL_text 156 = .ok (.bipush 48, 2) := by decide +kernel
theorem dL_text_158 : decode cL_text 158 = .ok (.iload 5, 2) := by decide +kernel
theorem dL_text_160 : decode cL_text 160 = .ok (.bipush 10, 2) := by decide +kernel
theorem dL_text_162 : decode cL_text 162 = .ok (.irem, 1) := by decide +kernel
theorem dL_text_163 : decode cL_text 163 = .ok (.iadd, 1) := by decide +kernel
theorem dL_text_164 : decode cL_text 164 = .ok (.bipush 59, 2) := by decide +kernel
theorem dL_text_166 : decode cL_text 166 = .ok (.bipush 108, 2) := by decide +kernel
theorem dL_text_168 : decode cL_text 168 = .ok (.bipush 48, 2) := by decide +kernel
theorem dL_text_170 : decode cL_text 170 = .ok (.iload 6, 2) := by decide +kernel
theorem dL_text_172 : decode cL_text 172 = .ok (.iadd, 1) := by decide +kernel
theorem dL_text_173 : decode cL_text 173 = .ok (.bipush 58, 2) := by decide +kernel
theorem dL_text_175 : decode cL_text 175 = .ok (.bipush 48, 2) := by decide +kernel
theorem dL_text_177 : decode cL_text 177 = .ok (.iload 7, 2) := by decide +kernel
theorem dL_text_179 : decode cL_text 179 = .ok (.bipush 10, 2) := by decide +kernel
theorem dL_text_181 : decode cL_text 181 = .ok (.idiv, 1) := by decide +kernel
theorem dL_text_182 : decode cL_text 182 = .ok (.iadd, 1) := by decide +kernel
theorem dL_text_183 : decode cL_text 183 = .ok (.bipush 48, 2) := by decide +kernel
theorem dL_text_185 : decode cL_text 185 = .ok (.iload 7, 2) := by decide +kernel
theorem dL_text_187 : decode cL_text 187 = .ok (.bipush 10, 2) := by decide +kernel
theorem dL_text_189 : decode cL_text 189 = .ok (.irem, 1) := by decide +kernel
theorem dL_text_190 : decode cL_text 190 = .ok (.iadd, 1) := by decide +kernel
theorem dL_text_191 : decode cL_text 191 = .ok (.invokestatic 127, 3) := by decide +kernel
theorem dL_text_194 : decode cL_text 194 = .ok (.ifCond .eq 88, 3) := by decide +kernel
theorem dL_text_197 : decode cL_text 197 = .ok (.aload_n 0, 1) := by decide +kernel
theorem dL_text_198 : decode cL_text 198 = .ok (.bipush 59, 2) := by decide +kernel
theorem dL_text_200 : decode cL_text 200 = .ok (.bipush 100, 2) := by decide +kernel
theorem dL_text_202 : decode cL_text 202 = .ok (.bipush 59, 2) := by decide +kernel
theorem dL_text_204 : decode cL_text 204 = .ok (.bipush 113, 2) := by decide +kernel
theorem dL_text_206 : decode cL_text 206 = .ok (.bipush 48, 2) := by decide +kernel
theorem dL_text_208 : decode cL_text 208 = .ok (.iload 8, 2) := by decide +kernel
theorem dL_text_210 : decode cL_text 210 = .ok (.bipush 100, 2) := by decide +kernel
theorem dL_text_212 : decode cL_text 212 = .ok (.idiv, 1) := by decide +kernel
theorem dL_text_213 : decode cL_text 213 = .ok (.iadd, 1) := by decide +kernel
theorem dL_text_214 : decode cL_text 214 = .ok (.bipush 48, 2) := by decide +kernel
theorem dL_text_216 : decode cL_text 216 = .ok (.iload 8, 2) := by decide +kernel
theorem dL_text_218 : decode cL_text 218 = .ok (.bipush 10, 2) := by decide +kernel
theorem dL_text_220 : decode cL_text 220 = .ok (.idiv, 1) := by decide +kernel
theorem dL_text_221 : decode cL_text 221 = .ok (.bipush 10, 2) := by decide +kernel
theorem dL_text_223 : decode cL_text 223 = .ok (.irem, 1) := by decide +kernel
theorem dL_text_224 : decode cL_text 224 = .ok (.iadd, 1) := by decide +kernel
theorem dL_text_225 : decode cL_text 225 = .ok (.bipush 48, 2) := by decide +kernel
theorem dL_text_227 : decode cL_text 227 = .ok (.iload 8, 2) := by decide +kernel
theorem dL_text_229 : decode cL_text 229 = .ok (.bipush 10, 2) := by decide +kernel
theorem dL_text_231 : decode cL_text 231 = .ok (.irem, 1) := by decide +kernel
theorem dL_text_232 : decode cL_text 232 = .ok (.iadd, 1) := by decide +kernel
theorem dL_text_233 : decode cL_text 233 = .ok (.bipush 59, 2) := by decide +kernel
theorem dL_text_235 : decode cL_text 235 = .ok (.invokestatic 127, 3) := by decide +kernel
theorem dL_text_238 : decode cL_text 238 = .ok (.ifCond .eq 44, 3) := by decide +kernel
theorem dL_text_241 : decode cL_text 241 = .ok (.aload_n 0, 1) := by decide +kernel
theorem dL_text_242 : decode cL_text 242 = .ok (.bipush 105, 2) := by decide +kernel
theorem dL_text_244 : decode cL_text 244 = .ok (.bipush 48, 2) := by decide +kernel
theorem dL_text_246 : decode cL_text 246 = .ok (.iload 9, 2) := by decide +kernel
theorem dL_text_248 : decode cL_text 248 = .ok (.bipush 10, 2) := by decide +kernel
theorem dL_text_250 : decode cL_text 250 = .ok (.idiv, 1) := by decide +kernel
theorem dL_text_251 : decode cL_text 251 = .ok (.iadd, 1) := by decide +kernel
theorem dL_text_252 : decode cL_text 252 = .ok (.bipush 48, 2) := by decide +kernel
theorem dL_text_254 : decode cL_text 254 = .ok (.iload 9, 2) := by decide +kernel
theorem dL_text_256 : decode cL_text 256 = .ok (.bipush 10, 2) := by decide +kernel
theorem dL_text_258 : decode cL_text 258 = .ok (.irem, 1) := by decide +kernel
theorem dL_text_259 : decode cL_text 259 = .ok (.iadd, 1) := by decide +kernel
theorem dL_text_260 : decode cL_text 260 = .ok (.bipush 59, 2) := by decide +kernel
theorem dL_text_262 : decode cL_text 262 = .ok (.bipush 112, 2) := by decide +kernel
theorem dL_text_264 : decode cL_text 264 = .ok (.iconst 0, 1) := by decide +kernel
theorem dL_text_265 : decode cL_text 265 = .ok (.iconst 0, 1) := by decide +kernel
theorem dL_text_266 : decode cL_text 266 = .ok (.iconst 0, 1) := by decide +kernel
theorem dL_text_267 : decode cL_text 267 = .ok (.invokestatic 127, 3) := by decide +kernel
theorem dL_text_270 : decode cL_text 270 = .ok (.ifCond .eq 12, 3) := by decide +kernel
theorem dL_text_273 : decode cL_text 273 = .ok (.aload_n 0, 1) := by decide +kernel
theorem dL_text_274 : decode cL_text 274 = .ok (.invokevirtual 131, 3) := by decide +kernel
theorem dL_text_277 : decode cL_text 277 = .ok (.bipush (-6), 2) := by decide +kernel
theorem dL_text_279 : decode cL_text 279 = .ok (.if_icmp .eq 5, 3) := by decide +kernel
theorem dL_text_282 : decode cL_text 282 = .ok (.iconst 0, 1) := by decide +kernel
theorem dL_text_283 : decode cL_text 283 = .ok (.ireturn, 1) := by decide +kernel
theorem dL_text_284 : decode cL_text 284 = .ok (.aload_n 0, 1) := by decide +kernel
theorem dL_text_285 : decode cL_text 285 = .ok (.invokestatic 134, 3) := by decide +kernel
theorem dL_text_288 : decode cL_text 288 = .ok (.lstore 10, 2) := by decide +kernel
theorem dL_text_290 : decode cL_text 290 = .ok (.aload_n 0, 1) := by decide +kernel
theorem dL_text_291 : decode cL_text 291 = .ok (.invokevirtual 137, 3) := by decide +kernel
theorem dL_text_294 : decode cL_text 294 = .ok (.istore 12, 2) := by decide +kernel
theorem dL_text_296 : decode cL_text 296 = .ok (.iload 12, 2) := by decide +kernel
theorem dL_text_298 : decode cL_text 298 = .ok (.ifCond .lt 12, 3) := by decide +kernel
theorem dL_text_301 : decode cL_text 301 = .ok (.aload_n 0, 1) := by decide +kernel
theorem dL_text_302 : decode cL_text 302 = .ok (.bipush 17, 2) := by decide +kernel
theorem dL_text_304 : decode cL_text 304 = .ok (.invokevirtual 50, 3) := by decide +kernel
theorem dL_text_307 : decode cL_text 307 = .ok (.ifCond .eq 5, 3) := by decide +kernel
theorem dL_text_310 : decode cL_text 310 = .ok (.iconst 0, 1) := by decide +kernel
theorem dL_text_311 : decode cL_text 311 = .ok (.ireturn, 1) := by decide +kernel
theorem dL_text_312 : decode cL_text 312 = .ok (.aload_n 0, 1) := by decide +kernel
theorem dL_text_313 : decode cL_text 313 = .ok (.invokestatic 134, 3) := by decide +kernel
theorem dL_text_316 : decode cL_text 316 = .ok (.lstore 13, 2) := by decide +kernel
theorem dL_text_318 : decode cL_text 318 = .ok (.aload_n 0, 1) := by decide +kernel
theorem dL_text_319 : decode cL_text 319 = .ok (.invokevirtual 140, 3) := by decide +kernel
theorem dL_text_322 : decode cL_text 322 = .ok (.ifCond .lt 13, 3) := by decide +kernel
theorem dL_text_325 : decode cL_text 325 = .ok (.aload_n 0, 1) := by decide +kernel
theorem dL_text_326 : decode cL_text 326 = .ok (.invokestatic 134, 3) := by decide +kernel
theorem dL_text_329 : decode cL_text 329 = .ok (.lload 10, 2) := by decide +kernel
theorem dL_text_331 : decode cL_text 331 = .ok (.lcmp, 1) := by decide +kernel
theorem dL_text_332 : decode cL_text 332 = .ok (.ifCond .eq 5, 3) := by decide +kernel
theorem dL_text_335 : decode cL_text 335 = .ok (.iconst 0, 1) := by decide +kernel
theorem dL_text_336 : decode cL_text 336 = .ok (.ireturn, 1) := by decide +kernel
theorem dL_text_337 : decode cL_text 337 = .ok (.iconst 0, 1) := by decide +kernel
theorem dL_text_338 : decode cL_text 338 = .ok (.istore 15, 2) := by decide +kernel
theorem dL_text_340 : decode cL_text 340 = .ok (.aload_n 0, 1) := by decide +kernel
theorem dL_text_341 : decode cL_text 341 = .ok (.iload_n 3, 1) := by decide +kernel
theorem dL_text_342 : decode cL_text 342 = .ok (.iload 4, 2) := by decide +kernel
theorem dL_text_344 : decode cL_text 344 = .ok (.iload 5, 2) := by decide +kernel
theorem dL_text_346 : decode cL_text 346 = .ok (.invokevirtual 70, 3) := by decide +kernel
theorem dL_text_349 : decode cL_text 349 = .ok (.ifCond .lt 7, 3) := by decide +kernel
theorem dL_text_352 : decode cL_text 352 = .ok (.iconst 1, 1) := by decide +kernel
theorem dL_text_353 : decode cL_text 353 = .ok (.goto 4, 3) := by decide +kernel
theorem dL_text_356 : decode cL_text 356 = .ok (.iconst 0, 1) := by decide +kernel
theorem dL_text_357 : decode cL_text 357 = .ok (.istore 16, 2) := by decide +kernel
theorem dL_text_359 : decode cL_text 359 = .ok (.iload 16, 2) := by decide +kernel
theorem dL_text_361 : decode cL_text 361 = .ok (.ifCond .eq 6, 3) := by decide +kernel
theorem dL_text_364 : decode cL_text 364 = .ok (.iinc 15 1, 3) := by decide +kernel
theorem dL_text_367 : decode cL_text 367 = .ok (.iload 16, 2) := by decide +kernel
theorem dL_text_369 : decode cL_text 369 = .ok (.ifCond .eq 19, 3) := by decide +kernel
theorem dL_text_372 : decode cL_text 372 = .ok (.aload_n 0, 1) := by decide +kernel
theorem dL_text_373 : decode cL_text 373 = .ok (.iload 6, 2) := by decide +kernel
theorem dL_text_375 : decode cL_text 375 = .ok (.iload 7, 2) := by decide +kernel
theorem dL_text_377 : decode cL_text 377 = .ok (.iconst 0, 1) := by decide +kernel
theorem dL_text_378 : decode cL_text 378 = .ok (.invokevirtual 81, 3) := by decide +kernel
theorem dL_text_381 : decode cL_text 381 = .ok (.ifCond .lt 7, 3) := by decide +kernel
theorem dL_text_384 : decode cL_text 384 = .ok (.iconst 1, 1) := by decide +kernel
theorem dL_text_385 : decode cL_text 385 = .ok (.goto 4, 3) := by decide +kernel
theorem dL_text_388 : decode cL_text 388 = .ok (.iconst 0, 1) := by decide +kernel
theorem dL_text_389 : decode cL_text 389 = .ok (.istore 16, 2) := by decide +kernel
theorem dL_text_391 : decode cL_text 391 = .ok (.iload 16, 2) := by decide +kernel
theorem dL_text_393 : decode cL_text 393 = .ok (.ifCond .eq 6, 3) := by decide +kernel
theorem dL_text_396 : decode cL_text 396 = .ok (.iinc 15 1, 3) := by decide +kernel
theorem dL_text_399 : decode cL_text 399 = .ok (.iload 16, 2) := by decide +kernel
theorem dL_text_401 : decode cL_text 401 = .ok (.ifCond .eq 14, 3) := by decide +kernel
theorem dL_text_404 : decode cL_text 404 = .ok (.aload_n 0, 1) := by decide +kernel
theorem dL_text_405 : decode cL_text 405 = .ok (.invokevirtual 117, 3) := by decide +kernel
theorem dL_text_408 : decode cL_text 408 = .ok (.ifCond .lt 7, 3) := by decide +kernel
theorem dL_text_411 : decode cL_text 411 = .ok (.iconst 1, 1) := by decide +kernel
theorem dL_text_412 : decode cL_text 412 = .ok (.goto 4, 3) := by decide +kernel
theorem dL_text_415 : decode cL_text 415 = .ok (.iconst 0, 1) := by decide +kernel
theorem dL_text_416 : decode cL_text 416 = .ok (.istore 16, 2) := by decide +kernel
theorem dL_text_418 : decode cL_text 418 = .ok (.iload 16, 2) := by decide +kernel
theorem dL_text_420 : decode cL_text 420 = .ok (.ifCond .eq 6, 3) := by decide +kernel
theorem dL_text_423 : decode cL_text 423 = .ok (.iinc 15 1, 3) := by decide +kernel
theorem dL_text_426 : decode cL_text 426 = .ok (.iload 16, 2) := by decide +kernel
theorem dL_text_428 : decode cL_text 428 = .ok (.ifCond .eq 16, 3) := by decide +kernel
theorem dL_text_431 : decode cL_text 431 = .ok (.aload_n 0, 1) := by decide +kernel
theorem dL_text_432 : decode cL_text 432 = .ok (.iload 8, 2) := by decide +kernel
theorem dL_text_434 : decode cL_text 434 = .ok (.invokevirtual 87, 3) := by decide +kernel
theorem dL_text_437 : decode cL_text 437 = .ok (.ifCond .lt 7, 3) := by decide +kernel
theorem dL_text_440 : decode cL_text 440 = .ok (.iconst 1, 1) := by decide +kernel
theorem dL_text_441 : decode cL_text 441 = .ok (.goto 4, 3) := by decide +kernel
theorem dL_text_444 : decode cL_text 444 = .ok (.iconst 0, 1) := by decide +kernel
theorem dL_text_445 : decode cL_text 445 = .ok (.istore 16, 2) := by decide +kernel
theorem dL_text_447 : decode cL_text 447 = .ok (.iload 16, 2) := by decide +kernel
theorem dL_text_449 : decode cL_text 449 = .ok (.ifCond .eq 6, 3) := by decide +kernel
theorem dL_text_452 : decode cL_text 452 = .ok (.iinc 15 1, 3) := by decide +kernel
theorem dL_text_455 : decode cL_text 455 = .ok (.iload 16, 2) := by decide +kernel
theorem dL_text_457 : decode cL_text 457 = .ok (.ifCond .eq 16, 3) := by decide +kernel
theorem dL_text_460 : decode cL_text 460 = .ok (.aload_n 0, 1) := by decide +kernel
theorem dL_text_461 : decode cL_text 461 = .ok (.iload 9, 2) := by decide +kernel
theorem dL_text_463 : decode cL_text 463 = .ok (.invokevirtual 100, 3) := by decide +kernel
theorem dL_text_466 : decode cL_text 466 = .ok (.ifCond .lt 7, 3) := by decide +kernel
theorem dL_text_469 : decode cL_text 469 = .ok (.iconst 1, 1) := by decide +kernel
theorem dL_text_470 : decode cL_text 470 = .ok (.goto 4, 3) := by decide +kernel
theorem dL_text_473 : decode cL_text 473 = .ok (.iconst 0, 1) := by decide +kernel
theorem dL_text_474 : decode cL_text 474 = .ok (.istore 16, 2) := by decide +kernel
theorem dL_text_476 : decode cL_text 476 = .ok (.iload 16, 2) := by decide +kernel
theorem dL_text_478 : decode cL_text 478 = .ok (.ifCond .eq 6, 3) := by decide +kernel
theorem dL_text_481 : decode cL_text 481 = .ok (.iinc 15 1, 3) := by decide +kernel
theorem dL_text_484 : decode cL_text 484 = .ok (.iload 16, 2) := by decide +kernel
theorem dL_text_486 : decode cL_text 486 = .ok (.ifCond .eq 14, 3) := by decide +kernel
theorem dL_text_489 : decode cL_text 489 = .ok (.aload_n 0, 1) := by decide +kernel
theorem dL_text_490 : decode cL_text 490 = .ok (.invokevirtual 110, 3) := by decide +kernel
theorem dL_text_493 : decode cL_text 493 = .ok (.ifCond .lt 7, 3) := by decide +kernel
theorem dL_text_496 : decode cL_text 496 = .ok (.iconst 1, 1) := by decide +kernel
theorem dL_text_497 : decode cL_text 497 = .ok (.goto 4, 3) := by decide +kernel
theorem dL_text_500 : decode cL_text 500 = .ok (.iconst 0, 1) := by decide +kernel
theorem dL_text_501 : decode cL_text 501 = .ok (.istore 16, 2) := by decide +kernel
theorem dL_text_503 : decode cL_text 503 = .ok (.iload 16, 2) := by decide +kernel
theorem dL_text_505 : decode cL_text 505 = .ok (.ifCond .eq 6, 3) := by decide +kernel
theorem dL_text_508 : decode cL_text 508 = .ok (.iinc 15 1, 3) := by decide +kernel
theorem dL_text_511 : decode cL_text 511 = .ok (.iload 15, 2) := by decide +kernel
theorem dL_text_513 : decode cL_text 513 = .ok (.iload 12, 2) := by decide +kernel
theorem dL_text_515 : decode cL_text 515 = .ok (.if_icmp .ne 17, 3) := by decide +kernel
theorem dL_text_518 : decode cL_text 518 = .ok (.aload_n 0, 1) := by decide +kernel
theorem dL_text_519 : decode cL_text 519 = .ok (.invokestatic 134, 3) := by decide +kernel
theorem dL_text_522 : decode cL_text 522 = .ok (.lload 13, 2) := by decide +kernel
theorem dL_text_524 : decode cL_text 524 = .ok (.lcmp, 1) := by decide +kernel
theorem dL_text_525 : decode cL_text 525 = .ok (.ifCond .ne 7, 3) := by decide +kernel
theorem dL_text_528 : decode cL_text 528 = .ok (.iconst 1, 1) := by decide +kernel
theorem dL_text_529 : decode cL_text 529 = .ok (.goto 4, 3) := by decide +kernel
theorem dL_text_532 : decode cL_text 532 = .ok (.iconst 0, 1) := by decide +kernel
theorem dL_text_533 : decode cL_text 533 = .ok (.ireturn, 1) := by decide +kernel
theorem dL_sound_0 : decode cL_sound 0 = .ok (.lconst 0, 1) := by decide +kernel
theorem dL_sound_1 : decode cL_sound 1 = .ok (.lstore_n 1, 1) := by decide +kernel
theorem dL_sound_2 : decode cL_sound 2 = .ok (.lconst 0, 1) := by decide +kernel
theorem dL_sound_3 : decode cL_sound 3 = .ok (.lstore_n 3, 1) := by decide +kernel
theorem dL_sound_4 : decode cL_sound 4 = .ok (.aload_n 0, 1) := by decide +kernel
theorem dL_sound_5 : decode cL_sound 5 = .ok (.bipush 8, 2) := by decide +kernel
theorem dL_sound_7 : decode cL_sound 7 = .ok (.invokevirtual 50, 3) := by decide +kernel
theorem dL_sound_10 : decode cL_sound 10 = .ok (.istore 5, 2) := by decide +kernel
theorem dL_sound_12 : decode cL_sound 12 = .ok (.bipush 6, 2) := by decide +kernel
theorem dL_sound_14 : decode cL_sound 14 = .ok (.newarray .long, 2) := by decide +kernel
theorem dL_sound_16 : decode cL_sound 16 = .ok (.astore 6, 2) := by decide +kernel
theorem dL_sound_18 : decode cL_sound 18 = .ok (.lconst 0, 1) := by decide +kernel
theorem dL_sound_19 : decode cL_sound 19 = .ok (.lstore 7, 2) := by decide +kernel
theorem dL_sound_21 : decode cL_sound 21 = .ok (.iconst 0, 1) := by decide +kernel
theorem dL_sound_22 : decode cL_sound 22 = .ok (.istore 9, 2) := by decide +kernel
theorem dL_sound_24 : decode cL_sound 24 = .ok (.iload 9, 2) := by decide +kernel
theorem dL_sound_26 : decode cL_sound 26 = .ok (.iconst 2, 1) := by decide +kernel
theorem dL_sound_27 : decode cL_sound 27 = .ok (.if_icmp .ge 143, 3) := by decide +kernel
theorem dL_sound_30 : decode cL_sound 30 = .ok (.iconst 0, 1) := by decide +kernel
theorem dL_sound_31 : decode cL_sound 31 = .ok (.istore 10, 2) := by decide +kernel
theorem dL_sound_33 : decode cL_sound 33 = .ok (.iload 10, 2) := by decide +kernel
theorem dL_sound_35 : decode cL_sound 35 = .ok (.aload_n 0, 1) := by decide +kernel
theorem dL_sound_36 : decode cL_sound 36 = .ok (.bipush 9, 2) := by decide +kernel
theorem dL_sound_38 : decode cL_sound 38 = .ok (.iload 9, 2) := by decide +kernel
theorem dL_sound_40 : decode cL_sound 40 = .ok (.iadd, 1) := by decide +kernel
theorem dL_sound_41 : decode cL_sound 41 = .ok (.invokevirtual 50, 3) := by decide +kernel
theorem dL_sound_44 : decode cL_sound 44 = .ok (.if_icmp .ge 120, 3) := by decide +kernel
theorem dL_sound_47 : decode cL_sound 47 = .ok (.aload_n 0, 1) := by decide +kernel
theorem dL_sound_48 : decode cL_sound 48 = .ok (.iload 9, 2) := by decide +kernel
theorem dL_sound_50 : decode cL_sound 50 = .ok (.iload 10, 2) := by decide +kernel
theorem dL_sound_52 : decode cL_sound 52 = .ok (.iconst 2, 1) := by decide +kernel
theorem dL_sound_53 : decode cL_sound 53 = .ok (.invokevirtual 54, 3) := by decide +kernel
theorem dL_sound_56 : decode cL_sound 56 = .ok (.istore 11, 2) := by decide +kernel
theorem dL_sound_58 : decode cL_sound 58 = .ok (.iload 11, 2) := by decide +kernel
theorem dL_sound_60 : decode cL_sound 60 = .ok (.iload 5, 2) := by decide +kernel
theorem dL_sound_62 : decode cL_sound 62 = .ok (.iconst 1, 1) := by decide +kernel
theorem dL_sound_63 : decode cL_sound 63 = .ok (.iadd, 1) := by decide +kernel
theorem dL_sound_64 : decode cL_sound 64 = .ok (.if_icmp .gt 49, 3) := by decide +kernel
theorem dL_sound_67 : decode cL_sound 67 = .ok (.iload 9, 2) := by decide +kernel
theorem dL_sound_69 : decode cL_sound 69 = .ok (.ifCond .ne 10, 3) := by decide +kernel
theorem dL_sound_72 : decode cL_sound 72 = .ok (.iload 11, 2) := by decide +kernel
theorem dL_sound_74 : decode cL_sound 74 = .ok (.iload 5, 2) := by decide +kernel
theorem dL_sound_76 : decode cL_sound 76 = .ok (.if_icmp .lt 37, 3) := by decide +kernel
theorem dL_sound_79 : decode cL_sound 79 = .ok (.aload_n 0, 1) := by decide +kernel
theorem dL_sound_80 : decode cL_sound 80 = .ok (.iload 9, 2) := by decide +kernel
theorem dL_sound_82 : decode cL_sound 82 = .ok (.iload 10, 2) := by decide +kernel
theorem dL_sound_84 : decode cL_sound 84 = .ok (.iconst 1, 1) := by decide +kernel
theorem dL_sound_85 : decode cL_sound 85 = .ok (.invokevirtual 54, 3) := by decide +kernel
theorem dL_sound_88 : decode cL_sound 88 = .ok (.iconst 1, 1) := by decide +kernel
theorem dL_sound_89 : decode cL_sound 89 = .ok (.if_icmp .lt 24, 3) := by decide +kernel
theorem dL_sound_92 : decode cL_sound 92 = .ok (.iload 10, 2) := by decide +kernel
theorem dL_sound_94 : decode cL_sound 94 = .ok (.ifCond .le 21, 3) := by decide +kernel
theorem dL_sound_97 : decode cL_sound 97 = .ok (.aload_n 0, 1) := by decide +kernel
theorem dL_sound_98 : decode cL_sound 98 = .ok (.iload 9, 2) := by decide +kernel
theorem dL_sound_100 : decode cL_sound 100 = .ok (.iload 10, 2) := by decide +kernel
theorem dL_sound_102 : decode cL_sound 102 = .ok (.iconst 1, 1) := by decide +kernel
theorem dL_sound_103 : decode cL_sound 103 = .ok (.isub, 1) := by decide +kernel
theorem dL_sound_104 : decode cL_sound 104 = .ok (.iconst 2, 1) := by decide +kernel
theorem dL_sound_105 : decode cL_sound 105 = .ok (.invokevirtual 54, 3) := by decide +kernel
theorem dL_sound_108 : decode cL_sound 108 = .ok (.iload 11, 2) := by decide +kernel
theorem dL_sound_110 : decode cL_sound 110 = .ok (.if_icmp .le 5, 3) := by decide +kernel
theorem dL_sound_113 : decode cL_sound 113 = .ok (.iconst 0, 1) := by decide +kernel
theorem dL_sound_114 : decode cL_sound 114 = .ok (.ireturn, 1) := by decide +kernel
theorem dL_sound_115 : decode cL_sound 115 = .ok (.iload 9, 2) := by decide +kernel
theorem dL_sound_117 : decode cL_sound 117 = .ok (.iconst 1, 1) := by decide +kernel
theorem dL_sound_118 : decode cL_sound 118 = .ok (.if_icmp .ne 40, 3) := by decide +kernel
theorem dL_sound_121 : decode cL_sound 121 = .ok (.aload 6, 2) := by decide +kernel
theorem dL_sound_123 : decode cL_sound 123 = .ok (.aload_n 0, 1) := by decide +kernel
theorem dL_sound_124 : decode cL_sound 124 = .ok (.iconst 1, 1) := by decide +kernel
theorem dL_sound_125 : decode cL_sound 125 = .ok (.iload 10, 2) := by decide +kernel
theorem dL_sound_127 : decode cL_sound 127 = .ok (.iconst 0, 1) := by decide +kernel
theorem dL_sound_128 : decode cL_sound 128 = .ok (.invokevirtual 54, 3) := by decide +kernel
theorem dL_sound_131 : decode cL_sound 131 = .ok (.dup2, 1) := by decide +kernel
theorem dL_sound_132 : decode cL_sound 132 = .ok (.laload, 1) := by decide +kernel
theorem dL_sound_133 : decode cL_sound 133 = .ok (.aload_n 0, 1) := by decide +kernel
theorem dL_sound_134 : decode cL_sound 134 = .ok (.iconst 1, 1) := by decide +kernel
theorem dL_sound_135 : decode cL_sound 135 = .ok (.iload 10, 2) := by decide +kernel
theorem dL_sound_137 : decode cL_sound 137 = .ok (.iconst 1, 1) := by decide +kernel
theorem dL_sound_138 : decode cL_sound 138 = .ok (.invokevirtual 54, 3) := by decide +kernel
theorem dL_sound_141 : decode cL_sound 141 = .ok (.i2l, 1) := by decide +kernel
theorem dL_sound_142 : decode cL_sound 142 = .ok (.ladd, 1) := by decide +kernel
theorem dL_sound_143 : decode cL_sound 143 = .ok (.lastore, 1) := by decide +kernel
theorem dL_sound_144 : decode cL_sound 144 = .ok (.lload 7, 2) := by decide +kernel
theorem dL_sound_146 : decode cL_sound 146 = .ok (.aload_n 0, 1) := by decide +kernel
theorem dL_sound_147 : decode cL_sound 147 = .ok (.iconst 1, 1) := by decide +kernel
theorem dL_sound_148 : decode cL_sound 148 = .ok (.iload 10, 2) := by decide +kernel
theorem dL_sound_150 : decode cL_sound 150 = .ok (.iconst 1, 1) := by decide +kernel
theorem dL_sound_151 : decode cL_sound 151 = .ok (.invokevirtual 54, 3) := by decide +kernel
theorem dL_sound_154 : decode cL_sound 154 = .ok (.i2l, 1) := by decide +kernel
theorem dL_sound_155 : decode cL_sound 155 = .ok (.ladd, 1) := by decide +kernel
theorem dL_sound_156 : decode cL_sound 156 = .ok (.lstore 7, 2) := by decide +kernel
theorem dL_sound_158 : decode cL_sound 158 = .ok (.iinc 10 1, 3) := by decide +kernel
theorem dL_sound_161 : decode cL_sound 161 = .ok (.goto (-128), 3) := by decide +kernel
theorem dL_sound_164 : decode cL_sound 164 = .ok (.iinc 9 1, 3) := by decide +kernel
theorem dL_sound_167 : decode cL_sound 167 = .ok (.goto (-143), 3) := by decide +kernel
theorem dL_sound_170 : decode cL_sound 170 = .ok (.iconst 0, 1) := by decide +kernel
theorem dL_sound_171 : decode cL_sound 171 = .ok (.istore 9, 2) := by decide +kernel
theorem dL_sound_173 : decode cL_sound 173 = .ok (.iload 9, 2) := by decide +kernel
theorem dL_sound_175 : decode cL_sound 175 = .ok (.bipush 6, 2) := by decide +kernel
theorem dL_sound_177 : decode cL_sound 177 = .ok (.if_icmp .ge 131, 3) := by decide +kernel
theorem dL_sound_180 : decode cL_sound 180 = .ok (.aload_n 0, 1) := by decide +kernel
theorem dL_sound_181 : decode cL_sound 181 = .ok (.iload 9, 2) := by decide +kernel
theorem dL_sound_183 : decode cL_sound 183 = .ok (.iconst 0, 1) := by decide +kernel
theorem dL_sound_184 : decode cL_sound 184 = .ok (.invokevirtual 47, 3) := by decide +kernel
theorem dL_sound_187 : decode cL_sound 187 = .ok (.aload_n 0, 1) := by decide +kernel
theorem dL_sound_188 : decode cL_sound 188 = .ok (.iload 9, 2) := by decide +kernel
theorem dL_sound_190 : decode cL_sound 190 = .ok (.iconst 1, 1) := by decide +kernel
theorem dL_sound_191 : decode cL_sound 191 = .ok (.invokevirtual 47, 3) := by decide +kernel
theorem dL_sound_194 : decode cL_sound 194 = .ok (.aload_n 0, 1) := by decide +kernel
theorem dL_sound_195 : decode cL_sound 195 = .ok (.iload 9, 2) := by decide +kernel
theorem dL_sound_197 : decode cL_sound 197 = .ok (.iconst 2, 1) := by decide +kernel
theorem dL_sound_198 : decode cL_sound 198 = .ok (.invokevirtual 47, 3) := by decide +kernel
theorem dL_sound_201 : decode cL_sound 201 = .ok (.iadd, 1) := by decide +kernel
theorem dL_sound_202 : decode cL_sound 202 = .ok (.if_icmp .ne 76, 3) := by decide +kernel
theorem dL_sound_205 : decode cL_sound 205 = .ok (.aload_n 0, 1) := by decide +kernel
theorem dL_sound_206 : decode cL_sound 206 = .ok (.iload 9, 2) := by decide +kernel
theorem dL_sound_208 : decode cL_sound 208 = .ok (.iconst 1, 1) := by decide +kernel
theorem dL_sound_209 : decode cL_sound 209 = .ok (.invokevirtual 47, 3) := by decide +kernel
theorem dL_sound_212 : decode cL_sound 212 = .ok (.ifCond .lt 66, 3) := by decide +kernel
theorem dL_sound_215 : decode cL_sound 215 = .ok (.aload_n 0, 1) := by decide +kernel
theorem dL_sound_216 : decode cL_sound 216 = .ok (.iload 9, 2) := by decide +kernel
theorem dL_sound_218 : decode cL_sound 218 = .ok (.iconst 2, 1) := by decide +kernel
theorem dL_sound_219 : decode cL_sound 219 = .ok (.invokevirtual 47, 3) := by decide +kernel
theorem dL_sound_222 : decode cL_sound 222 = .ok (.ifCond .lt 56, 3) := by decide +kernel
theorem dL_sound_225 : decode cL_sound 225 = .ok (.aload_n 0, 1) := by decide +kernel
theorem dL_sound_226 : decode cL_sound 226 = .ok (.iload 9, 2) := by decide +kernel
theorem dL_sound_228 : decode cL_sound 228 = .ok (.iconst 3, 1) := by decide +kernel
theorem dL_sound_229 : decode cL_sound 229 = .ok (.invokevirtual 47, 3) := by decide +kernel
theorem dL_sound_232 : decode cL_sound 232 = .ok (.i2l, 1) := by decide +kernel
theorem dL_sound_233 : decode cL_sound 233 = .ok (.aload 6, 2) := by decide +kernel
theorem dL_sound_235 : decode cL_sound 235 = .ok (.iload 9, 2) := by decide +kernel
theorem dL_sound_237 : decode cL_sound 237 = .ok (.laload, 1) := by decide +kernel
theorem dL_sound_238 : decode cL_sound 238 = .ok (.lcmp, 1) := by decide +kernel
theorem dL_sound_239 : decode cL_sound 239 = .ok (.ifCond .ne 39, 3) := by decide +kernel
theorem dL_sound_242 : decode cL_sound 242 = .ok (.aload 6, 2) := by decide +kernel
theorem dL_sound_244 : decode cL_sound 244 = .ok (.iload 9, 2) := by decide +kernel
theorem dL_sound_246 : decode cL_sound 246 = .ok (.laload, 1) := by decide +kernel
theorem dL_sound_247 : decode cL_sound 247 = .ok (.aload_n 0, 1) := by decide +kernel
theorem dL_sound_248 : decode cL_sound 248 = .ok (.iload 9, 2) := by decide +kernel
theorem dL_sound_250 : decode cL_sound 250 = .ok (.iconst 0, 1) := by decide +kernel
theorem dL_sound_251 : decode cL_sound 251 = .ok (.invokevirtual 47, 3) := by decide +kernel
theorem dL_sound_254 : decode cL_sound 254 = .ok (.i2l, 1) := by decide +kernel
theorem dL_sound_255 : decode cL_sound 255 = .ok (.lcmp, 1) := by decide +kernel
theorem dL_sound_256 : decode cL_sound 256 = .ok (.ifCond .gt 22, 3) := by decide +kernel
theorem dL_sound_259 : decode cL_sound 259 = .ok (.aload_n 0, 1) := by decide +kernel
theorem dL_sound_260 : decode cL_sound 260 = .ok (.iload 9, 2) := by decide +kernel
theorem dL_sound_262 : decode cL_sound 262 = .ok (.bipush 7, 2) := by decide +kernel
theorem dL_sound_264 : decode cL_sound 264 = .ok (.invokevirtual 47, 3) := by decide +kernel
theorem dL_sound_267 : decode cL_sound 267 = .ok (.aload_n 0, 1) := by decide +kernel
theorem dL_sound_268 : decode cL_sound 268 = .ok (.iload 9, 2) := by decide +kernel
theorem dL_sound_270 : decode cL_sound 270 = .ok (.bipush 6, 2) := by decide +kernel
theorem dL_sound_272 : decode cL_sound 272 = .ok (.invokevirtual 47, 3) := by decide +kernel
theorem dL_sound_275 : decode cL_sound 275 = .ok (.if_icmp .le 5, 3) := by decide +kernel
theorem dL_sound_278 : decode cL_sound 278 = .ok (.iconst 0, 1) := by decide +kernel
theorem dL_sound_279 : decode cL_sound 279 = .ok (.ireturn, 1) := by decide +kernel
theorem dL_sound_280 : decode cL_sound 280 = .ok (.lload_n 1, 1) := by decide +kernel
theorem dL_sound_281 : decode cL_sound 281 = .ok (.aload_n 0, 1) := by decide +kernel
theorem dL_sound_282 : decode cL_sound 282 = .ok (.iload 9, 2) := by decide +kernel
theorem dL_sound_284 : decode cL_sound 284 = .ok (.iconst 0, 1) := by decide +kernel
theorem dL_sound_285 : decode cL_sound 285 = .ok (.invokevirtual 47, 3) := by decide +kernel
theorem dL_sound_288 : decode cL_sound 288 = .ok (.i2l, 1) := by decide +kernel
theorem dL_sound_289 : decode cL_sound 289 = .ok (.ladd, 1) := by decide +kernel
theorem dL_sound_290 : decode cL_sound 290 = .ok (.lstore_n 1, 1) := by decide +kernel
theorem dL_sound_291 : decode cL_sound 291 = .ok (.lload_n 3, 1) := by decide +kernel
theorem dL_sound_292 : decode cL_sound 292 = .ok (.aload_n 0, 1) := by decide +kernel
theorem dL_sound_293 : decode cL_sound 293 = .ok (.iload 9, 2) := by decide +kernel
theorem dL_sound_295 : decode cL_sound 295 = .ok (.iconst 2, 1) := by decide +kernel
theorem dL_sound_296 : decode cL_sound 296 = .ok (.invokevirtual 47, 3) := by decide +kernel
theorem dL_sound_299 : decode cL_sound 299 = .ok (.i2l, 1) := by decide +kernel
theorem dL_sound_300 : decode cL_sound 300 = .ok (.ladd, 1) := by decide +kernel
theorem dL_sound_301 : decode cL_sound 301 = .ok (.lstore_n 3, 1) := by decide +kernel
theorem dL_sound_302 : decode cL_sound 302 = .ok (.iinc 9 1, 3) := by decide +kernel
theorem dL_sound_305 : decode cL_sound 305 = .ok (.goto (-132), 3) := by decide +kernel
theorem dL_sound_308 : decode cL_sound 308 = .ok (.aload_n 0, 1) := by decide +kernel
theorem dL_sound_309 : decode cL_sound 309 = .ok (.iconst 0, 1) := by decide +kernel
theorem dL_sound_310 : decode cL_sound 310 = .ok (.invokevirtual 50, 3) := by decide +kernel
theorem dL_sound_313 : decode cL_sound 313 = .ok (.i2l, 1) := by decide +kernel
theorem dL_sound_314 : decode cL_sound 314 = .ok (.aload_n 0, 1) := by decide +kernel
theorem dL_sound_315 : decode cL_sound 315 = .ok (.iconst 1, 1) := by decide +kernel
theorem dL_sound_316 : decode cL_sound 316 = .ok (.invokevirtual 50, 3) := by decide +kernel
theorem dL_sound_319 : decode cL_sound 319 = .ok (.i2l, 1) := by decide +kernel
theorem dL_sound_320 : decode cL_sound 320 = .ok (.aload_n 0, 1) := by decide +kernel
theorem dL_sound_321 : decode cL_sound 321 = .ok (.iconst 2, 1) := by decide +kernel
theorem dL_sound_322 : decode cL_sound 322 = .ok (.invokevirtual 50, 3) := by decide +kernel
theorem dL_sound_325 : decode cL_sound 325 = .ok (.i2l, 1) := by decide +kernel
theorem dL_sound_326 : decode cL_sound 326 = .ok (.lmul, 1) := by decide +kernel
theorem dL_sound_327 : decode cL_sound 327 = .ok (.ladd, 1) := by decide +kernel
theorem dL_sound_328 : decode cL_sound 328 = .ok (.lstore 9, 2) := by decide +kernel
theorem dL_sound_330 : decode cL_sound 330 = .ok (.aload_n 0, 1) := by decide +kernel
theorem dL_sound_331 : decode cL_sound 331 = .ok (.iconst 4, 1) := by decide +kernel
theorem dL_sound_332 : decode cL_sound 332 = .ok (.invokevirtual 50, 3) := by decide +kernel
theorem dL_sound_335 : decode cL_sound 335 = .ok (.i2l, 1) := by decide +kernel
theorem dL_sound_336 : decode cL_sound 336 = .ok (.lload_n 1, 1) := by decide +kernel
theorem dL_sound_337 : decode cL_sound 337 = .ok (.lcmp, 1) := by decide +kernel
theorem dL_sound_338 : decode cL_sound 338 = .ok (.ifCond .ne 176, 3) := by decide +kernel
theorem dL_sound_341 : decode cL_sound 341 = .ok (.aload_n 0, 1) := by decide +kernel
theorem dL_sound_342 : decode cL_sound 342 = .ok (.iconst 5, 1) := by decide +kernel
theorem dL_sound_343 : decode cL_sound 343 = .ok (.invokevirtual 50, 3) := by decide +kernel
theorem dL_sound_346 : decode cL_sound 346 = .ok (.i2l, 1) := by decide +kernel
theorem dL_sound_347 : decode cL_sound 347 = .ok (.lload_n 3, 1) := by decide +kernel
theorem dL_sound_348 : decode cL_sound 348 = .ok (.lcmp, 1) := by decide +kernel
theorem dL_sound_349 : decode cL_sound 349 = .ok (.ifCond .ne 165, 3) := by decide +kernel
theorem dL_sound_352 : decode cL_sound 352 = .ok (.aload_n 0, 1) := by decide +kernel
theorem dL_sound_353 : decode cL_sound 353 = .ok (.bipush 11, 2) := by decide +kernel
theorem dL_sound_355 : decode cL_sound 355 = .ok (.invokevirtual 50, 3) := by decide +kernel
theorem dL_sound_358 : decode cL_sound 358 = .ok (.i2l, 1) := by decide +kernel
theorem dL_sound_359 : decode cL_sound 359 = .ok (.lload 7, 2) := by decide +kernel
theorem dL_sound_361 : decode cL_sound 361 = .ok (.lcmp, 1) := by decide +kernel
theorem dL_sound_362 : decode cL_sound 362 = .ok (.ifCond .ne 152, 3) := by decide +kernel
theorem dL_sound_365 : decode cL_sound 365 = .ok (.aload_n 0, 1) := by decide +kernel
theorem dL_sound_366 : decode cL_sound 366 = .ok (.iconst 3, 1) := by decide +kernel
theorem dL_sound_367 : decode cL_sound 367 = .ok (.invokevirtual 50, 3) := by decide +kernel
theorem dL_sound_370 : decode cL_sound 370 = .ok (.i2l, 1) := by decide +kernel
theorem dL_sound_371 : decode cL_sound 371 = .ok (.lload 9, 2) := by decide +kernel
theorem dL_sound_373 : decode cL_sound 373 = .ok (.lcmp, 1) := by decide +kernel
theorem dL_sound_374 : decode cL_sound 374 = .ok (.ifCond .ne 140, 3) := by decide +kernel
theorem dL_sound_377 : decode cL_sound 377 = .ok (.aload_n 0, 1) := by decide +kernel
theorem dL_sound_378 : decode cL_sound 378 = .ok (.iconst 0, 1) := by decide +kernel
theorem dL_sound_379 : decode cL_sound 379 = .ok (.invokevirtual 50, 3) := by decide +kernel
theorem dL_sound_382 : decode cL_sound 382 = .ok (.ifCond .lt 132, 3) := by decide +kernel
theorem dL_sound_385 : decode cL_sound 385 = .ok (.aload_n 0, 1) := by decide +kernel
theorem dL_sound_386 : decode cL_sound 386 = .ok (.bipush 6, 2) := by decide +kernel
theorem dL_sound_388 : decode cL_sound 388 = .ok (.invokevirtual 50, 3) := by decide +kernel
theorem dL_sound_391 : decode cL_sound 391 = .ok (.ifCond .lt 123, 3) := by decide +kernel
theorem dL_sound_394 : decode cL_sound 394 = .ok (.aload_n 0, 1) := by decide +kernel
theorem dL_sound_395 : decode cL_sound 395 = .ok (.bipush 6, 2) := by decide +kernel
theorem dL_sound_397 : decode cL_sound 397 = .ok (.invokevirtual 50, 3) := by decide +kernel
theorem dL_sound_400 : decode cL_sound 400 = .ok (.aload_n 0, 1) := by decide +kernel
theorem dL_sound_401 : decode cL_sound 401 = .ok (.iconst 0, 1) := by decide +kernel
theorem dL_sound_402 : decode cL_sound 402 = .ok (.invokevirtual 50, 3) := by decide +kernel
theorem dL_sound_405 : decode cL_sound 405 = .ok (.if_icmp .gt 109, 3) := by decide +kernel
theorem dL_sound_408 : decode cL_sound 408 = .ok (.aload_n 0, 1) := by decide +kernel
theorem dL_sound_409 : decode cL_sound 409 = .ok (.bipush 7, 2) := by decide +kernel
theorem dL_sound_411 : decode cL_sound 411 = .ok (.invokevirtual 50, 3) := by decide +kernel
theorem dL_sound_414 : decode cL_sound 414 = .ok (.ifCond .lt 100, 3) := by decide +kernel
theorem dL_sound_417 : decode cL_sound 417 = .ok (.aload_n 0, 1) := by decide +kernel
theorem dL_sound_418 : decode cL_sound 418 = .ok (.iconst 0, 1) := by decide +kernel
theorem dL_sound_419 : decode cL_sound 419 = .ok (.invokevirtual 61, 3) := by decide +kernel
theorem dL_sound_422 : decode cL_sound 422 = .ok (.lload_n 1, 1) := by decide +kernel
theorem dL_sound_423 : decode cL_sound 423 = .ok (.lconst 0, 1) := by decide +kernel
theorem dL_sound_424 : decode cL_sound 424 = .ok (.lcmp, 1) := by decide +kernel
theorem dL_sound_425 : decode cL_sound 425 = .ok (.ifCond .ne 9, 3) := by decide +kernel
theorem dL_sound_428 : decode cL_sound 428 = .ok (.ldc2_w 113, 3) := by decide +kernel
theorem dL_sound_431 : decode cL_sound 431 = .ok (.goto 11, 3) := by decide +kernel
theorem dL_sound_434 : decode cL_sound 434 = .ok (.ldc2_w 67, 3) := by decide +kernel
theorem dL_sound_437 : decode cL_sound 437 = .ok (.lload 9, 2) := by decide +kernel
theorem dL_sound_439 : decode cL_sound 439 = .ok (.lmul, 1) := by decide +kernel
theorem dL_sound_440 : decode cL_sound 440 = .ok (.lload_n 1, 1) := by decide +kernel
theorem dL_sound_441 : decode cL_sound 441 = .ok (.ldiv, 1) := by decide +kernel
theorem dL_sound_442 : decode cL_sound 442 = .ok (.lcmp, 1) := by decide +kernel
theorem dL_sound_443 : decode cL_sound 443 = .ok (.ifCond .ne 71, 3) := by decide +kernel
theorem dL_sound_446 : decode cL_sound 446 = .ok (.aload_n 0, 1) := by decide +kernel
theorem dL_sound_447 : decode cL_sound 447 = .ok (.iconst 3, 1) := by decide +kernel
theorem dL_sound_448 : decode cL_sound 448 = .ok (.invokevirtual 61, 3) := by decide +kernel
theorem dL_sound_451 : decode cL_sound 451 = .ok (.lload_n 1, 1) := by decide +kernel
theorem dL_sound_452 : decode cL_sound 452 = .ok (.lconst 0, 1) := by decide +kernel
theorem dL_sound_453 : decode cL_sound 453 = .ok (.lcmp, 1) := by decide +kernel
theorem dL_sound_454 : decode cL_sound 454 = .ok (.ifCond .ne 7, 3) := by decide +kernel
theorem dL_sound_457 : decode cL_sound 457 = .ok (.lconst 0, 1) := by decide +kernel
theorem dL_sound_458 : decode cL_sound 458 = .ok (.goto 16, 3) := by decide +kernel
theorem dL_sound_461 : decode cL_sound 461 = .ok (.ldc2_w 67, 3) := by decide +kernel
theorem dL_sound_464 : decode cL_sound 464 = .ok (.aload_n 0, 1) := by decide +kernel
theorem dL_sound_465 : decode cL_sound 465 = .ok (.bipush 6, 2) := by decide +kernel
theorem dL_sound_467 : decode cL_sound 467 = .ok (.invokevirtual 50, 3) := by decide +kernel
theorem dL_sound_470 : decode cL_sound 470 = .ok (.i2l, 1) := by decide +kernel
theorem dL_sound_471 : decode cL_sound 471 = .ok (.lmul, 1) := by decide +kernel
theorem dL_sound_472 : decode cL_sound 472 = .ok (.lload_n 1, 1) := by decide +kernel
theorem dL_sound_473 : decode cL_sound 473 = .ok (.ldiv, 1) := by decide +kernel
theorem dL_sound_474 : decode cL_sound 474 = .ok (.lcmp, 1) := by decide +kernel
theorem dL_sound_475 : decode cL_sound 475 = .ok (.ifCond .ne 39, 3) := by decide +kernel
theorem dL_sound_478 : decode cL_sound 478 = .ok (.aload_n 0, 1) := by decide +kernel
theorem dL_sound_479 : decode cL_sound 479 = .ok (.iconst 0, 1) := by decide +kernel
theorem dL_sound_480 : decode cL_sound 480 = .ok (.aload_n 0, 1) := by decide +kernel
theorem dL_sound_481 : decode cL_sound 481 = .ok (.bipush 9, 2) := by decide +kernel
theorem dL_sound_483 : decode cL_sound 483 = .ok (.invokevirtual 50, 3) := by decide +kernel
theorem dL_sound_486 : decode cL_sound 486 = .ok (.iconst 0, 1) := by decide +kernel
theorem dL_sound_487 : decode cL_sound 487 = .ok (.invokevirtual 54, 3) := by decide +kernel
theorem dL_sound_490 : decode cL_sound 490 = .ok (.iconst (-1), 1) := by decide +kernel
theorem dL_sound_491 : decode cL_sound 491 = .ok (.if_icmp .ne 23, 3) := by decide +kernel
theorem dL_sound_494 : decode cL_sound 494 = .ok (.aload_n 0, 1) := by decide +kernel
theorem dL_sound_495 : decode cL_sound 495 = .ok (.iconst 1, 1) := by decide +kernel
theorem dL_sound_496 : decode cL_sound 496 = .ok (.aload_n 0, 1) := by decide +kernel
theorem dL_sound_497 : decode cL_sound 497 = .ok (.bipush 10, 2) := by decide +kernel
theorem dL_sound_499 : decode cL_sound 499 = .ok (.invokevirtual 50, 3) := by decide +kernel
theorem dL_sound_502 : decode cL_sound 502 = .ok (.iconst 0, 1) := by decide +kernel
theorem dL_sound_503 : decode cL_sound 503 = .ok (.invokevirtual 54, 3) := by decide +kernel
theorem dL_sound_506 : decode cL_sound 506 = .ok (.iconst (-1), 1) := by decide +kernel
theorem dL_sound_507 : decode cL_sound 507 = .ok (.if_icmp .ne 7, 3) := by decide +kernel
theorem dL_sound_510 : decode cL_sound 510 = .ok (.iconst 1, 1) := by decide +kernel
theorem dL_sound_511 : decode cL_sound 511 = .ok (.goto 4, 3) := by decide +kernel
theorem dL_sound_514 : decode cL_sound 514 = .ok (.iconst 0, 1) := by decide +kernel
theorem dL_sound_515 : decode cL_sound 515 = .ok (.ireturn, 1) := by decide +kernel
theorem dL_comes_0 : decode cL_comes 0 = .ok (.aload_n 0, 1) := by decide +kernel
theorem dL_comes_1 : decode cL_comes 1 = .ok (.invokestatic 134, 3) := by decide +kernel
theorem dL_comes_4 : decode cL_comes 4 = .ok (.lstore_n 2, 1) := by decide +kernel
theorem dL_comes_5 : decode cL_comes 5 = .ok (.aload_n 0, 1) := by decide +kernel
theorem dL_comes_6 : decode cL_comes 6 = .ok (.bipush 8, 2) := by decide +kernel
theorem dL_comes_8 : decode cL_comes 8 = .ok (.invokevirtual 50, 3) := by decide +kernel
theorem dL_comes_11 : decode cL_comes 11 = .ok (.istore 4, 2) := by decide +kernel
theorem dL_comes_13 : decode cL_comes 13 = .ok (.iload_n 1, 1) := by decide +kernel
theorem dL_comes_14 : decode cL_comes 14 = .ok (.bipush 6, 2) := by decide +kernel
theorem dL_comes_16 : decode cL_comes 16 = .ok (.invokestatic 22, 3) := by decide +kernel
theorem dL_comes_19 : decode cL_comes 19 = .ok (.istore 5, 2) := by decide +kernel
theorem dL_comes_21 : decode cL_comes 21 = .ok (.aload_n 0, 1) := by decide +kernel
theorem dL_comes_22 : decode cL_comes 22 = .ok (.iload 5, 2) := by decide +kernel
theorem dL_comes_24 : decode cL_comes 24 = .ok (.invokevirtual 143, 3) := by decide +kernel
theorem dL_comes_27 : decode cL_comes 27 = .ok (.istore 6, 2) := by decide +kernel
theorem dL_comes_29 : decode cL_comes 29 = .ok (.aload_n 0, 1) := by decide +kernel
theorem dL_comes_30 : decode cL_comes 30 = .ok (.iconst 0, 1) := by decide +kernel
theorem dL_comes_31 : decode cL_comes 31 = .ok (.invokevirtual 146, 3) := by decide +kernel
theorem dL_comes_34 : decode cL_comes 34 = .ok (.iload 4, 2) := by decide +kernel
theorem dL_comes_36 : decode cL_comes 36 = .ok (.if_icmp .eq 5, 3) := by decide +kernel
theorem dL_comes_39 : decode cL_comes 39 = .ok (.iconst 0, 1) := by decide +kernel
theorem dL_comes_40 : decode cL_comes 40 = .ok (.ireturn, 1) := by decide +kernel
theorem dL_comes_41 : decode cL_comes 41 = .ok (.iconst 0, 1) := by decide +kernel
theorem dL_comes_42 : decode cL_comes 42 = .ok (.istore 7, 2) := by decide +kernel
theorem dL_comes_44 : decode cL_comes 44 = .ok (.aload_n 0, 1) := by decide +kernel
theorem dL_comes_45 : decode cL_comes 45 = .ok (.iload 5, 2) := by decide +kernel
theorem dL_comes_47 : decode cL_comes 47 = .ok (.iconst 3, 1) := by decide +kernel
theorem dL_comes_48 : decode cL_comes 48 = .ok (.invokevirtual 47, 3) := by decide +kernel
theorem dL_comes_51 : decode cL_comes 51 = .ok (.ifCond .le 26, 3) := by decide +kernel
theorem dL_comes_54 : decode cL_comes 54 = .ok (.iload 7, 2) := by decide +kernel
theorem dL_comes_56 : decode cL_comes 56 = .ok (.bipush 60, 2) := by decide +kernel
theorem dL_comes_58 : decode cL_comes 58 = .ok (.if_icmp .ge 19, 3) := by decide +kernel
theorem dL_comes_61 : decode cL_comes 61 = .ok (.aload_n 0, 1) := by decide +kernel
theorem dL_comes_62 : decode cL_comes 62 = .ok (.invokevirtual 117, 3) := by decide +kernel
theorem dL_comes_65 : decode cL_comes 65 = .ok (.iconst 1, 1) := by decide +kernel
theorem dL_comes_66 : decode cL_comes 66 = .ok (.if_icmp .ge 5, 3) := by decide +kernel
theorem dL_comes_69 : decode cL_comes 69 = .ok (.iconst 0, 1) := by decide +kernel
theorem dL_comes_70 : decode cL_comes 70 = .ok (.ireturn, 1) := by decide +kernel
theorem dL_comes_71 : decode cL_comes 71 = .ok (.iinc 7 1, 3) := by decide +kernel
theorem dL_comes_74 : decode cL_comes 74 = .ok (.goto (-30), 3) := by decide +kernel
theorem dL_comes_77 : decode cL_comes 77 = .ok (.iload 6, 2) := by decide +kernel
theorem dL_comes_79 : decode cL_comes 79 = .ok (.aload_n 0, 1) := by decide +kernel
theorem dL_comes_80 : decode cL_comes 80 = .ok (.iload 5, 2) := by decide +kernel
theorem dL_comes_82 : decode cL_comes 82 = .ok (.iconst 3, 1) := by decide +kernel
theorem dL_comes_83 : decode cL_comes 83 = .ok (.invokevirtual 47, 3) := by decide +kernel
theorem dL_comes_86 : decode cL_comes 86 = .ok (.ifCond .ne 8, 3) := by decide +kernel
theorem dL_comes_89 : decode cL_comes 89 = .ok (.iload 7, 2) := by decide +kernel
theorem dL_comes_91 : decode cL_comes 91 = .ok (.goto 5, 3) := by decide +kernel
theorem dL_comes_94 : decode cL_comes 94 = .ok (.bipush (-6), 2) := by decide +kernel
theorem dL_comes_96 : decode cL_comes 96 = .ok (.if_icmp .ne 22, 3) := by decide +kernel
theorem dL_comes_99 : decode cL_comes 99 = .ok (.aload_n 0, 1) := by decide +kernel
theorem dL_comes_100 : decode cL_comes 100 = .ok (.iconst 0, 1) := by decide +kernel
theorem dL_comes_101 : decode cL_comes 101 = .ok (.invokevirtual 149, 3) := by decide +kernel
theorem dL_comes_104 : decode cL_comes 104 = .ok (.iload 4, 2) := by decide +kernel
theorem dL_comes_106 : decode cL_comes 106 = .ok (.if_icmp .ne 12, 3) := by decide +kernel
theorem dL_comes_109 : decode cL_comes 109 = .ok (.aload_n 0, 1) := by decide +kernel
theorem dL_comes_110 : decode cL_comes 110 = .ok (.invokestatic 134, 3) := by decide +kernel
theorem dL_comes_113 : decode cL_comes 113 = .ok (.lload_n 2, 1) := by decide +kernel
theorem dL_comes_114 : decode cL_comes 114 = .ok (.lcmp, 1) := by decide +kernel
theorem dL_comes_115 : decode cL_comes 115 = .ok (.ifCond .eq 5, 3) := by decide +kernel
theorem dL_comes_118 : decode cL_comes 118 = .ok (.iconst 0, 1) := by decide +kernel
theorem dL_comes_119 : decode cL_comes 119 = .ok (.ireturn, 1) := by decide +kernel
theorem dL_comes_120 : decode cL_comes 120 = .ok (.aload_n 0, 1) := by decide +kernel
theorem dL_comes_121 : decode cL_comes 121 = .ok (.invokevirtual 152, 3) := by decide +kernel
theorem dL_comes_124 : decode cL_comes 124 = .ok (.istore 8, 2) := by decide +kernel
theorem dL_comes_126 : decode cL_comes 126 = .ok (.aload_n 0, 1) := by decide +kernel
theorem dL_comes_127 : decode cL_comes 127 = .ok (.iconst 0, 1) := by decide +kernel
theorem dL_comes_128 : decode cL_comes 128 = .ok (.invokevirtual 61, 3) := by decide +kernel
theorem dL_comes_131 : decode cL_comes 131 = .ok (.lstore 9, 2) := by decide +kernel
theorem dL_comes_133 : decode cL_comes 133 = .ok (.aload_n 0, 1) := by decide +kernel
theorem dL_comes_134 : decode cL_comes 134 = .ok (.bipush 14, 2) := by decide +kernel
theorem dL_comes_136 : decode cL_comes 136 = .ok (.invokevirtual 50, 3) := by decide +kernel
theorem dL_comes_139 : decode cL_comes 139 = .ok (.istore 11, 2) := by decide +kernel
theorem dL_comes_141 : decode cL_comes 141 = .ok (.bipush (-6), 2) := by decide +kernel
theorem dL_comes_143 : decode cL_comes 143 = .ok (.istore 12, 2) := by decide +kernel
theorem dL_comes_145 : decode cL_comes 145 = .ok (.iconst 0, 1) := by decide +kernel
theorem dL_comes_146 : decode cL_comes 146 = .ok (.istore 13, 2) := by decide +kernel
theorem dL_comes_148 : decode cL_comes 148 = .ok (.iload 13, 2) := by decide +kernel
theorem dL_comes_150 : decode cL_comes 150 = .ok (.bipush 100, 2) := by decide +kernel
theorem dL_comes_152 : decode cL_comes 152 = .ok (.if_icmp .gt 70, 3) := by decide +kernel
theorem dL_comes_155 : decode cL_comes 155 = .ok (.iload 12, 2) := by decide +kernel
theorem dL_comes_157 : decode cL_comes 157 = .ok (.ifCond .ge 65, 3) := by decide +kernel
theorem dL_comes_160 : decode cL_comes 160 = .ok (.aload_n 0, 1) := by decide +kernel
theorem dL_comes_161 : decode cL_comes 161 = .ok (.iconst 2, 1) := by decide +kernel
theorem dL_comes_162 : decode cL_comes 162 = .ok (.iload 13, 2) := by decide +kernel
theorem dL_comes_164 : decode cL_comes 164 = .ok (.invokevirtual 26, 3) := by decide +kernel
theorem dL_comes_167 : decode cL_comes 167 = .ok (.iload 11, 2) := by decide +kernel
theorem dL_comes_169 : decode cL_comes 169 = .ok (.if_icmp .ne 14, 3) := by decide +kernel
theorem dL_comes_172 : decode cL_comes 172 = .ok (.aload_n 0, 1) := by decide +kernel
theorem dL_comes_173 : decode cL_comes 173 = .ok (.invokevirtual 117, 3) := by decide +kernel
theorem dL_comes_176 : decode cL_comes 176 = .ok (.iload 4, 2) := by decide +kernel
theorem dL_comes_178 : decode cL_comes 178 = .ok (.iconst 1, 1) := by decide +kernel
theorem dL_comes_179 : decode cL_comes 179 = .ok (.iadd, 1) := by decide +kernel
theorem dL_comes_180 : decode cL_comes 180 = .ok (.if_icmp .eq 5, 3) := by decide +kernel
theorem dL_comes_183 : decode cL_comes 183 = .ok (.iconst 0, 1) := by decide +kernel
theorem dL_comes_184 : decode cL_comes 184 = .ok (.ireturn, 1) := by decide +kernel
theorem dL_comes_185 : decode cL_comes 185 = .ok (.aload_n 0, 1) := by decide +kernel
theorem dL_comes_186 : decode cL_comes 186 = .ok (.iconst 0, 1) := by decide +kernel
theorem dL_comes_187 : decode cL_comes 187 = .ok (.invokevirtual 61, 3) := by decide +kernel
theorem dL_comes_190 : decode cL_comes 190 = .ok (.lload 9, 2) := by decide +kernel
theorem dL_comes_192 : decode cL_comes 192 = .ok (.lcmp, 1) := by decide +kernel
theorem dL_comes_193 : decode cL_comes 193 = .ok (.ifCond .lt 7, 3) := by decide +kernel
theorem dL_comes_196 : decode cL_comes 196 = .ok (.iload 13, 2) := by decide +kernel
theorem dL_comes_198 : decode cL_comes 198 = .ok (.istore 12, 2) := by decide +kernel
theorem dL_comes_200 : decode cL_comes 200 = .ok (.aload_n 0, 1) := by decide +kernel
theorem dL_comes_201 : decode cL_comes 201 = .ok (.invokevirtual 140, 3) := by decide +kernel
theorem dL_comes_204 : decode cL_comes 204 = .ok (.ifCond .lt 10, 3) := by decide +kernel
theorem dL_comes_207 : decode cL_comes 207 = .ok (.aload_n 0, 1) := by decide +kernel
theorem dL_comes_208 : decode cL_comes 208 = .ok (.invokevirtual 140, 3) := by decide +kernel
theorem dL_comes_211 : decode cL_comes 211 = .ok (.ifCond .ge 5, 3) := by decide +kernel
theorem dL_comes_214 : decode cL_comes 214 = .ok (.iconst 0, 1) := by decide +kernel
theorem dL_comes_215 : decode cL_comes 215 = .ok (.ireturn, 1) := by decide +kernel
theorem dL_comes_216 : decode cL_comes 216 = .ok (.iinc 13 1, 3) := by decide +kernel
theorem dL_comes_219 : decode cL_comes 219 = .ok (.goto (-71), 3) := by decide +kernel
theorem dL_comes_222 : decode cL_comes 222 = .ok (.iload 8, 2) := by decide +kernel
theorem dL_comes_224 : decode cL_comes 224 = .ok (.iload 12, 2) := by decide +kernel
theorem dL_comes_226 : decode cL_comes 226 = .ok (.if_icmp .ne 16, 3) := by decide +kernel
theorem dL_comes_229 : decode cL_comes 229 = .ok (.aload_n 0, 1) := by decide +kernel
theorem dL_comes_230 : decode cL_comes 230 = .ok (.invokestatic 134, 3) := by decide +kernel
theorem dL_comes_233 : decode cL_comes 233 = .ok (.lload_n 2, 1) := by decide +kernel
theorem dL_comes_234 : decode cL_comes 234 = .ok (.lcmp, 1) := by decide +kernel
theorem dL_comes_235 : decode cL_comes 235 = .ok (.ifCond .ne 7, 3) := by decide +kernel
theorem dL_comes_238 : decode cL_comes 238 = .ok (.iconst 1, 1) := by decide +kernel
theorem dL_comes_239 : decode cL_comes 239 = .ok (.goto 4, 3) := by decide +kernel
theorem dL_comes_242 : decode cL_comes 242 = .ok (.iconst 0, 1) := by decide +kernel
theorem dL_comes_243 : decode cL_comes 243 = .ok (.ireturn, 1) := by decide +kernel
theorem dL_back_0 : decode cL_back 0 = .ok (.aload_n 0, 1) := by decide +kernel
theorem dL_back_1 : decode cL_back 1 = .ok (.invokestatic 134, 3) := by decide +kernel
theorem dL_back_4 : decode cL_back 4 = .ok (.lstore_n 2, 1) := by decide +kernel
theorem dL_back_5 : decode cL_back 5 = .ok (.aload_n 0, 1) := by decide +kernel
theorem dL_back_6 : decode cL_back 6 = .ok (.bipush 8, 2) := by decide +kernel
theorem dL_back_8 : decode cL_back 8 = .ok (.invokevirtual 50, 3) := by decide +kernel
theorem dL_back_11 : decode cL_back 11 = .ok (.istore 4, 2) := by decide +kernel
theorem dL_back_13 : decode cL_back 13 = .ok (.aload_n 0, 1) := by decide +kernel
theorem dL_back_14 : decode cL_back 14 = .ok (.iconst 1, 1) := by decide +kernel
theorem dL_back_15 : decode cL_back 15 = .ok (.invokevirtual 146, 3) := by decide +kernel
theorem dL_back_18 : decode cL_back 18 = .ok (.iload 4, 2) := by decide +kernel
theorem dL_back_20 : decode cL_back 20 = .ok (.if_icmp .eq 5, 3) := by decide +kernel
theorem dL_back_23 : decode cL_back 23 = .ok (.iconst 0, 1) := by decide +kernel
theorem dL_back_24 : decode cL_back 24 = .ok (.ireturn, 1) := by decide +kernel
theorem dL_back_25 : decode cL_back 25 = .ok (.iconst 3, 1) := by decide +kernel
theorem dL_back_26 : decode cL_back 26 = .ok (.istore 5, 2) := by decide +kernel
theorem dL_back_28 : decode cL_back 28 = .ok (.aload_n 0, 1) := by decide +kernel
theorem dL_back_29 : decode cL_back 29 = .ok (.iconst 1, 1) := by decide +kernel
theorem dL_back_30 : decode cL_back 30 = .ok (.iload_n 1, 1) := by decide +kernel
theorem dL_back_31 : decode cL_back 31 = .ok (.sipush 9999, 3) := by decide +kernel
theorem dL_back_34 : decode cL_back 34 = .ok (.invokestatic 22, 3) := by decide +kernel
theorem dL_back_37 : decode cL_back 37 = .ok (.iadd, 1) := by decide +kernel
theorem dL_back_38 : decode cL_back 38 = .ok (.invokevirtual 87, 3) := by decide +kernel
theorem dL_back_41 : decode cL_back 41 = .ok (.iconst 1, 1) := by decide +kernel
theorem dL_back_42 : decode cL_back 42 = .ok (.if_icmp .lt 21, 3) := by decide +kernel
theorem dL_back_45 : decode cL_back 45 = .ok (.aload_n 0, 1) := by decide +kernel
theorem dL_back_46 : decode cL_back 46 = .ok (.invokevirtual 117, 3) := by decide +kernel
theorem dL_back_49 : decode cL_back 49 = .ok (.iload 4, 2) := by decide +kernel
theorem dL_back_51 : decode cL_back 51 = .ok (.iconst 1, 1) := by decide +kernel
theorem dL_back_52 : decode cL_back 52 = .ok (.iadd, 1) := by decide +kernel
theorem dL_back_53 : decode cL_back 53 = .ok (.if_icmp .ne 10, 3) := by decide +kernel
theorem dL_back_56 : decode cL_back 56 = .ok (.aload_n 0, 1) := by decide +kernel
theorem dL_back_57 : decode cL_back 57 = .ok (.invokevirtual 110, 3) := by decide +kernel
theorem dL_back_60 : decode cL_back 60 = .ok (.ifCond .ge 5, 3) := by decide +kernel
theorem dL_back_63 : decode cL_back 63 = .ok (.iconst 0, 1) := by decide +kernel
theorem dL_back_64 : decode cL_back 64 = .ok (.ireturn, 1) := by decide +kernel
theorem dL_back_65 : decode cL_back 65 = .ok (.aload_n 0, 1) := by decide +kernel
theorem dL_back_66 : decode cL_back 66 = .ok (.iload_n 1, 1) := by decide +kernel
theorem dL_back_67 : decode cL_back 67 = .ok (.iconst 3, 1) := by decide +kernel
theorem dL_back_68 : decode cL_back 68 = .ok (.ishr, 1) := by decide +kernel
theorem dL_back_69 : decode cL_back 69 = .ok (.bipush 6, 2) := by decide +kernel
theorem dL_back_71 : decode cL_back 71 = .ok (.invokestatic 22, 3) := by decide +kernel
theorem dL_back_74 : decode cL_back 74 = .ok (.sipush 5000, 3) := by decide +kernel
theorem dL_back_77 : decode cL_back 77 = .ok (.iconst 0, 1) := by decide +kernel
theorem dL_back_78 : decode cL_back 78 = .ok (.invokevirtual 70, 3) := by decide +kernel
theorem dL_back_81 : decode cL_back 81 = .ok (.ifCond .lt 6, 3) := by decide +kernel
theorem dL_back_84 : decode cL_back 84 = .ok (.iinc 5 1, 3) := by decide +kernel
theorem dL_back_87 : decode cL_back 87 = .ok (.aload_n 0, 1) := by decide +kernel
theorem dL_back_88 : decode cL_back 88 = .ok (.bipush 77, 2) := by decide +kernel
theorem dL_back_90 : decode cL_back 90 = .ok (.invokevirtual 100, 3) := by decide +kernel
theorem dL_back_93 : decode cL_back 93 = .ok (.ifCond .lt 6, 3) := by decide +kernel
theorem dL_back_96 : decode cL_back 96 = .ok (.iinc 5 1, 3) := by decide +kernel
theorem dL_back_99 : decode cL_back 99 = .ok (.iconst 0, 1) := by decide +kernel
theorem dL_back_100 : decode cL_back 100 = .ok (.istore 6, 2) := by decide +kernel
theorem dL_back_102 : decode cL_back 102 = .ok (.iload 6, 2) := by decide +kernel
theorem dL_back_104 : decode cL_back 104 = .ok (.iload 5, 2) := by decide +kernel
theorem dL_back_106 : decode cL_back 106 = .ok (.if_icmp .ge 18, 3) := by decide +kernel
theorem dL_back_109 : decode cL_back 109 = .ok (.aload_n 0, 1) := by decide +kernel
theorem dL_back_110 : decode cL_back 110 = .ok (.invokevirtual 140, 3) := by decide +kernel
theorem dL_back_113 : decode cL_back 113 = .ok (.ifCond .ge 5, 3) := by decide +kernel
theorem dL_back_116 : decode cL_back 116 = .ok (.iconst 0, 1) := by decide +kernel
theorem dL_back_117 : decode cL_back 117 = .ok (.ireturn, 1) := by decide +kernel
theorem dL_back_118 : decode cL_back 118 = .ok (.iinc 6 1, 3) := by decide +kernel
theorem dL_back_121 : decode cL_back 121 = .ok (.goto (-19), 3) := by decide +kernel
theorem dL_back_124 : decode cL_back 124 = .ok (.aload_n 0, 1) := by decide +kernel
theorem dL_back_125 : decode cL_back 125 = .ok (.invokestatic 134, 3) := by decide +kernel
theorem dL_back_128 : decode cL_back 128 = .ok (.lload_n 2, 1) := by decide +kernel
theorem dL_back_129 : decode cL_back 129 = .ok (.lcmp, 1) := by decide +kernel
theorem dL_back_130 : decode cL_back 130 = .ok (.ifCond .eq 5, 3) := by decide +kernel
theorem dL_back_133 : decode cL_back 133 = .ok (.iconst 0, 1) := by decide +kernel
theorem dL_back_134 : decode cL_back 134 = .ok (.ireturn, 1) := by decide +kernel
theorem dL_back_135 : decode cL_back 135 = .ok (.aload_n 0, 1) := by decide +kernel
theorem dL_back_136 : decode cL_back 136 = .ok (.invokevirtual 117, 3) := by decide +kernel
theorem dL_back_139 : decode cL_back 139 = .ok (.pop, 1) := by decide +kernel
theorem dL_back_140 : decode cL_back 140 = .ok (.aload_n 0, 1) := by decide +kernel
theorem dL_back_141 : decode cL_back 141 = .ok (.iconst 1, 1) := by decide +kernel
theorem dL_back_142 : decode cL_back 142 = .ok (.invokevirtual 149, 3) := by decide +kernel
theorem dL_back_145 : decode cL_back 145 = .ok (.iload 4, 2) := by decide +kernel
theorem dL_back_147 : decode cL_back 147 = .ok (.if_icmp .ne 16, 3) := by decide +kernel
theorem dL_back_150 : decode cL_back 150 = .ok (.aload_n 0, 1) := by decide +kernel
theorem dL_back_151 : decode cL_back 151 = .ok (.invokestatic 134, 3) := by decide +kernel
theorem dL_back_154 : decode cL_back 154 = .ok (.lload_n 2, 1) := by decide +kernel
theorem dL_back_155 : decode cL_back 155 = .ok (.lcmp, 1) := by decide +kernel
theorem dL_back_156 : decode cL_back 156 = .ok (.ifCond .ne 7, 3) := by decide +kernel
theorem dL_back_159 : decode cL_back 159 = .ok (.iconst 1, 1) := by decide +kernel
theorem dL_back_160 : decode cL_back 160 = .ok (.goto 4, 3) := by decide +kernel
theorem dL_back_163 : decode cL_back 163 = .ok (.iconst 0, 1) := by decide +kernel
theorem dL_back_164 : decode cL_back 164 = .ok (.ireturn, 1) := by decide +kernel
theorem dL_refused_0 : decode cL_refused 0 = .ok (.iload_n 1, 1) := by decide +kernel
theorem dL_refused_1 : decode cL_refused 1 = .ok (.iconst 2, 1) := by decide +kernel
theorem dL_refused_2 : decode cL_refused 2 = .ok (.invokestatic 22, 3) := by decide +kernel
theorem dL_refused_5 : decode cL_refused 5 = .ok (.ifCond .ne 18, 3) := by decide +kernel
theorem dL_refused_8 : decode cL_refused 8 = .ok (.sipush (-1001), 3) := by decide +kernel
theorem dL_refused_11 : decode cL_refused 11 = .ok (.iload_n 1, 1) := by decide +kernel
theorem dL_refused_12 : decode cL_refused 12 = .ok (.iconst 1, 1) := by decide +kernel
theorem dL_refused_13 : decode cL_refused 13 = .ok (.ishr, 1) := by decide +kernel
theorem dL_refused_14 : decode cL_refused 14 = .ok (.ldc 155, 2) := by decide +kernel
theorem dL_refused_16 : decode cL_refused 16 = .ok (.invokestatic 22, 3) := by decide +kernel
theorem dL_refused_19 : decode cL_refused 19 = .ok (.isub, 1) := by decide +kernel
theorem dL_refused_20 : decode cL_refused 20 = .ok (.goto 14, 3) := by decide +kernel
theorem dL_refused_23 : decode cL_refused 23 = .ok (.ldc 156, 2) := by decide +kernel
theorem dL_refused_25 : decode cL_refused 25 = .ok (.iload_n 1, 1) := by decide +kernel
theorem dL_refused_26 : decode cL_refused 26 = .ok (.iconst 1, 1) := by decide +kernel
theorem dL_refused_27 : decode cL_refused 27 = .ok (.ishr, 1) := by decide +kernel
theorem dL_refused_28 : decode cL_refused 28 = .ok (.ldc 155, 2) := by decide +kernel
theorem dL_refused_30 : decode cL_refused 30 = .ok (.invokestatic 22, 3) := by decide +kernel
theorem dL_refused_33 : decode cL_refused 33 = .ok (.iadd, 1) := by decide +kernel
theorem dL_refused_34 : decode cL_refused 34 = .ok (.istore_n 2, 1) := by decide +kernel
theorem dL_refused_35 : decode cL_refused 35 = .ok (.aload_n 0, 1) := by decide +kernel
theorem dL_refused_36 : decode cL_refused 36 = .ok (.iload_n 2, 1) := by decide +kernel
theorem dL_refused_37 : decode cL_refused 37 = .ok (.iconst 1, 1) := by decide +kernel
theorem dL_refused_38 : decode cL_refused 38 = .ok (.invokevirtual 26, 3) := by decide +kernel
theorem dL_refused_41 : decode cL_refused 41 = .ok (.bipush (-2), 2) := by decide +kernel
theorem dL_refused_43 : decode cL_refused 43 = .ok (.if_icmp .ne 385, 3) := by decide +kernel
theorem dL_refused_46 : decode cL_refused 46 = .ok (.aload_n 0, 1) := by decide +kernel
theorem dL_refused_47 : decode cL_refused 47 = .ok (.iconst 0, 1) := by decide +kernel
theorem dL_refused_48 : decode cL_refused 48 = .ok (.iload_n 2, 1) := by decide +kernel
theorem dL_refused_49 : decode cL_refused 49 = .ok (.invokevirtual 26, 3) := by decide +kernel
theorem dL_refused_52 : decode cL_refused 52 = .ok (.bipush (-2), 2) := by decide +kernel
theorem dL_refused_54 : decode cL_refused 54 = .ok (.if_icmp .ne 374, 3) := by decide +kernel
theorem dL_refused_57 : decode cL_refused 57 = .ok (.aload_n 0, 1) := by decide +kernel
theorem dL_refused_58 : decode cL_refused 58 = .ok (.iconst 1, 1) := by decide +kernel
theorem dL_refused_59 : decode cL_refused 59 = .ok (.iload_n 2, 1) := by decide +kernel
theorem dL_refused_60 : decode cL_refused 60 = .ok (.invokevirtual 26, 3) := by decide +kernel
theorem dL_refused_63 : decode cL_refused 63 = .ok (.bipush (-2), 2) := by decide +kernel
theorem dL_refused_65 : decode cL_refused 65 = .ok (.if_icmp .ne 363, 3) := by decide +kernel
theorem dL_refused_68 : decode cL_refused 68 = .ok (.aload_n 0, 1) := by decide +kernel
theorem dL_refused_69 : decode cL_refused 69 = .ok (.iload_n 2, 1) := by decide +kernel
theorem dL_refused_70 : decode cL_refused 70 = .ok (.iconst 1, 1) := by decide +kernel
theorem dL_refused_71 : decode cL_refused 71 = .ok (.iconst 0, 1) := by decide +kernel
theorem dL_refused_72 : decode cL_refused 72 = .ok (.invokevirtual 70, 3) := by decide +kernel
theorem dL_refused_75 : decode cL_refused 75 = .ok (.iconst (-1), 1) := by decide +kernel
theorem dL_refused_76 : decode cL_refused 76 = .ok (.if_icmp .ne 352, 3) := by decide +kernel
theorem dL_refused_79 : decode cL_refused 79 = .ok (.aload_n 0, 1) := by decide +kernel
theorem dL_refused_80 : decode cL_refused 80 = .ok (.iconst 0, 1) := by decide +kernel
theorem dL_refused_81 : decode cL_refused 81 = .ok (.iload_n 2, 1) := by decide +kernel
theorem dL_refused_82 : decode cL_refused 82 = .ok (.iconst 0, 1) := by decide +kernel
theorem dL_refused_83 : decode cL_refused 83 = .ok (.invokevirtual 70, 3) := by decide +kernel
theorem dL_refused_86 : decode cL_refused 86 = .ok (.bipush (-2), 2) := by decide +kernel
theorem dL_refused_88 : decode cL_refused 88 = .ok (.if_icmp .ne 340, 3) := by decide +kernel
theorem dL_refused_91 : decode cL_refused 91 = .ok (.aload_n 0, 1) := by decide +kernel
theorem dL_refused_92 : decode cL_refused 92 = .ok (.iconst 0, 1) := by decide +kernel
theorem dL_refused_93 : decode cL_refused 93 = .ok (.iconst 1, 1) := by decide +kernel
theorem dL_refused_94 : decode cL_refused 94 = .ok (.iload_n 2, 1) := by decide +kernel
theorem dL_refused_95 : decode cL_refused 95 = .ok (.invokevirtual 70, 3) := by decide +kernel
theorem dL_refused_98 : decode cL_refused 98 = .ok (.bipush (-2), 2) := by decide +kernel
theorem dL_refused_100 : decode cL_refused 100 = .ok (.if_icmp .ne 328, 3) := by decide +kernel
theorem dL_refused_103 : decode cL_refused 103 = .ok (.aload_n 0, 1) := by decide +kernel
theorem dL_refused_104 : decode cL_refused 104 = .ok (.iload_n 2, 1) := by decide +kernel
theorem dL_refused_105 : decode cL_refused 105 = .ok (.iconst 1, 1) := by decide +kernel
theorem dL_refused_106 : decode cL_refused 106 = .ok (.iconst 0, 1) := by decide +kernel
theorem dL_refused_107 : decode cL_refused 107 = .ok (.invokevirtual 81, 3) := by decide +kernel
theorem dL_refused_110 : decode cL_refused 110 = .ok (.iconst (-1), 1) := by decide +kernel
theorem dL_refused_111 : decode cL_refused 111 = .ok (.if_icmp .ne 317, 3) := by decide +kernel
theorem dL_refused_114 : decode cL_refused 114 = .ok (.aload_n 0, 1) := by decide +kernel
theorem dL_refused_115 : decode cL_refused 115 = .ok (.iconst 0, 1) := by decide +kernel
theorem dL_refused_116 : decode cL_refused 116 = .ok (.iconst 1, 1) := by decide +kernel
theorem dL_refused_117 : decode cL_refused 117 = .ok (.iload_n 2, 1) := by decide +kernel
theorem dL_refused_118 : decode cL_refused 118 = .ok (.invokevirtual 81, 3) := by decide +kernel
theorem dL_refused_121 : decode cL_refused 121 = .ok (.bipush (-2), 2) := by decide +kernel
theorem dL_refused_123 : decode cL_refused 123 = .ok (.if_icmp .ne 305, 3) := by decide +kernel
theorem dL_refused_126 : decode cL_refused 126 = .ok (.aload_n 0, 1) := by decide +kernel
theorem dL_refused_127 : decode cL_refused 127 = .ok (.iconst 0, 1) := by decide +kernel
theorem dL_refused_128 : decode cL_refused 128 = .ok (.iconst 1, 1) := by decide +kernel
theorem dL_refused_129 : decode cL_refused 129 = .ok (.iconst 0, 1) := by decide +kernel
theorem dL_refused_130 : decode cL_refused 130 = .ok (.invokevirtual 81, 3) := by decide +kernel
theorem dL_refused_133 : decode cL_refused 133 = .ok (.bipush (-5), 2) := by decide +kernel
theorem dL_refused_135 : decode cL_refused 135 = .ok (.if_icmp .ne 293, 3) := by decide +kernel
theorem dL_refused_138 : decode cL_refused 138 = .ok (.aload_n 0, 1) := by decide +kernel
theorem dL_refused_139 : decode cL_refused 139 = .ok (.iload_n 2, 1) := by decide +kernel
theorem dL_refused_140 : decode cL_refused 140 = .ok (.iconst 1, 1) := by decide +kernel
theorem dL_refused_141 : decode cL_refused 141 = .ok (.invokevirtual 84, 3) := by decide +kernel
theorem dL_refused_144 : decode cL_refused 144 = .ok (.iconst (-1), 1) := by decide +kernel
theorem dL_refused_145 : decode cL_refused 145 = .ok (.if_icmp .ne 283, 3) := by decide +kernel
theorem dL_refused_148 : decode cL_refused 148 = .ok (.aload_n 0, 1) := by decide +kernel
theorem dL_refused_149 : decode cL_refused 149 = .ok (.iconst 0, 1) := by decide +kernel
theorem dL_refused_150 : decode cL_refused 150 = .ok (.iconst 0, 1) := by decide +kernel
theorem dL_refused_151 : decode cL_refused 151 = .ok (.invokevirtual 84, 3) := by decide +kernel
theorem dL_refused_154 : decode cL_refused 154 = .ok (.bipush (-2), 2) := by decide +kernel
theorem dL_refused_156 : decode cL_refused 156 = .ok (.if_icmp .ne 272, 3) := by decide +kernel
theorem dL_refused_159 : decode cL_refused 159 = .ok (.aload_n 0, 1) := by decide +kernel
theorem dL_refused_160 : decode cL_refused 160 = .ok (.iconst 0, 1) := by decide +kernel
theorem dL_refused_161 : decode cL_refused 161 = .ok (.iconst 1, 1) := by decide +kernel
theorem dL_refused_162 : decode cL_refused 162 = .ok (.invokevirtual 84, 3) := by decide +kernel
theorem dL_refused_165 : decode cL_refused 165 = .ok (.bipush (-5), 2) := by decide +kernel
theorem dL_refused_167 : decode cL_refused 167 = .ok (.if_icmp .ne 261, 3) := by decide +kernel
theorem dL_refused_170 : decode cL_refused 170 = .ok (.aload_n 0, 1) := by decide +kernel
theorem dL_refused_171 : decode cL_refused 171 = .ok (.iload_n 2, 1) := by decide +kernel
theorem dL_refused_172 : decode cL_refused 172 = .ok (.invokevirtual 87, 3) := by decide +kernel
theorem dL_refused_175 : decode cL_refused 175 = .ok (.bipush (-2), 2) := by decide +kernel
theorem dL_refused_177 : decode cL_refused 177 = .ok (.if_icmp .ne 251, 3) := by decide +kernel
theorem dL_refused_180 : decode cL_refused 180 = .ok (.aload_n 0, 1) := by decide +kernel
theorem dL_refused_181 : decode cL_refused 181 = .ok (.iload_n 2, 1) := by decide +kernel
theorem dL_refused_182 : decode cL_refused 182 = .ok (.invokevirtual 94, 3) := by decide +kernel
theorem dL_refused_185 : decode cL_refused 185 = .ok (.bipush (-2), 2) := by decide +kernel
theorem dL_refused_187 : decode cL_refused 187 = .ok (.if_icmp .ne 241, 3) := by decide +kernel
theorem dL_refused_190 : decode cL_refused 190 = .ok (.aload_n 0, 1) := by decide +kernel
theorem dL_refused_191 : decode cL_refused 191 = .ok (.iconst 0, 1) := by decide +kernel
theorem dL_refused_192 : decode cL_refused 192 = .ok (.invokevirtual 94, 3) := by decide +kernel
theorem dL_refused_195 : decode cL_refused 195 = .ok (.bipush (-2), 2) := by decide +kernel
theorem dL_refused_197 : decode cL_refused 197 = .ok (.if_icmp .ne 231, 3) := by decide +kernel
theorem dL_refused_200 : decode cL_refused 200 = .ok (.aload_n 0, 1) := by decide +kernel
theorem dL_refused_201 : decode cL_refused 201 = .ok (.iconst 1, 1) := by decide +kernel
theorem dL_refused_202 : decode cL_refused 202 = .ok (.invokevirtual 94, 3) := by decide +kernel
theorem dL_refused_205 : decode cL_refused 205 = .ok (.bipush (-5), 2) := by decide +kernel
theorem dL_refused_207 : decode cL_refused 207 = .ok (.if_icmp .ne 221, 3) := by decide +kernel
theorem dL_refused_210 : decode cL_refused 210 = .ok (.aload_n 0, 1) := by decide +kernel
theorem dL_refused_211 : decode cL_refused 211 = .ok (.iload_n 2, 1) := by decide +kernel
theorem dL_refused_212 : decode cL_refused 212 = .ok (.invokevirtual 100, 3) := by decide +kernel
theorem dL_refused_215 : decode cL_refused 215 = .ok (.bipush (-2), 2) := by decide +kernel
theorem dL_refused_217 : decode cL_refused 217 = .ok (.if_icmp .ne 211, 3) := by decide +kernel
theorem dL_refused_220 : decode cL_refused 220 = .ok (.aload_n 0, 1) := by decide +kernel
theorem dL_refused_221 : decode cL_refused 221 = .ok (.iconst 1, 1) := by decide +kernel
theorem dL_refused_222 : decode cL_refused 222 = .ok (.invokevirtual 100, 3) := by decide +kernel
theorem dL_refused_225 : decode cL_refused 225 = .ok (.bipush (-5), 2) := by decide +kernel
theorem dL_refused_227 : decode cL_refused 227 = .ok (.if_icmp .ne 201, 3) := by decide +kernel
theorem dL_refused_230 : decode cL_refused 230 = .ok (.aload_n 0, 1) := by decide +kernel
theorem dL_refused_231 : decode cL_refused 231 = .ok (.iload_n 2, 1) := by decide +kernel
theorem dL_refused_232 : decode cL_refused 232 = .ok (.iconst 0, 1) := by decide +kernel
theorem dL_refused_233 : decode cL_refused 233 = .ok (.invokevirtual 47, 3) := by decide +kernel
theorem dL_refused_236 : decode cL_refused 236 = .ok (.iconst (-1), 1) := by decide +kernel
theorem dL_refused_237 : decode cL_refused 237 = .ok (.if_icmp .ne 191, 3) := by decide +kernel
theorem dL_refused_240 : decode cL_refused 240 = .ok (.aload_n 0, 1) := by decide +kernel
theorem dL_refused_241 : decode cL_refused 241 = .ok (.iconst 0, 1) := by decide +kernel
theorem dL_refused_242 : decode cL_refused 242 = .ok (.iload_n 2, 1) := by decide +kernel
theorem dL_refused_243 : decode cL_refused 243 = .ok (.invokevirtual 47, 3) := by decide +kernel
theorem dL_refused_246 : decode cL_refused 246 = .ok (.bipush (-2), 2) := by decide +kernel
theorem dL_refused_248 : decode cL_refused 248 = .ok (.if_icmp .ne 180, 3) := by decide +kernel
theorem dL_refused_251 : decode cL_refused 251 = .ok (.aload_n 0, 1) := by decide +kernel
theorem dL_refused_252 : decode cL_refused 252 = .ok (.iload_n 2, 1) := by decide +kernel
theorem dL_refused_253 : decode cL_refused 253 = .ok (.invokevirtual 50, 3) := by decide +kernel
theorem dL_refused_256 : decode cL_refused 256 = .ok (.bipush (-2), 2) := by decide +kernel
theorem dL_refused_258 : decode cL_refused 258 = .ok (.if_icmp .ne 170, 3) := by decide +kernel
theorem dL_refused_261 : decode cL_refused 261 = .ok (.aload_n 0, 1) := by decide +kernel
theorem dL_refused_262 : decode cL_refused 262 = .ok (.iload_n 2, 1) := by decide +kernel
theorem dL_refused_263 : decode cL_refused 263 = .ok (.iconst 0, 1) := by decide +kernel
theorem dL_refused_264 : decode cL_refused 264 = .ok (.iconst 0, 1) := by decide +kernel
theorem dL_refused_265 : decode cL_refused 265 = .ok (.invokevirtual 54, 3) := by decide +kernel
theorem dL_refused_268 : decode cL_refused 268 = .ok (.bipush (-2), 2) := by decide +kernel
theorem dL_refused_270 : decode cL_refused 270 = .ok (.if_icmp .ne 158, 3) := by decide +kernel
theorem dL_refused_273 : decode cL_refused 273 = .ok (.aload_n 0, 1) := by decide +kernel
theorem dL_refused_274 : decode cL_refused 274 = .ok (.iconst 0, 1) := by decide +kernel
theorem dL_refused_275 : decode cL_refused 275 = .ok (.iload_n 2, 1) := by decide +kernel
theorem dL_refused_276 : decode cL_refused 276 = .ok (.iconst 0, 1) := by decide +kernel
theorem dL_refused_277 : decode cL_refused 277 = .ok (.invokevirtual 54, 3) := by decide +kernel
theorem dL_refused_280 : decode cL_refused 280 = .ok (.iconst (-1), 1) := by decide +kernel
theorem dL_refused_281 : decode cL_refused 281 = .ok (.if_icmp .ne 147, 3) := by decide +kernel
theorem dL_refused_284 : decode cL_refused 284 = .ok (.aload_n 0, 1) := by decide +kernel
theorem dL_refused_285 : decode cL_refused 285 = .ok (.iconst 0, 1) := by decide +kernel
theorem dL_refused_286 : decode cL_refused 286 = .ok (.iconst 0, 1) := by decide +kernel
theorem dL_refused_287 : decode cL_refused 287 = .ok (.iload_n 2, 1) := by decide +kernel
theorem dL_refused_288 : decode cL_refused 288 = .ok (.invokevirtual 54, 3) := by decide +kernel
theorem dL_refused_291 : decode cL_refused 291 = .ok (.bipush (-2), 2) := by decide +kernel
theorem dL_refused_293 : decode cL_refused 293 = .ok (.if_icmp .ne 135, 3) := by decide +kernel
theorem dL_refused_296 : decode cL_refused 296 = .ok (.aload_n 0, 1) := by decide +kernel
theorem dL_refused_297 : decode cL_refused 297 = .ok (.iload_n 2, 1) := by decide +kernel
theorem dL_refused_298 : decode cL_refused 298 = .ok (.invokevirtual 58, 3) := by decide +kernel
theorem dL_refused_301 : decode cL_refused 301 = .ok (.bipush (-2), 2) := by decide +kernel
theorem dL_refused_303 : decode cL_refused 303 = .ok (.if_icmp .ne 125, 3) := by decide +kernel
theorem dL_refused_306 : decode cL_refused 306 = .ok (.aload_n 0, 1) := by decide +kernel
theorem dL_refused_307 : decode cL_refused 307 = .ok (.iconst 0, 1) := by decide +kernel
theorem dL_refused_308 : decode cL_refused 308 = .ok (.invokevirtual 58, 3) := by decide +kernel
theorem dL_refused_311 : decode cL_refused 311 = .ok (.bipush (-6), 2) := by decide +kernel
theorem dL_refused_313 : decode cL_refused 313 = .ok (.if_icmp .ne 115, 3) := by decide +kernel
theorem dL_refused_316 : decode cL_refused 316 = .ok (.aload_n 0, 1) := by decide +kernel
theorem dL_refused_317 : decode cL_refused 317 = .ok (.iload_n 2, 1) := by decide +kernel
theorem dL_refused_318 : decode cL_refused 318 = .ok (.invokevirtual 61, 3) := by decide +kernel
theorem dL_refused_321 : decode cL_refused 321 = .ok (.ldc2_w 157, 3) := by decide +kernel
theorem dL_refused_324 : decode cL_refused 324 = .ok (.lcmp, 1) := by decide +kernel
theorem dL_refused_325 : decode cL_refused 325 = .ok (.ifCond .ne 103, 3) := by decide +kernel
theorem dL_refused_328 : decode cL_refused 328 = .ok (.aload_n 0, 1) := by decide +kernel
theorem dL_refused_329 : decode cL_refused 329 = .ok (.iconst 2, 1) := by decide +kernel
theorem dL_refused_330 : decode cL_refused 330 = .ok (.invokevirtual 61, 3) := by decide +kernel
theorem dL_refused_333 : decode cL_refused 333 = .ok (.ldc2_w 159, 3) := by decide +kernel
theorem dL_refused_336 : decode cL_refused 336 = .ok (.lcmp, 1) := by decide +kernel
theorem dL_refused_337 : decode cL_refused 337 = .ok (.ifCond .ne 91, 3) := by decide +kernel
theorem dL_refused_340 : decode cL_refused 340 = .ok (.aload_n 0, 1) := by decide +kernel
theorem dL_refused_341 : decode cL_refused 341 = .ok (.iload_n 2, 1) := by decide +kernel
theorem dL_refused_342 : decode cL_refused 342 = .ok (.invokevirtual 143, 3) := by decide +kernel
theorem dL_refused_345 : decode cL_refused 345 = .ok (.iconst (-1), 1) := by decide +kernel
theorem dL_refused_346 : decode cL_refused 346 = .ok (.if_icmp .ne 82, 3) := by decide +kernel
theorem dL_refused_349 : decode cL_refused 349 = .ok (.aload_n 0, 1) := by decide +kernel
theorem dL_refused_350 : decode cL_refused 350 = .ok (.iconst 0, 1) := by decide +kernel
theorem dL_refused_351 : decode cL_refused 351 = .ok (.invokevirtual 143, 3) := by decide +kernel
theorem dL_refused_354 : decode cL_refused 354 = .ok (.ifCond .ne 74, 3) := by decide +kernel
theorem dL_refused_357 : decode cL_refused 357 = .ok (.aload_n 0, 1) := by decide +kernel
theorem dL_refused_358 : decode cL_refused 358 = .ok (.lconst 0, 1) := by decide +kernel
theorem dL_refused_359 : decode cL_refused 359 = .ok (.invokevirtual 120, 3) := by decide +kernel
theorem dL_refused_362 : decode cL_refused 362 = .ok (.bipush (-2), 2) := by decide +kernel
theorem dL_refused_364 : decode cL_refused 364 = .ok (.if_icmp .ne 64, 3) := by decide +kernel
theorem dL_refused_367 : decode cL_refused 367 = .ok (.aload_n 0, 1) := by decide +kernel
theorem dL_refused_368 : decode cL_refused 368 = .ok (.invokevirtual 137, 3) := by decide +kernel
theorem dL_refused_371 : decode cL_refused 371 = .ok (.bipush (-3), 2) := by decide +kernel
theorem dL_refused_373 : decode cL_refused 373 = .ok (.if_icmp .ne 55, 3) := by decide +kernel
theorem dL_refused_376 : decode cL_refused 376 = .ok (.aload_n 0, 1) := by decide +kernel
theorem dL_refused_377 : decode cL_refused 377 = .ok (.iload_n 2, 1) := by decide +kernel
theorem dL_refused_378 : decode cL_refused 378 = .ok (.invokevirtual 146, 3) := by decide +kernel
theorem dL_refused_381 : decode cL_refused 381 = .ok (.bipush (-2), 2) := by decide +kernel
theorem dL_refused_383 : decode cL_refused 383 = .ok (.if_icmp .ne 45, 3) := by decide +kernel
theorem dL_refused_386 : decode cL_refused 386 = .ok (.aload_n 0, 1) := by decide +kernel
theorem dL_refused_387 : decode cL_refused 387 = .ok (.iload_n 2, 1) := by decide +kernel
theorem dL_refused_388 : decode cL_refused 388 = .ok (.invokevirtual 149, 3) := by decide +kernel
theorem dL_refused_391 : decode cL_refused 391 = .ok (.bipush (-2), 2) := by decide +kernel
theorem dL_refused_393 : decode cL_refused 393 = .ok (.if_icmp .ne 35, 3) := by decide +kernel
theorem dL_refused_396 : decode cL_refused 396 = .ok (.aload_n 0, 1) := by decide +kernel
theorem dL_refused_397 : decode cL_refused 397 = .ok (.iconst 0, 1) := by decide +kernel
theorem dL_refused_398 : decode cL_refused 398 = .ok (.invokevirtual 149, 3) := by decide +kernel
theorem dL_refused_401 : decode cL_refused 401 = .ok (.bipush (-5), 2) := by decide +kernel
theorem dL_refused_403 : decode cL_refused 403 = .ok (.if_icmp .ne 25, 3) := by decide +kernel
theorem dL_refused_406 : decode cL_refused 406 = .ok (.aload_n 0, 1) := by decide +kernel
theorem dL_refused_407 : decode cL_refused 407 = .ok (.invokevirtual 140, 3) := by decide +kernel
theorem dL_refused_410 : decode cL_refused 410 = .ok (.bipush (-5), 2) := by decide +kernel
theorem dL_refused_412 : decode cL_refused 412 = .ok (.if_icmp .ne 16, 3) := by decide +kernel
theorem dL_refused_415 : decode cL_refused 415 = .ok (.aload_n 0, 1) := by decide +kernel
theorem dL_refused_416 : decode cL_refused 416 = .ok (.bipush 18, 2) := by decide +kernel
theorem dL_refused_418 : decode cL_refused 418 = .ok (.invokevirtual 50, 3) := by decide +kernel
theorem dL_refused_421 : decode cL_refused 421 = .ok (.ifCond .ne 7, 3) := by decide +kernel
theorem dL_refused_424 : decode cL_refused 424 = .ok (.iconst 1, 1) := by decide +kernel
theorem dL_refused_425 : decode cL_refused 425 = .ok (.goto 4, 3) := by decide +kernel
theorem dL_refused_428 : decode cL_refused 428 = .ok (.iconst 0, 1) := by decide +kernel
theorem dL_refused_429 : decode cL_refused 429 = .ok (.ireturn, 1) := by decide +kernel
