/-! Printed by wip/whole/print_names.py: decode rows -/
theorem gd_L_law_1165 : decode F_L_law.2.1 1165 = .ok (.iaload, 1) := by decide +kernel
theorem gd_L_law_1166 : decode F_L_law.2.1 1166 = .ok (.aload_n 0, 1) := by decide +kernel
theorem gd_L_law_1167 : decode F_L_law.2.1 1167 = .ok (.iload 4, 2) := by decide +kernel
theorem gd_L_law_1169 : decode F_L_law.2.1 1169 = .ok (.iconst 2, 1) := by decide +kernel
theorem gd_L_law_1170 : decode F_L_law.2.1 1170 = .ok (.iadd, 1) := by decide +kernel
theorem gd_L_law_1171 : decode F_L_law.2.1 1171 = .ok (.iaload, 1) := by decide +kernel
theorem gd_L_law_1172 : decode F_L_law.2.1 1172 = .ok (.aload_n 0, 1) := by decide +kernel
theorem gd_L_law_1173 : decode F_L_law.2.1 1173 = .ok (.iload 4, 2) := by decide +kernel
theorem gd_L_law_1175 : decode F_L_law.2.1 1175 = .ok (.iconst 3, 1) := by decide +kernel
theorem gd_L_law_1176 : decode F_L_law.2.1 1176 = .ok (.iadd, 1) := by decide +kernel
theorem gd_L_law_1177 : decode F_L_law.2.1 1177 = .ok (.iaload, 1) := by decide +kernel
theorem gd_L_law_1178 : decode F_L_law.2.1 1178 = .ok (.invokevirtual 151, 3) := by decide +kernel
theorem gd_L_law_1181 : decode F_L_law.2.1 1181 = .ok (.lstore 6, 2) := by decide +kernel
theorem gd_L_law_1183 : decode F_L_law.2.1 1183 = .ok (.aload_n 2, 1) := by decide +kernel
theorem gd_L_law_1184 : decode F_L_law.2.1 1184 = .ok (.invokevirtual 95, 3) := by decide +kernel
theorem gd_L_law_1187 : decode F_L_law.2.1 1187 = .ok (.iload 5, 2) := by decide +kernel
theorem gd_L_law_1189 : decode F_L_law.2.1 1189 = .ok (.if_icmp .eq 5, 3) := by decide +kernel
theorem gd_L_law_1192 : decode F_L_law.2.1 1192 = .ok (.iconst 0, 1) := by decide +kernel
theorem gd_L_law_1193 : decode F_L_law.2.1 1193 = .ok (.ireturn, 1) := by decide +kernel
theorem gd_L_law_1194 : decode F_L_law.2.1 1194 = .ok (.iload 5, 2) := by decide +kernel
theorem gd_L_law_1196 : decode F_L_law.2.1 1196 = .ok (.ifCond .ne 14, 3) := by decide +kernel
theorem gd_L_law_1199 : decode F_L_law.2.1 1199 = .ok (.aload_n 3, 1) := by decide +kernel
theorem gd_L_law_1200 : decode F_L_law.2.1 1200 = .ok (.iconst 0, 1) := by decide +kernel
theorem gd_L_law_1201 : decode F_L_law.2.1 1201 = .ok (.laload, 1) := by decide +kernel
theorem gd_L_law_1202 : decode F_L_law.2.1 1202 = .ok (.lload 6, 2) := by decide +kernel
theorem gd_L_law_1204 : decode F_L_law.2.1 1204 = .ok (.lcmp, 1) := by decide +kernel
theorem gd_L_law_1205 : decode F_L_law.2.1 1205 = .ok (.ifCond .eq 5, 3) := by decide +kernel
theorem gd_L_law_1208 : decode F_L_law.2.1 1208 = .ok (.iconst 0, 1) := by decide +kernel
theorem gd_L_law_1209 : decode F_L_law.2.1 1209 = .ok (.ireturn, 1) := by decide +kernel
theorem gd_L_law_1210 : decode F_L_law.2.1 1210 = .ok (.goto 301, 3) := by decide +kernel
theorem gd_L_law_1213 : decode F_L_law.2.1 1213 = .ok (.aload_n 1, 1) := by decide +kernel
theorem gd_L_law_1214 : decode F_L_law.2.1 1214 = .ok (.aload_n 0, 1) := by decide +kernel
theorem gd_L_law_1215 : decode F_L_law.2.1 1215 = .ok (.iload 4, 2) := by decide +kernel
theorem gd_L_law_1217 : decode F_L_law.2.1 1217 = .ok (.iconst 1, 1) := by decide +kernel
theorem gd_L_law_1218 : decode F_L_law.2.1 1218 = .ok (.iadd, 1) := by decide +kernel
theorem gd_L_law_1219 : decode F_L_law.2.1 1219 = .ok (.iaload, 1) := by decide +kernel
theorem gd_L_law_1220 : decode F_L_law.2.1 1220 = .ok (.aload_n 3, 1) := by decide +kernel
theorem gd_L_law_1221 : decode F_L_law.2.1 1221 = .ok (.invokestatic 152, 3) := by decide +kernel
theorem gd_L_law_1224 : decode F_L_law.2.1 1224 = .ok (.istore 5, 2) := by decide +kernel
theorem gd_L_law_1226 : decode F_L_law.2.1 1226 = .ok (.aload_n 2, 1) := by decide +kernel
theorem gd_L_law_1227 : decode F_L_law.2.1 1227 = .ok (.aload_n 0, 1) := by decide +kernel
theorem gd_L_law_1228 : decode F_L_law.2.1 1228 = .ok (.iload 4, 2) := by decide +kernel
theorem gd_L_law_1230 : decode F_L_law.2.1 1230 = .ok (.iconst 1, 1) := by decide +kernel
theorem gd_L_law_1231 : decode F_L_law.2.1 1231 = .ok (.iadd, 1) := by decide +kernel
theorem gd_L_law_1232 : decode F_L_law.2.1 1232 = .ok (.iaload, 1) := by decide +kernel
theorem gd_L_law_1233 : decode F_L_law.2.1 1233 = .ok (.invokevirtual 154, 3) := by decide +kernel
theorem gd_L_law_1236 : decode F_L_law.2.1 1236 = .ok (.istore 6, 2) := by decide +kernel
theorem gd_L_law_1238 : decode F_L_law.2.1 1238 = .ok (.aload_n 2, 1) := by decide +kernel
theorem gd_L_law_1239 : decode F_L_law.2.1 1239 = .ok (.invokevirtual 95, 3) := by decide +kernel
theorem gd_L_law_1242 : decode F_L_law.2.1 1242 = .ok (.iload 5, 2) := by decide +kernel
theorem gd_L_law_1244 : decode F_L_law.2.1 1244 = .ok (.if_icmp .eq 5, 3) := by decide +kernel
theorem gd_L_law_1247 : decode F_L_law.2.1 1247 = .ok (.iconst 0, 1) := by decide +kernel
theorem gd_L_law_1248 : decode F_L_law.2.1 1248 = .ok (.ireturn, 1) := by decide +kernel
theorem gd_L_law_1249 : decode F_L_law.2.1 1249 = .ok (.iload 5, 2) := by decide +kernel
theorem gd_L_law_1251 : decode F_L_law.2.1 1251 = .ok (.ifCond .ne 15, 3) := by decide +kernel
theorem gd_L_law_1254 : decode F_L_law.2.1 1254 = .ok (.aload_n 3, 1) := by decide +kernel
theorem gd_L_law_1255 : decode F_L_law.2.1 1255 = .ok (.iconst 0, 1) := by decide +kernel
theorem gd_L_law_1256 : decode F_L_law.2.1 1256 = .ok (.laload, 1) := by decide +kernel
theorem gd_L_law_1257 : decode F_L_law.2.1 1257 = .ok (.iload 6, 2) := by decide +kernel
theorem gd_L_law_1259 : decode F_L_law.2.1 1259 = .ok (.i2l, 1) := by decide +kernel
theorem gd_L_law_1260 : decode F_L_law.2.1 1260 = .ok (.lcmp, 1) := by decide +kernel
theorem gd_L_law_1261 : decode F_L_law.2.1 1261 = .ok (.ifCond .eq 5, 3) := by decide +kernel
theorem gd_L_law_1264 : decode F_L_law.2.1 1264 = .ok (.iconst 0, 1) := by decide +kernel
theorem gd_L_law_1265 : decode F_L_law.2.1 1265 = .ok (.ireturn, 1) := by decide +kernel
theorem gd_L_law_1266 : decode F_L_law.2.1 1266 = .ok (.goto 245, 3) := by decide +kernel
theorem gd_L_law_1269 : decode F_L_law.2.1 1269 = .ok (.aload_n 1, 1) := by decide +kernel
theorem gd_L_law_1270 : decode F_L_law.2.1 1270 = .ok (.aload_n 0, 1) := by decide +kernel
theorem gd_L_law_1271 : decode F_L_law.2.1 1271 = .ok (.iload 4, 2) := by decide +kernel
theorem gd_L_law_1273 : decode F_L_law.2.1 1273 = .ok (.iconst 1, 1) := by decide +kernel
theorem gd_L_law_1274 : decode F_L_law.2.1 1274 = .ok (.iadd, 1) := by decide +kernel
theorem gd_L_law_1275 : decode F_L_law.2.1 1275 = .ok (.iaload, 1) := by decide +kernel
theorem gd_L_law_1276 : decode F_L_law.2.1 1276 = .ok (.aload_n 0, 1) := by decide +kernel
theorem gd_L_law_1277 : decode F_L_law.2.1 1277 = .ok (.iload 4, 2) := by decide +kernel
theorem gd_L_law_1279 : decode F_L_law.2.1 1279 = .ok (.iconst 2, 1) := by decide +kernel
theorem gd_L_law_1280 : decode F_L_law.2.1 1280 = .ok (.iadd, 1) := by decide +kernel
theorem gd_L_law_1281 : decode F_L_law.2.1 1281 = .ok (.iaload, 1) := by decide +kernel
theorem gd_L_law_1282 : decode F_L_law.2.1 1282 = .ok (.aload_n 3, 1) := by decide +kernel
theorem gd_L_law_1283 : decode F_L_law.2.1 1283 = .ok (.invokestatic 155, 3) := by decide +kernel
theorem gd_L_law_1286 : decode F_L_law.2.1 1286 = .ok (.istore 5, 2) := by decide +kernel
theorem gd_L_law_1288 : decode F_L_law.2.1 1288 = .ok (.aload_n 2, 1) := by decide +kernel
theorem gd_L_law_1289 : decode F_L_law.2.1 1289 = .ok (.aload_n 0, 1) := by decide +kernel
theorem gd_L_law_1290 : decode F_L_law.2.1 1290 = .ok (.iload 4, 2) := by decide +kernel
theorem gd_L_law_1292 : decode F_L_law.2.1 1292 = .ok (.iconst 1, 1) := by decide +kernel
theorem gd_L_law_1293 : decode F_L_law.2.1 1293 = .ok (.iadd, 1) := by decide +kernel
theorem gd_L_law_1294 : decode F_L_law.2.1 1294 = .ok (.iaload, 1) := by decide +kernel
theorem gd_L_law_1295 : decode F_L_law.2.1 1295 = .ok (.aload_n 0, 1) := by decide +kernel
theorem gd_L_law_1296 : decode F_L_law.2.1 1296 = .ok (.iload 4, 2) := by decide +kernel
theorem gd_L_law_1298 : decode F_L_law.2.1 1298 = .ok (.iconst 2, 1) := by decide +kernel
theorem gd_L_law_1299 : decode F_L_law.2.1 1299 = .ok (.iadd, 1) := by decide +kernel
theorem gd_L_law_1300 : decode F_L_law.2.1 1300 = .ok (.iaload, 1) := by decide +kernel
theorem gd_L_law_1301 : decode F_L_law.2.1 1301 = .ok (.invokevirtual 157, 3) := by decide +kernel
theorem gd_L_law_1304 : decode F_L_law.2.1 1304 = .ok (.istore 6, 2) := by decide +kernel
theorem gd_L_law_1306 : decode F_L_law.2.1 1306 = .ok (.aload_n 2, 1) := by decide +kernel
theorem gd_L_law_1307 : decode F_L_law.2.1 1307 = .ok (.invokevirtual 95, 3) := by decide +kernel
theorem gd_L_law_1310 : decode F_L_law.2.1 1310 = .ok (.iload 5, 2) := by decide +kernel
theorem gd_L_law_1312 : decode F_L_law.2.1 1312 = .ok (.if_icmp .eq 5, 3) := by decide +kernel
theorem gd_L_law_1315 : decode F_L_law.2.1 1315 = .ok (.iconst 0, 1) := by decide +kernel
theorem gd_L_law_1316 : decode F_L_law.2.1 1316 = .ok (.ireturn, 1) := by decide +kernel
theorem gd_L_law_1317 : decode F_L_law.2.1 1317 = .ok (.iload 5, 2) := by decide +kernel
theorem gd_L_law_1319 : decode F_L_law.2.1 1319 = .ok (.ifCond .ne 15, 3) := by decide +kernel
theorem gd_L_law_1322 : decode F_L_law.2.1 1322 = .ok (.aload_n 3, 1) := by decide +kernel
theorem gd_L_law_1323 : decode F_L_law.2.1 1323 = .ok (.iconst 0, 1) := by decide +kernel
theorem gd_L_law_1324 : decode F_L_law.2.1 1324 = .ok (.laload, 1) := by decide +kernel
theorem gd_L_law_1325 : decode F_L_law.2.1 1325 = .ok (.iload 6, 2) := by decide +kernel
theorem gd_L_law_1327 : decode F_L_law.2.1 1327 = .ok (.i2l, 1) := by decide +kernel
theorem gd_L_law_1328 : decode F_L_law.2.1 1328 = .ok (.lcmp, 1) := by decide +kernel
theorem gd_L_law_1329 : decode F_L_law.2.1 1329 = .ok (.ifCond .eq 5, 3) := by decide +kernel
theorem gd_L_law_1332 : decode F_L_law.2.1 1332 = .ok (.iconst 0, 1) := by decide +kernel
theorem gd_L_law_1333 : decode F_L_law.2.1 1333 = .ok (.ireturn, 1) := by decide +kernel
theorem gd_L_law_1334 : decode F_L_law.2.1 1334 = .ok (.goto 177, 3) := by decide +kernel
theorem gd_L_law_1337 : decode F_L_law.2.1 1337 = .ok (.aload_n 1, 1) := by decide +kernel
theorem gd_L_law_1338 : decode F_L_law.2.1 1338 = .ok (.aload_n 0, 1) := by decide +kernel
theorem gd_L_law_1339 : decode F_L_law.2.1 1339 = .ok (.iload 4, 2) := by decide +kernel
theorem gd_L_law_1341 : decode F_L_law.2.1 1341 = .ok (.iconst 1, 1) := by decide +kernel
theorem gd_L_law_1342 : decode F_L_law.2.1 1342 = .ok (.iadd, 1) := by decide +kernel
theorem gd_L_law_1343 : decode F_L_law.2.1 1343 = .ok (.iaload, 1) := by decide +kernel
theorem gd_L_law_1344 : decode F_L_law.2.1 1344 = .ok (.aload_n 3, 1) := by decide +kernel
theorem gd_L_law_1345 : decode F_L_law.2.1 1345 = .ok (.invokestatic 158, 3) := by decide +kernel
theorem gd_L_law_1348 : decode F_L_law.2.1 1348 = .ok (.istore 5, 2) := by decide +kernel
theorem gd_L_law_1350 : decode F_L_law.2.1 1350 = .ok (.aload_n 2, 1) := by decide +kernel
theorem gd_L_law_1351 : decode F_L_law.2.1 1351 = .ok (.aload_n 0, 1) := by decide +kernel
theorem gd_L_law_1352 : decode F_L_law.2.1 1352 = .ok (.iload 4, 2) := by decide +kernel
theorem gd_L_law_1354 : decode F_L_law.2.1 1354 = .ok (.iconst 1, 1) := by decide +kernel
theorem gd_L_law_1355 : decode F_L_law.2.1 1355 = .ok (.iadd, 1) := by decide +kernel
theorem gd_L_law_1356 : decode F_L_law.2.1 1356 = .ok (.iaload, 1) := by decide +kernel
theorem gd_L_law_1357 : decode F_L_law.2.1 1357 = .ok (.invokevirtual 160, 3) := by decide +kernel
theorem gd_L_law_1360 : decode F_L_law.2.1 1360 = .ok (.istore 6, 2) := by decide +kernel
theorem gd_L_law_1362 : decode F_L_law.2.1 1362 = .ok (.aload_n 2, 1) := by decide +kernel
theorem gd_L_law_1363 : decode F_L_law.2.1 1363 = .ok (.invokevirtual 95, 3) := by decide +kernel
theorem gd_L_law_1366 : decode F_L_law.2.1 1366 = .ok (.iload 5, 2) := by decide +kernel
theorem gd_L_law_1368 : decode F_L_law.2.1 1368 = .ok (.if_icmp .eq 5, 3) := by decide +kernel
theorem gd_L_law_1371 : decode F_L_law.2.1 1371 = .ok (.iconst 0, 1) := by decide +kernel
theorem gd_L_law_1372 : decode F_L_law.2.1 1372 = .ok (.ireturn, 1) := by decide +kernel
theorem gd_L_law_1373 : decode F_L_law.2.1 1373 = .ok (.iload 5, 2) := by decide +kernel
theorem gd_L_law_1375 : decode F_L_law.2.1 1375 = .ok (.ifCond .ne 15, 3) := by decide +kernel
theorem gd_L_law_1378 : decode F_L_law.2.1 1378 = .ok (.aload_n 3, 1) := by decide +kernel
theorem gd_L_law_1379 : decode F_L_law.2.1 1379 = .ok (.iconst 0, 1) := by decide +kernel
theorem gd_L_law_1380 : decode F_L_law.2.1 1380 = .ok (.laload, 1) := by decide +kernel
theorem gd_L_law_1381 : decode F_L_law.2.1 1381 = .ok (.iload 6, 2) := by decide +kernel
theorem gd_L_law_1383 : decode F_L_law.2.1 1383 = .ok (.i2l, 1) := by decide +kernel
theorem gd_L_law_1384 : decode F_L_law.2.1 1384 = .ok (.lcmp, 1) := by decide +kernel
theorem gd_L_law_1385 : decode F_L_law.2.1 1385 = .ok (.ifCond .eq 5, 3) := by decide +kernel
theorem gd_L_law_1388 : decode F_L_law.2.1 1388 = .ok (.iconst 0, 1) := by decide +kernel
theorem gd_L_law_1389 : decode F_L_law.2.1 1389 = .ok (.ireturn, 1) := by decide +kernel
theorem gd_L_law_1390 : decode F_L_law.2.1 1390 = .ok (.goto 121, 3) := by decide +kernel
theorem gd_L_law_1393 : decode F_L_law.2.1 1393 = .ok (.aload_n 1, 1) := by decide +kernel
theorem gd_L_law_1394 : decode F_L_law.2.1 1394 = .ok (.aload_n 0, 1) := by decide +kernel
theorem gd_L_law_1395 : decode F_L_law.2.1 1395 = .ok (.iload 4, 2) := by decide +kernel
theorem gd_L_law_1397 : decode F_L_law.2.1 1397 = .ok (.iconst 1, 1) := by decide +kernel
theorem gd_L_law_1398 : decode F_L_law.2.1 1398 = .ok (.iadd, 1) := by decide +kernel
theorem gd_L_law_1399 : decode F_L_law.2.1 1399 = .ok (.iaload, 1) := by decide +kernel
theorem gd_L_law_1400 : decode F_L_law.2.1 1400 = .ok (.aload_n 0, 1) := by decide +kernel
theorem gd_L_law_1401 : decode F_L_law.2.1 1401 = .ok (.iload 4, 2) := by decide +kernel
theorem gd_L_law_1403 : decode F_L_law.2.1 1403 = .ok (.iconst 2, 1) := by decide +kernel
theorem gd_L_law_1404 : decode F_L_law.2.1 1404 = .ok (.iadd, 1) := by decide +kernel
theorem gd_L_law_1405 : decode F_L_law.2.1 1405 = .ok (.iaload, 1) := by decide +kernel
theorem gd_L_law_1406 : decode F_L_law.2.1 1406 = .ok (.aload_n 0, 1) := by decide +kernel
theorem gd_L_law_1407 : decode F_L_law.2.1 1407 = .ok (.iload 4, 2) := by decide +kernel
theorem gd_L_law_1409 : decode F_L_law.2.1 1409 = .ok (.iconst 3, 1) := by decide +kernel
theorem gd_L_law_1410 : decode F_L_law.2.1 1410 = .ok (.iadd, 1) := by decide +kernel
theorem gd_L_law_1411 : decode F_L_law.2.1 1411 = .ok (.iaload, 1) := by decide +kernel
theorem gd_L_law_1412 : decode F_L_law.2.1 1412 = .ok (.aload_n 0, 1) := by decide +kernel
theorem gd_L_law_1413 : decode F_L_law.2.1 1413 = .ok (.iload 4, 2) := by decide +kernel
theorem gd_L_law_1415 : decode F_L_law.2.1 1415 = .ok (.iconst 4, 1) := by decide +kernel
theorem gd_L_law_1416 : decode F_L_law.2.1 1416 = .ok (.iadd, 1) := by decide +kernel
theorem gd_L_law_1417 : decode F_L_law.2.1 1417 = .ok (.iaload, 1) := by decide +kernel
theorem gd_L_law_1418 : decode F_L_law.2.1 1418 = .ok (.aload_n 3, 1) := by decide +kernel
theorem gd_L_law_1419 : decode F_L_law.2.1 1419 = .ok (.invokestatic 161, 3) := by decide +kernel
theorem gd_L_law_1422 : decode F_L_law.2.1 1422 = .ok (.istore 5, 2) := by decide +kernel
theorem gd_L_law_1424 : decode F_L_law.2.1 1424 = .ok (.aload_n 2, 1) := by decide +kernel
theorem gd_L_law_1425 : decode F_L_law.2.1 1425 = .ok (.aload_n 0, 1) := by decide +kernel
theorem gd_L_law_1426 : decode F_L_law.2.1 1426 = .ok (.iload 4, 2) := by decide +kernel
theorem gd_L_law_1428 : decode F_L_law.2.1 1428 = .ok (.iconst 1, 1) := by decide +kernel
theorem gd_L_law_1429 : decode F_L_law.2.1 1429 = .ok (.iadd, 1) := by decide +kernel
theorem gd_L_law_1430 : decode F_L_law.2.1 1430 = .ok (.iaload, 1) := by decide +kernel
theorem gd_L_law_1431 : decode F_L_law.2.1 1431 = .ok (.aload_n 0, 1) := by decide +kernel
theorem gd_L_law_1432 : decode F_L_law.2.1 1432 = .ok (.iload 4, 2) := by decide +kernel
theorem gd_L_law_1434 : decode F_L_law.2.1 1434 = .ok (.iconst 2, 1) := by decide +kernel
theorem gd_L_law_1435 : decode F_L_law.2.1 1435 = .ok (.iadd, 1) := by decide +kernel
theorem gd_L_law_1436 : decode F_L_law.2.1 1436 = .ok (.iaload, 1) := by decide +kernel
theorem gd_L_law_1437 : decode F_L_law.2.1 1437 = .ok (.aload_n 0, 1) := by decide +kernel
theorem gd_L_law_1438 : decode F_L_law.2.1 1438 = .ok (.iload 4, 2) := by decide +kernel
theorem gd_L_law_1440 : decode F_L_law.2.1 1440 = .ok (.iconst 3, 1) := by decide +kernel
theorem gd_L_law_1441 : decode F_L_law.2.1 1441 = .ok (.iadd, 1) := by decide +kernel
theorem gd_L_law_1442 : decode F_L_law.2.1 1442 = .ok (.iaload, 1) := by decide +kernel
theorem gd_L_law_1443 : decode F_L_law.2.1 1443 = .ok (.aload_n 0, 1) := by decide +kernel
theorem gd_L_law_1444 : decode F_L_law.2.1 1444 = .ok (.iload 4, 2) := by decide +kernel
theorem gd_L_law_1446 : decode F_L_law.2.1 1446 = .ok (.iconst 4, 1) := by decide +kernel
theorem gd_L_law_1447 : decode F_L_law.2.1 1447 = .ok (.iadd, 1) := by decide +kernel
theorem gd_L_law_1448 : decode F_L_law.2.1 1448 = .ok (.iaload, 1) := by decide +kernel
theorem gd_L_law_1449 : decode F_L_law.2.1 1449 = .ok (.invokevirtual 163, 3) := by decide +kernel
theorem gd_L_law_1452 : decode F_L_law.2.1 1452 = .ok (.istore 6, 2) := by decide +kernel
theorem gd_L_law_1454 : decode F_L_law.2.1 1454 = .ok (.aload_n 2, 1) := by decide +kernel
theorem gd_L_law_1455 : decode F_L_law.2.1 1455 = .ok (.invokevirtual 95, 3) := by decide +kernel
theorem gd_L_law_1458 : decode F_L_law.2.1 1458 = .ok (.iload 5, 2) := by decide +kernel
theorem gd_L_law_1460 : decode F_L_law.2.1 1460 = .ok (.if_icmp .eq 5, 3) := by decide +kernel
theorem gd_L_law_1463 : decode F_L_law.2.1 1463 = .ok (.iconst 0, 1) := by decide +kernel
theorem gd_L_law_1464 : decode F_L_law.2.1 1464 = .ok (.ireturn, 1) := by decide +kernel
theorem gd_L_law_1465 : decode F_L_law.2.1 1465 = .ok (.iload 5, 2) := by decide +kernel
theorem gd_L_law_1467 : decode F_L_law.2.1 1467 = .ok (.ifCond .ne 15, 3) := by decide +kernel
theorem gd_L_law_1470 : decode F_L_law.2.1 1470 = .ok (.aload_n 3, 1) := by decide +kernel
theorem gd_L_law_1471 : decode F_L_law.2.1 1471 = .ok (.iconst 0, 1) := by decide +kernel
theorem gd_L_law_1472 : decode F_L_law.2.1 1472 = .ok (.laload, 1) := by decide +kernel
theorem gd_L_law_1473 : decode F_L_law.2.1 1473 = .ok (.iload 6, 2) := by decide +kernel
theorem gd_L_law_1475 : decode F_L_law.2.1 1475 = .ok (.i2l, 1) := by decide +kernel
theorem gd_L_law_1476 : decode F_L_law.2.1 1476 = .ok (.lcmp, 1) := by decide +kernel
theorem gd_L_law_1477 : decode F_L_law.2.1 1477 = .ok (.ifCond .eq 5, 3) := by decide +kernel
theorem gd_L_law_1480 : decode F_L_law.2.1 1480 = .ok (.iconst 0, 1) := by decide +kernel
theorem gd_L_law_1481 : decode F_L_law.2.1 1481 = .ok (.ireturn, 1) := by decide +kernel
theorem gd_L_law_1482 : decode F_L_law.2.1 1482 = .ok (.goto 29, 3) := by decide +kernel
theorem gd_L_law_1485 : decode F_L_law.2.1 1485 = .ok (.aload_n 1, 1) := by decide +kernel
theorem gd_L_law_1486 : decode F_L_law.2.1 1486 = .ok (.invokevirtual 164, 3) := by decide +kernel
theorem gd_L_law_1489 : decode F_L_law.2.1 1489 = .ok (.aload_n 2, 1) := by decide +kernel
theorem gd_L_law_1490 : decode F_L_law.2.1 1490 = .ok (.invokevirtual 168, 3) := by decide +kernel
theorem gd_L_law_1493 : decode F_L_law.2.1 1493 = .ok (.if_icmp .eq 18, 3) := by decide +kernel
theorem gd_L_law_1496 : decode F_L_law.2.1 1496 = .ok (.iconst 0, 1) := by decide +kernel
theorem gd_L_law_1497 : decode F_L_law.2.1 1497 = .ok (.ireturn, 1) := by decide +kernel
theorem gd_L_law_1498 : decode F_L_law.2.1 1498 = .ok (.aload_n 1, 1) := by decide +kernel
theorem gd_L_law_1499 : decode F_L_law.2.1 1499 = .ok (.invokevirtual 169, 3) := by decide +kernel
theorem gd_L_law_1502 : decode F_L_law.2.1 1502 = .ok (.aload_n 2, 1) := by decide +kernel
theorem gd_L_law_1503 : decode F_L_law.2.1 1503 = .ok (.invokevirtual 172, 3) := by decide +kernel
theorem gd_L_law_1506 : decode F_L_law.2.1 1506 = .ok (.if_icmp .eq 5, 3) := by decide +kernel
theorem gd_L_law_1509 : decode F_L_law.2.1 1509 = .ok (.iconst 0, 1) := by decide +kernel
theorem gd_L_law_1510 : decode F_L_law.2.1 1510 = .ok (.ireturn, 1) := by decide +kernel
theorem gd_L_law_1511 : decode F_L_law.2.1 1511 = .ok (.iinc 4 5, 3) := by decide +kernel
theorem gd_L_law_1514 : decode F_L_law.2.1 1514 = .ok (.goto (-1491), 3) := by decide +kernel
theorem gd_L_law_1517 : decode F_L_law.2.1 1517 = .ok (.iconst 1, 1) := by decide +kernel
theorem gd_L_law_1518 : decode F_L_law.2.1 1518 = .ok (.ireturn, 1) := by decide +kernel
