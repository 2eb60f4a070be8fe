theorem dL_law_1167 : decode cL_law 1167 = .ok (.aload_n 1, 1) := by decide +kernel
theorem dL_law_1168 : decode cL_law 1168 = .ok (.invokevirtual 148, 3) := by decide +kernel
theorem dL_law_1171 : decode cL_law 1171 = .ok (.aload_n 2, 1) := by decide +kernel
theorem dL_law_1172 : decode cL_law 1172 = .ok (.invokevirtual 151, 3) := by decide +kernel
theorem dL_law_1175 : decode cL_law 1175 = .ok (.if_icmp .eq 440, 3) := by decide +kernel
theorem dL_law_1180 : decode cL_law 1180 = .ok (.aload_n 1, 1) := by decide +kernel
theorem dL_law_1181 : decode cL_law 1181 = .ok (.aload_n 0, 1) := by decide +kernel
theorem dL_law_1182 : decode cL_law 1182 = .ok (.iload 4, 2) := by decide +kernel
theorem dL_law_1184 : decode cL_law 1184 = .ok (.iconst 1, 1) := by decide +kernel
theorem dL_law_1185 : decode cL_law 1185 = .ok (.iadd, 1) := by decide +kernel
theorem dL_law_1186 : decode cL_law 1186 = .ok (.iaload, 1) := by decide +kernel
theorem dL_law_1187 : decode cL_law 1187 = .ok (.invokevirtual 152, 3) := by decide +kernel
theorem dL_law_1190 : decode cL_law 1190 = .ok (.aload_n 2, 1) := by decide +kernel
theorem dL_law_1191 : decode cL_law 1191 = .ok (.aload_n 0, 1) := by decide +kernel
theorem dL_law_1192 : decode cL_law 1192 = .ok (.iload 4, 2) := by decide +kernel
theorem dL_law_1194 : decode cL_law 1194 = .ok (.iconst 1, 1) := by decide +kernel
theorem dL_law_1195 : decode cL_law 1195 = .ok (.iadd, 1) := by decide +kernel
theorem dL_law_1196 : decode cL_law 1196 = .ok (.iaload, 1) := by decide +kernel
theorem dL_law_1197 : decode cL_law 1197 = .ok (.invokevirtual 155, 3) := by decide +kernel
theorem dL_law_1200 : decode cL_law 1200 = .ok (.if_icmp .eq 415, 3) := by decide +kernel
theorem dL_law_1205 : decode cL_law 1205 = .ok (.aload_n 1, 1) := by decide +kernel
theorem dL_law_1206 : decode cL_law 1206 = .ok (.aload_n 0, 1) := by decide +kernel
theorem dL_law_1207 : decode cL_law 1207 = .ok (.iload 4, 2) := by decide +kernel
theorem dL_law_1209 : decode cL_law 1209 = .ok (.iconst 1, 1) := by decide +kernel
theorem dL_law_1210 : decode cL_law 1210 = .ok (.iadd, 1) := by decide +kernel
theorem dL_law_1211 : decode cL_law 1211 = .ok (.iaload, 1) := by decide +kernel
theorem dL_law_1212 : decode cL_law 1212 = .ok (.aload_n 0, 1) := by decide +kernel
theorem dL_law_1213 : decode cL_law 1213 = .ok (.iload 4, 2) := by decide +kernel
theorem dL_law_1215 : decode cL_law 1215 = .ok (.iconst 2, 1) := by decide +kernel
theorem dL_law_1216 : decode cL_law 1216 = .ok (.iadd, 1) := by decide +kernel
theorem dL_law_1217 : decode cL_law 1217 = .ok (.iaload, 1) := by decide +kernel
theorem dL_law_1218 : decode cL_law 1218 = .ok (.aload_n 0, 1) := by decide +kernel
theorem dL_law_1219 : decode cL_law 1219 = .ok (.iload 4, 2) := by decide +kernel
theorem dL_law_1221 : decode cL_law 1221 = .ok (.iconst 3, 1) := by decide +kernel
theorem dL_law_1222 : decode cL_law 1222 = .ok (.iadd, 1) := by decide +kernel
theorem dL_law_1223 : decode cL_law 1223 = .ok (.iaload, 1) := by decide +kernel
theorem dL_law_1224 : decode cL_law 1224 = .ok (.aload_n 0, 1) := by decide +kernel
theorem dL_law_1225 : decode cL_law 1225 = .ok (.iload 4, 2) := by decide +kernel
theorem dL_law_1227 : decode cL_law 1227 = .ok (.iconst 4, 1) := by decide +kernel
theorem dL_law_1228 : decode cL_law 1228 = .ok (.iadd, 1) := by decide +kernel
theorem dL_law_1229 : decode cL_law 1229 = .ok (.iaload, 1) := by decide +kernel
theorem dL_law_1230 : decode cL_law 1230 = .ok (.invokevirtual 156, 3) := by decide +kernel
theorem dL_law_1233 : decode cL_law 1233 = .ok (.aload_n 2, 1) := by decide +kernel
theorem dL_law_1234 : decode cL_law 1234 = .ok (.aload_n 0, 1) := by decide +kernel
theorem dL_law_1235 : decode cL_law 1235 = .ok (.iload 4, 2) := by decide +kernel
theorem dL_law_1237 : decode cL_law 1237 = .ok (.iconst 1, 1) := by decide +kernel
theorem dL_law_1238 : decode cL_law 1238 = .ok (.iadd, 1) := by decide +kernel
theorem dL_law_1239 : decode cL_law 1239 = .ok (.iaload, 1) := by decide +kernel
theorem dL_law_1240 : decode cL_law 1240 = .ok (.aload_n 0, 1) := by decide +kernel
theorem dL_law_1241 : decode cL_law 1241 = .ok (.iload 4, 2) := by decide +kernel
theorem dL_law_1243 : decode cL_law 1243 = .ok (.iconst 2, 1) := by decide +kernel
theorem dL_law_1244 : decode cL_law 1244 = .ok (.iadd, 1) := by decide +kernel
theorem dL_law_1245 : decode cL_law 1245 = .ok (.iaload, 1) := by decide +kernel
theorem dL_law_1246 : decode cL_law 1246 = .ok (.aload_n 0, 1) := by decide +kernel
theorem dL_law_1247 : decode cL_law 1247 = .ok (.iload 4, 2) := by decide +kernel
theorem dL_law_1249 : decode cL_law 1249 = .ok (.iconst 3, 1) := by decide +kernel
theorem dL_law_1250 : decode cL_law 1250 = .ok (.iadd, 1) := by decide +kernel
theorem dL_law_1251 : decode cL_law 1251 = .ok (.iaload, 1) := by decide +kernel
theorem dL_law_1252 : decode cL_law 1252 = .ok (.aload_n 0, 1) := by decide +kernel
theorem dL_law_1253 : decode cL_law 1253 = .ok (.iload 4, 2) := by decide +kernel
theorem dL_law_1255 : decode cL_law 1255 = .ok (.iconst 4, 1) := by decide +kernel
theorem dL_law_1256 : decode cL_law 1256 = .ok (.iadd, 1) := by decide +kernel
theorem dL_law_1257 : decode cL_law 1257 = .ok (.iaload, 1) := by decide +kernel
theorem dL_law_1258 : decode cL_law 1258 = .ok (.invokevirtual 159, 3) := by decide +kernel
theorem dL_law_1261 : decode cL_law 1261 = .ok (.if_icmp .eq 354, 3) := by decide +kernel
theorem dL_law_1266 : decode cL_law 1266 = .ok (.aload_n 1, 1) := by decide +kernel
theorem dL_law_1267 : decode cL_law 1267 = .ok (.invokevirtual 160, 3) := by decide +kernel
theorem dL_law_1270 : decode cL_law 1270 = .ok (.aload_n 2, 1) := by decide +kernel
theorem dL_law_1271 : decode cL_law 1271 = .ok (.invokevirtual 163, 3) := by decide +kernel
theorem dL_law_1274 : decode cL_law 1274 = .ok (.if_icmp .eq 341, 3) := by decide +kernel
theorem dL_law_1279 : decode cL_law 1279 = .ok (.aload_n 1, 1) := by decide +kernel
theorem dL_law_1280 : decode cL_law 1280 = .ok (.aload_n 0, 1) := by decide +kernel
theorem dL_law_1281 : decode cL_law 1281 = .ok (.iload 4, 2) := by decide +kernel
theorem dL_law_1283 : decode cL_law 1283 = .ok (.iconst 1, 1) := by decide +kernel
theorem dL_law_1284 : decode cL_law 1284 = .ok (.iadd, 1) := by decide +kernel
theorem dL_law_1285 : decode cL_law 1285 = .ok (.iaload, 1) := by decide +kernel
theorem dL_law_1286 : decode cL_law 1286 = .ok (.aload_n 0, 1) := by decide +kernel
theorem dL_law_1287 : decode cL_law 1287 = .ok (.iload 4, 2) := by decide +kernel
theorem dL_law_1289 : decode cL_law 1289 = .ok (.iconst 2, 1) := by decide +kernel
theorem dL_law_1290 : decode cL_law 1290 = .ok (.iadd, 1) := by decide +kernel
theorem dL_law_1291 : decode cL_law 1291 = .ok (.iaload, 1) := by decide +kernel
theorem dL_law_1292 : decode cL_law 1292 = .ok (.invokevirtual 164, 3) := by decide +kernel
theorem dL_law_1295 : decode cL_law 1295 = .ok (.aload_n 2, 1) := by decide +kernel
theorem dL_law_1296 : decode cL_law 1296 = .ok (.aload_n 0, 1) := by decide +kernel
theorem dL_law_1297 : decode cL_law 1297 = .ok (.iload 4, 2) := by decide +kernel
theorem dL_law_1299 : decode cL_law 1299 = .ok (.iconst 1, 1) := by decide +kernel
theorem dL_law_1300 : decode cL_law 1300 = .ok (.iadd, 1) := by decide +kernel
theorem dL_law_1301 : decode cL_law 1301 = .ok (.iaload, 1) := by decide +kernel
theorem dL_law_1302 : decode cL_law 1302 = .ok (.aload_n 0, 1) := by decide +kernel
theorem dL_law_1303 : decode cL_law 1303 = .ok (.iload 4, 2) := by decide +kernel
theorem dL_law_1305 : decode cL_law 1305 = .ok (.iconst 2, 1) := by decide +kernel
theorem dL_law_1306 : decode cL_law 1306 = .ok (.iadd, 1) := by decide +kernel
theorem dL_law_1307 : decode cL_law 1307 = .ok (.iaload, 1) := by decide +kernel
theorem dL_law_1308 : decode cL_law 1308 = .ok (.invokevirtual 167, 3) := by decide +kernel
theorem dL_law_1311 : decode cL_law 1311 = .ok (.if_icmp .eq 304, 3) := by decide +kernel
theorem dL_law_1316 : decode cL_law 1316 = .ok (.aload_n 1, 1) := by decide +kernel
theorem dL_law_1317 : decode cL_law 1317 = .ok (.aload_n 0, 1) := by decide +kernel
theorem dL_law_1318 : decode cL_law 1318 = .ok (.iload 4, 2) := by decide +kernel
theorem dL_law_1320 : decode cL_law 1320 = .ok (.iconst 1, 1) := by decide +kernel
theorem dL_law_1321 : decode cL_law 1321 = .ok (.iadd, 1) := by decide +kernel
theorem dL_law_1322 : decode cL_law 1322 = .ok (.iaload, 1) := by decide +kernel
theorem dL_law_1323 : decode cL_law 1323 = .ok (.invokevirtual 168, 3) := by decide +kernel
theorem dL_law_1326 : decode cL_law 1326 = .ok (.aload_n 2, 1) := by decide +kernel
theorem dL_law_1327 : decode cL_law 1327 = .ok (.aload_n 0, 1) := by decide +kernel
theorem dL_law_1328 : decode cL_law 1328 = .ok (.iload 4, 2) := by decide +kernel
theorem dL_law_1330 : decode cL_law 1330 = .ok (.iconst 1, 1) := by decide +kernel
theorem dL_law_1331 : decode cL_law 1331 = .ok (.iadd, 1) := by decide +kernel
theorem dL_law_1332 : decode cL_law 1332 = .ok (.iaload, 1) := by decide +kernel
theorem dL_law_1333 : decode cL_law 1333 = .ok (.invokevirtual 171, 3) := by decide +kernel
theorem dL_law_1336 : decode cL_law 1336 = .ok (.if_icmp .eq 279, 3) := by decide +kernel
theorem dL_law_1341 : decode cL_law 1341 = .ok (.aload_n 1, 1) := by decide +kernel
theorem dL_law_1342 : decode cL_law 1342 = .ok (.aload_n 0, 1) := by decide +kernel
theorem dL_law_1343 : decode cL_law 1343 = .ok (.iload 4, 2) := by decide +kernel
theorem dL_law_1345 : decode cL_law 1345 = .ok (.iconst 1, 1) := by decide +kernel
theorem dL_law_1346 : decode cL_law 1346 = .ok (.iadd, 1) := by decide +kernel
theorem dL_law_1347 : decode cL_law 1347 = .ok (.iaload, 1) := by decide +kernel
theorem dL_law_1348 : decode cL_law 1348 = .ok (.invokevirtual 172, 3) := by decide +kernel
theorem dL_law_1351 : decode cL_law 1351 = .ok (.aload_n 2, 1) := by decide +kernel
theorem dL_law_1352 : decode cL_law 1352 = .ok (.aload_n 0, 1) := by decide +kernel
theorem dL_law_1353 : decode cL_law 1353 = .ok (.iload 4, 2) := by decide +kernel
theorem dL_law_1355 : decode cL_law 1355 = .ok (.iconst 1, 1) := by decide +kernel
theorem dL_law_1356 : decode cL_law 1356 = .ok (.iadd, 1) := by decide +kernel
theorem dL_law_1357 : decode cL_law 1357 = .ok (.iaload, 1) := by decide +kernel
theorem dL_law_1358 : decode cL_law 1358 = .ok (.invokevirtual 175, 3) := by decide +kernel
theorem dL_law_1361 : decode cL_law 1361 = .ok (.if_icmp .eq 254, 3) := by decide +kernel
theorem dL_law_1366 : decode cL_law 1366 = .ok (.aload_n 1, 1) := by decide +kernel
theorem dL_law_1367 : decode cL_law 1367 = .ok (.aload_n 0, 1) := by decide +kernel
theorem dL_law_1368 : decode cL_law 1368 = .ok (.iload 4, 2) := by decide +kernel
theorem dL_law_1370 : decode cL_law 1370 = .ok (.iconst 1, 1) := by decide +kernel
theorem dL_law_1371 : decode cL_law 1371 = .ok (.iadd, 1) := by decide +kernel
theorem dL_law_1372 : decode cL_law 1372 = .ok (.iaload, 1) := by decide +kernel
theorem dL_law_1373 : decode cL_law 1373 = .ok (.aload_n 0, 1) := by decide +kernel
theorem dL_law_1374 : decode cL_law 1374 = .ok (.iload 4, 2) := by decide +kernel
theorem dL_law_1376 : decode cL_law 1376 = .ok (.iconst 2, 1) := by decide +kernel
theorem dL_law_1377 : decode cL_law 1377 = .ok (.iadd, 1) := by decide +kernel
theorem dL_law_1378 : decode cL_law 1378 = .ok (.iaload, 1) := by decide +kernel
theorem dL_law_1379 : decode cL_law 1379 = .ok (.invokevirtual 176, 3) := by decide +kernel
theorem dL_law_1382 : decode cL_law 1382 = .ok (.aload_n 2, 1) := by decide +kernel
theorem dL_law_1383 : decode cL_law 1383 = .ok (.aload_n 0, 1) := by decide +kernel
theorem dL_law_1384 : decode cL_law 1384 = .ok (.iload 4, 2) := by decide +kernel
theorem dL_law_1386 : decode cL_law 1386 = .ok (.iconst 1, 1) := by decide +kernel
theorem dL_law_1387 : decode cL_law 1387 = .ok (.iadd, 1) := by decide +kernel
theorem dL_law_1388 : decode cL_law 1388 = .ok (.iaload, 1) := by decide +kernel
theorem dL_law_1389 : decode cL_law 1389 = .ok (.aload_n 0, 1) := by decide +kernel
theorem dL_law_1390 : decode cL_law 1390 = .ok (.iload 4, 2) := by decide +kernel
theorem dL_law_1392 : decode cL_law 1392 = .ok (.iconst 2, 1) := by decide +kernel
theorem dL_law_1393 : decode cL_law 1393 = .ok (.iadd, 1) := by decide +kernel
theorem dL_law_1394 : decode cL_law 1394 = .ok (.iaload, 1) := by decide +kernel
theorem dL_law_1395 : decode cL_law 1395 = .ok (.invokevirtual 179, 3) := by decide +kernel
theorem dL_law_1398 : decode cL_law 1398 = .ok (.if_icmp .eq 217, 3) := by decide +kernel
theorem dL_law_1403 : decode cL_law 1403 = .ok (.aload_n 1, 1) := by decide +kernel
theorem dL_law_1404 : decode cL_law 1404 = .ok (.aload_n 0, 1) := by decide +kernel
theorem dL_law_1405 : decode cL_law 1405 = .ok (.iload 4, 2) := by decide +kernel
theorem dL_law_1407 : decode cL_law 1407 = .ok (.iconst 1, 1) := by decide +kernel
theorem dL_law_1408 : decode cL_law 1408 = .ok (.iadd, 1) := by decide +kernel
theorem dL_law_1409 : decode cL_law 1409 = .ok (.iaload, 1) := by decide +kernel
theorem dL_law_1410 : decode cL_law 1410 = .ok (.aload_n 0, 1) := by decide +kernel
theorem dL_law_1411 : decode cL_law 1411 = .ok (.iload 4, 2) := by decide +kernel
theorem dL_law_1413 : decode cL_law 1413 = .ok (.iconst 2, 1) := by decide +kernel
theorem dL_law_1414 : decode cL_law 1414 = .ok (.iadd, 1) := by decide +kernel
theorem dL_law_1415 : decode cL_law 1415 = .ok (.iaload, 1) := by decide +kernel
theorem dL_law_1416 : decode cL_law 1416 = .ok (.aload_n 0, 1) := by decide +kernel
theorem dL_law_1417 : decode cL_law 1417 = .ok (.iload 4, 2) := by decide +kernel
theorem dL_law_1419 : decode cL_law 1419 = .ok (.iconst 3, 1) := by decide +kernel
theorem dL_law_1420 : decode cL_law 1420 = .ok (.iadd, 1) := by decide +kernel
theorem dL_law_1421 : decode cL_law 1421 = .ok (.iaload, 1) := by decide +kernel
theorem dL_law_1422 : decode cL_law 1422 = .ok (.invokevirtual 180, 3) := by decide +kernel
theorem dL_law_1425 : decode cL_law 1425 = .ok (.aload_n 2, 1) := by decide +kernel
theorem dL_law_1426 : decode cL_law 1426 = .ok (.aload_n 0, 1) := by decide +kernel
theorem dL_law_1427 : decode cL_law 1427 = .ok (.iload 4, 2) := by decide +kernel
theorem dL_law_1429 : decode cL_law 1429 = .ok (.iconst 1, 1) := by decide +kernel
theorem dL_law_1430 : decode cL_law 1430 = .ok (.iadd, 1) := by decide +kernel
theorem dL_law_1431 : decode cL_law 1431 = .ok (.iaload, 1) := by decide +kernel
theorem dL_law_1432 : decode cL_law 1432 = .ok (.aload_n 0, 1) := by decide +kernel
theorem dL_law_1433 : decode cL_law 1433 = .ok (.iload 4, 2) := by decide +kernel
theorem dL_law_1435 : decode cL_law 1435 = .ok (.iconst 2, 1) := by decide +kernel
theorem dL_law_1436 : decode cL_law 1436 = .ok (.iadd, 1) := by decide +kernel
theorem dL_law_1437 : decode cL_law 1437 = .ok (.iaload, 1) := by decide +kernel
theorem dL_law_1438 : decode cL_law 1438 = .ok (.aload_n 0, 1) := by decide +kernel
theorem dL_law_1439 : decode cL_law 1439 = .ok (.iload 4, 2) := by decide +kernel
theorem dL_law_1441 : decode cL_law 1441 = .ok (.iconst 3, 1) := by decide +kernel
theorem dL_law_1442 : decode cL_law 1442 = .ok (.iadd, 1) := by decide +kernel
theorem dL_law_1443 : decode cL_law 1443 = .ok (.iaload, 1) := by decide +kernel
theorem dL_law_1444 : decode cL_law 1444 = .ok (.invokevirtual 183, 3) := by decide +kernel
theorem dL_law_1447 : decode cL_law 1447 = .ok (.if_icmp .eq 168, 3) := by decide +kernel
theorem law_wrote {z : Mx} {ad : Nat → Nat} {o : Option Value × St} {b u L i : Nat} {xs : Nat → Int32} {Inv : St → Prop} (X : CxOk z ad RL cL_law 7 (some .boolean) 1200) (hX : SX z b L xs) (hi : i + 6 ≤ L) (hp : pr_wrote Inv) (S : St) (hInv : Inv S) (hgo : ∀ S2, Inv S2 → GW z ad o S2 1615 [(0, .ref b), (1, .ref (ad 0)), (2, .ref (ad 140)), (3, .ref u), (4, .int (nI i))] []) : GW z ad o S 1167 [(0, .ref b), (1, .ref (ad 0)), (2, .ref (ad 140)), (3, .ref u), (4, .int (nI i))] [] := by
  obtain ⟨r, S1, S2, e1, e2, hI2⟩ := hp S hInv 
  refine g_aload_n X dL_law_1167 1 rfl rfl ?_
  refine g_callVi (As := []) (v := r) (S' := S1) X dL_law_1168 mlL_148 (fun l D cyy => tX10_wrote (cx_inj X) l D cyy 0 (by decide +kernel) S (r, S1) e1) (by decide +kernel) (by decide) rfl rfl (Nat.le_of_ble_eq_true rfl) ?_
  refine g_aload_n X dL_law_1171 2 rfl rfl ?_
  refine g_callVi (As := []) (v := r) (S' := S2) X dL_law_1172 mlL_151 (fun l D cyy => tX11_wrote (cx_inj X) l D cyy 140 (by decide +kernel) S1 (r, S2) e2) (by decide +kernel) (by decide) rfl rfl (Nat.le_of_ble_eq_true rfl) ?_
  exact g_icmp_eq (tgt := 1615) X dL_law_1175 (by decide) (fun _ => hgo S2 hI2) (fun c0 => absurd rfl c0)
theorem law_ago {z : Mx} {ad : Nat → Nat} {o : Option Value × St} {b u L i : Nat} {xs : Nat → Int32} {Inv : St → Prop} (X : CxOk z ad RL cL_law 7 (some .boolean) 1200) (hX : SX z b L xs) (hi : i + 6 ≤ L) (hp : pr_ago Inv) (S : St) (hInv : Inv S) (hgo : ∀ S2, Inv S2 → GW z ad o S2 1615 [(0, .ref b), (1, .ref (ad 0)), (2, .ref (ad 140)), (3, .ref u), (4, .int (nI i))] []) : GW z ad o S 1180 [(0, .ref b), (1, .ref (ad 0)), (2, .ref (ad 140)), (3, .ref u), (4, .int (nI i))] [] := by
  obtain ⟨r, S1, S2, e1, e2, hI2⟩ := hp S hInv (xs (i + 1))
  refine g_aload_n X dL_law_1180 1 rfl rfl ?_
  refine g_aload_n X dL_law_1181 0 rfl rfl ?_
  refine g_iload X dL_law_1182 4 rfl ?_
  refine g_iconst (v := 1) X dL_law_1184 (by decide) ?_
  refine g_iadd X dL_law_1185 ?_
  refine g_sld (j := i + 1) X hX dL_law_1186 (nI_add i 1) (by omega) ?_
  refine g_callVi (As := [.int (xs (i + 1))]) (v := r) (S' := S1) X dL_law_1187 mlL_152 (fun l D cyy => tX10_ago (cx_inj X) l D cyy 0 (xs (i + 1)) (by decide +kernel) S (r, S1) e1) (by decide +kernel) (by decide) rfl rfl (Nat.le_of_ble_eq_true rfl) ?_
  refine g_aload_n X dL_law_1190 2 rfl rfl ?_
  refine g_aload_n X dL_law_1191 0 rfl rfl ?_
  refine g_iload X dL_law_1192 4 rfl ?_
  refine g_iconst (v := 1) X dL_law_1194 (by decide) ?_
  refine g_iadd X dL_law_1195 ?_
  refine g_sld (j := i + 1) X hX dL_law_1196 (nI_add i 1) (by omega) ?_
  refine g_callVi (As := [.int (xs (i + 1))]) (v := r) (S' := S2) X dL_law_1197 mlL_155 (fun l D cyy => tX11_ago (cx_inj X) l D cyy 140 (xs (i + 1)) (by decide +kernel) S1 (r, S2) e2) (by decide +kernel) (by decide) rfl rfl (Nat.le_of_ble_eq_true rfl) ?_
  exact g_icmp_eq (tgt := 1615) X dL_law_1200 (by decide) (fun _ => hgo S2 hI2) (fun c0 => absurd rfl c0)
theorem law_age {z : Mx} {ad : Nat → Nat} {o : Option Value × St} {b u L i : Nat} {xs : Nat → Int32} {Inv : St → Prop} (X : CxOk z ad RL cL_law 7 (some .boolean) 1200) (hX : SX z b L xs) (hi : i + 6 ≤ L) (hp : pr_age Inv) (S : St) (hInv : Inv S) (hgo : ∀ S2, Inv S2 → GW z ad o S2 1615 [(0, .ref b), (1, .ref (ad 0)), (2, .ref (ad 140)), (3, .ref u), (4, .int (nI i))] []) : GW z ad o S 1205 [(0, .ref b), (1, .ref (ad 0)), (2, .ref (ad 140)), (3, .ref u), (4, .int (nI i))] [] := by
  obtain ⟨r, S2, e1, e2, hI2⟩ := hp S hInv (xs (i + 1)) (xs (i + 2)) (xs (i + 3)) (xs (i + 4))
  refine g_aload_n X dL_law_1205 1 rfl rfl ?_
  refine g_aload_n X dL_law_1206 0 rfl rfl ?_
  refine g_iload X dL_law_1207 4 rfl ?_
  refine g_iconst (v := 1) X dL_law_1209 (by decide) ?_
  refine g_iadd X dL_law_1210 ?_
  refine g_sld (j := i + 1) X hX dL_law_1211 (nI_add i 1) (by omega) ?_
  refine g_aload_n X dL_law_1212 0 rfl rfl ?_
  refine g_iload X dL_law_1213 4 rfl ?_
  refine g_iconst (v := 2) X dL_law_1215 (by decide) ?_
  refine g_iadd X dL_law_1216 ?_
  refine g_sld (j := i + 2) X hX dL_law_1217 (nI_add i 2) (by omega) ?_
  refine g_aload_n X dL_law_1218 0 rfl rfl ?_
  refine g_iload X dL_law_1219 4 rfl ?_
  refine g_iconst (v := 3) X dL_law_1221 (by decide) ?_
  refine g_iadd X dL_law_1222 ?_
  refine g_sld (j := i + 3) X hX dL_law_1223 (nI_add i 3) (by omega) ?_
  refine g_aload_n X dL_law_1224 0 rfl rfl ?_
  refine g_iload X dL_law_1225 4 rfl ?_
  refine g_iconst (v := 4) X dL_law_1227 (by decide) ?_
  refine g_iadd X dL_law_1228 ?_
  refine g_sld (j := i + 4) X hX dL_law_1229 (nI_add i 4) (by omega) ?_
  refine g_callVi (As := [.int (xs (i + 1)), .int (xs (i + 2)), .int (xs (i + 3)), .int (xs (i + 4))]) (v := r) (S' := S) X dL_law_1230 mlL_156 (fun l D cyy => tX10_age (cx_inj X) l D cyy 0 (xs (i + 1)) (xs (i + 2)) (xs (i + 3)) (xs (i + 4)) (by decide +kernel) S r e1) (by decide +kernel) (by decide) rfl rfl (Nat.le_of_ble_eq_true rfl) ?_
  refine g_aload_n X dL_law_1233 2 rfl rfl ?_
  refine g_aload_n X dL_law_1234 0 rfl rfl ?_
  refine g_iload X dL_law_1235 4 rfl ?_
  refine g_iconst (v := 1) X dL_law_1237 (by decide) ?_
  refine g_iadd X dL_law_1238 ?_
  refine g_sld (j := i + 1) X hX dL_law_1239 (nI_add i 1) (by omega) ?_
  refine g_aload_n X dL_law_1240 0 rfl rfl ?_
  refine g_iload X dL_law_1241 4 rfl ?_
  refine g_iconst (v := 2) X dL_law_1243 (by decide) ?_
  refine g_iadd X dL_law_1244 ?_
  refine g_sld (j := i + 2) X hX dL_law_1245 (nI_add i 2) (by omega) ?_
  refine g_aload_n X dL_law_1246 0 rfl rfl ?_
  refine g_iload X dL_law_1247 4 rfl ?_
  refine g_iconst (v := 3) X dL_law_1249 (by decide) ?_
  refine g_iadd X dL_law_1250 ?_
  refine g_sld (j := i + 3) X hX dL_law_1251 (nI_add i 3) (by omega) ?_
  refine g_aload_n X dL_law_1252 0 rfl rfl ?_
  refine g_iload X dL_law_1253 4 rfl ?_
  refine g_iconst (v := 4) X dL_law_1255 (by decide) ?_
  refine g_iadd X dL_law_1256 ?_
  refine g_sld (j := i + 4) X hX dL_law_1257 (nI_add i 4) (by omega) ?_
  refine g_callVi (As := [.int (xs (i + 1)), .int (xs (i + 2)), .int (xs (i + 3)), .int (xs (i + 4))]) (v := r) (S' := S2) X dL_law_1258 mlL_159 (fun l D cyy => tX11_age (cx_inj X) l D cyy 140 (xs (i + 1)) (xs (i + 2)) (xs (i + 3)) (xs (i + 4)) (by decide +kernel) S (r, S2) e2) (by decide +kernel) (by decide) rfl rfl (Nat.le_of_ble_eq_true rfl) ?_
  exact g_icmp_eq (tgt := 1615) X dL_law_1261 (by decide) (fun _ => hgo S2 hI2) (fun c0 => absurd rfl c0)
theorem law_ask {z : Mx} {ad : Nat → Nat} {o : Option Value × St} {b u L i : Nat} {xs : Nat → Int32} {Inv : St → Prop} (X : CxOk z ad RL cL_law 7 (some .boolean) 1200) (hX : SX z b L xs) (hi : i + 6 ≤ L) (hp : pr_ask Inv) (S : St) (hInv : Inv S) (hgo : ∀ S2, Inv S2 → GW z ad o S2 1615 [(0, .ref b), (1, .ref (ad 0)), (2, .ref (ad 140)), (3, .ref u), (4, .int (nI i))] []) : GW z ad o S 1266 [(0, .ref b), (1, .ref (ad 0)), (2, .ref (ad 140)), (3, .ref u), (4, .int (nI i))] [] := by
  obtain ⟨r, S2, e1, e2, hI2⟩ := hp S hInv 
  refine g_aload_n X dL_law_1266 1 rfl rfl ?_
  refine g_callVi (As := []) (v := r) (S' := S) X dL_law_1267 mlL_160 (fun l D cyy => tX10_ask (cx_inj X) l D cyy 0 (by decide +kernel) S r e1) (by decide +kernel) (by decide) rfl rfl (Nat.le_of_ble_eq_true rfl) ?_
  refine g_aload_n X dL_law_1270 2 rfl rfl ?_
  refine g_callVi (As := []) (v := r) (S' := S2) X dL_law_1271 mlL_163 (fun l D cyy => tX11_ask (cx_inj X) l D cyy 140 (by decide +kernel) S (r, S2) e2) (by decide +kernel) (by decide) rfl rfl (Nat.le_of_ble_eq_true rfl) ?_
  exact g_icmp_eq (tgt := 1615) X dL_law_1274 (by decide) (fun _ => hgo S2 hI2) (fun c0 => absurd rfl c0)
theorem law_born {z : Mx} {ad : Nat → Nat} {o : Option Value × St} {b u L i : Nat} {xs : Nat → Int32} {Inv : St → Prop} (X : CxOk z ad RL cL_law 7 (some .boolean) 1200) (hX : SX z b L xs) (hi : i + 6 ≤ L) (hp : pr_born Inv) (S : St) (hInv : Inv S) (hgo : ∀ S2, Inv S2 → GW z ad o S2 1615 [(0, .ref b), (1, .ref (ad 0)), (2, .ref (ad 140)), (3, .ref u), (4, .int (nI i))] []) : GW z ad o S 1279 [(0, .ref b), (1, .ref (ad 0)), (2, .ref (ad 140)), (3, .ref u), (4, .int (nI i))] [] := by
  obtain ⟨r, S2, e1, e2, hI2⟩ := hp S hInv (xs (i + 1)) (xs (i + 2))
  refine g_aload_n X dL_law_1279 1 rfl rfl ?_
  refine g_aload_n X dL_law_1280 0 rfl rfl ?_
  refine g_iload X dL_law_1281 4 rfl ?_
  refine g_iconst (v := 1) X dL_law_1283 (by decide) ?_
  refine g_iadd X dL_law_1284 ?_
  refine g_sld (j := i + 1) X hX dL_law_1285 (nI_add i 1) (by omega) ?_
  refine g_aload_n X dL_law_1286 0 rfl rfl ?_
  refine g_iload X dL_law_1287 4 rfl ?_
  refine g_iconst (v := 2) X dL_law_1289 (by decide) ?_
  refine g_iadd X dL_law_1290 ?_
  refine g_sld (j := i + 2) X hX dL_law_1291 (nI_add i 2) (by omega) ?_
  refine g_callVi (As := [.int (xs (i + 1)), .int (xs (i + 2))]) (v := r) (S' := S) X dL_law_1292 mlL_164 (fun l D cyy => tX10_born (cx_inj X) l D cyy 0 (xs (i + 1)) (xs (i + 2)) (by decide +kernel) S r e1) (by decide +kernel) (by decide) rfl rfl (Nat.le_of_ble_eq_true rfl) ?_
  refine g_aload_n X dL_law_1295 2 rfl rfl ?_
  refine g_aload_n X dL_law_1296 0 rfl rfl ?_
  refine g_iload X dL_law_1297 4 rfl ?_
  refine g_iconst (v := 1) X dL_law_1299 (by decide) ?_
  refine g_iadd X dL_law_1300 ?_
  refine g_sld (j := i + 1) X hX dL_law_1301 (nI_add i 1) (by omega) ?_
  refine g_aload_n X dL_law_1302 0 rfl rfl ?_
  refine g_iload X dL_law_1303 4 rfl ?_
  refine g_iconst (v := 2) X dL_law_1305 (by decide) ?_
  refine g_iadd X dL_law_1306 ?_
  refine g_sld (j := i + 2) X hX dL_law_1307 (nI_add i 2) (by omega) ?_
  refine g_callVi (As := [.int (xs (i + 1)), .int (xs (i + 2))]) (v := r) (S' := S2) X dL_law_1308 mlL_167 (fun l D cyy => tX11_born (cx_inj X) l D cyy 140 (xs (i + 1)) (xs (i + 2)) (by decide +kernel) S (r, S2) e2) (by decide +kernel) (by decide) rfl rfl (Nat.le_of_ble_eq_true rfl) ?_
  exact g_icmp_eq (tgt := 1615) X dL_law_1311 (by decide) (fun _ => hgo S2 hI2) (fun c0 => absurd rfl c0)
theorem law_title {z : Mx} {ad : Nat → Nat} {o : Option Value × St} {b u L i : Nat} {xs : Nat → Int32} {Inv : St → Prop} (X : CxOk z ad RL cL_law 7 (some .boolean) 1200) (hX : SX z b L xs) (hi : i + 6 ≤ L) (hp : pr_title Inv) (S : St) (hInv : Inv S) (hgo : ∀ S2, Inv S2 → GW z ad o S2 1615 [(0, .ref b), (1, .ref (ad 0)), (2, .ref (ad 140)), (3, .ref u), (4, .int (nI i))] []) : GW z ad o S 1316 [(0, .ref b), (1, .ref (ad 0)), (2, .ref (ad 140)), (3, .ref u), (4, .int (nI i))] [] := by
  obtain ⟨r, S1, S2, e1, e2, hI2⟩ := hp S hInv (xs (i + 1))
  refine g_aload_n X dL_law_1316 1 rfl rfl ?_
  refine g_aload_n X dL_law_1317 0 rfl rfl ?_
  refine g_iload X dL_law_1318 4 rfl ?_
  refine g_iconst (v := 1) X dL_law_1320 (by decide) ?_
  refine g_iadd X dL_law_1321 ?_
  refine g_sld (j := i + 1) X hX dL_law_1322 (nI_add i 1) (by omega) ?_
  refine g_callVi (As := [.int (xs (i + 1))]) (v := r) (S' := S1) X dL_law_1323 mlL_168 (fun l D cyy => tX10_title (cx_inj X) l D cyy 0 (xs (i + 1)) (by decide +kernel) S (r, S1) e1) (by decide +kernel) (by decide) rfl rfl (Nat.le_of_ble_eq_true rfl) ?_
  refine g_aload_n X dL_law_1326 2 rfl rfl ?_
  refine g_aload_n X dL_law_1327 0 rfl rfl ?_
  refine g_iload X dL_law_1328 4 rfl ?_
  refine g_iconst (v := 1) X dL_law_1330 (by decide) ?_
  refine g_iadd X dL_law_1331 ?_
  refine g_sld (j := i + 1) X hX dL_law_1332 (nI_add i 1) (by omega) ?_
  refine g_callVi (As := [.int (xs (i + 1))]) (v := r) (S' := S2) X dL_law_1333 mlL_171 (fun l D cyy => tX11_title (cx_inj X) l D cyy 140 (xs (i + 1)) (by decide +kernel) S1 (r, S2) e2) (by decide +kernel) (by decide) rfl rfl (Nat.le_of_ble_eq_true rfl) ?_
  exact g_icmp_eq (tgt := 1615) X dL_law_1336 (by decide) (fun _ => hgo S2 hI2) (fun c0 => absurd rfl c0)
theorem law_byteAt {z : Mx} {ad : Nat → Nat} {o : Option Value × St} {b u L i : Nat} {xs : Nat → Int32} {Inv : St → Prop} (X : CxOk z ad RL cL_law 7 (some .boolean) 1200) (hX : SX z b L xs) (hi : i + 6 ≤ L) (hp : pr_byteAt Inv) (S : St) (hInv : Inv S) (hgo : ∀ S2, Inv S2 → GW z ad o S2 1615 [(0, .ref b), (1, .ref (ad 0)), (2, .ref (ad 140)), (3, .ref u), (4, .int (nI i))] []) : GW z ad o S 1341 [(0, .ref b), (1, .ref (ad 0)), (2, .ref (ad 140)), (3, .ref u), (4, .int (nI i))] [] := by
  obtain ⟨r, S2, e1, e2, hI2⟩ := hp S hInv (xs (i + 1))
  refine g_aload_n X dL_law_1341 1 rfl rfl ?_
  refine g_aload_n X dL_law_1342 0 rfl rfl ?_
  refine g_iload X dL_law_1343 4 rfl ?_
  refine g_iconst (v := 1) X dL_law_1345 (by decide) ?_
  refine g_iadd X dL_law_1346 ?_
  refine g_sld (j := i + 1) X hX dL_law_1347 (nI_add i 1) (by omega) ?_
  refine g_callVi (As := [.int (xs (i + 1))]) (v := r) (S' := S) X dL_law_1348 mlL_172 (fun l D cyy => tX10_byteAt (cx_inj X) l D cyy 0 (xs (i + 1)) (by decide +kernel) S r e1) (by decide +kernel) (by decide) rfl rfl (Nat.le_of_ble_eq_true rfl) ?_
  refine g_aload_n X dL_law_1351 2 rfl rfl ?_
  refine g_aload_n X dL_law_1352 0 rfl rfl ?_
  refine g_iload X dL_law_1353 4 rfl ?_
  refine g_iconst (v := 1) X dL_law_1355 (by decide) ?_
  refine g_iadd X dL_law_1356 ?_
  refine g_sld (j := i + 1) X hX dL_law_1357 (nI_add i 1) (by omega) ?_
  refine g_callVi (As := [.int (xs (i + 1))]) (v := r) (S' := S2) X dL_law_1358 mlL_175 (fun l D cyy => tX11_byteAt (cx_inj X) l D cyy 140 (xs (i + 1)) (by decide +kernel) S (r, S2) e2) (by decide +kernel) (by decide) rfl rfl (Nat.le_of_ble_eq_true rfl) ?_
  exact g_icmp_eq (tgt := 1615) X dL_law_1361 (by decide) (fun _ => hgo S2 hI2) (fun c0 => absurd rfl c0)
theorem law_drawn {z : Mx} {ad : Nat → Nat} {o : Option Value × St} {b u L i : Nat} {xs : Nat → Int32} {Inv : St → Prop} (X : CxOk z ad RL cL_law 7 (some .boolean) 1200) (hX : SX z b L xs) (hi : i + 6 ≤ L) (hp : pr_drawn Inv) (S : St) (hInv : Inv S) (hgo : ∀ S2, Inv S2 → GW z ad o S2 1615 [(0, .ref b), (1, .ref (ad 0)), (2, .ref (ad 140)), (3, .ref u), (4, .int (nI i))] []) : GW z ad o S 1366 [(0, .ref b), (1, .ref (ad 0)), (2, .ref (ad 140)), (3, .ref u), (4, .int (nI i))] [] := by
  obtain ⟨r, S1, S2, e1, e2, hI2⟩ := hp S hInv (xs (i + 1)) (xs (i + 2))
  refine g_aload_n X dL_law_1366 1 rfl rfl ?_
  refine g_aload_n X dL_law_1367 0 rfl rfl ?_
  refine g_iload X dL_law_1368 4 rfl ?_
  refine g_iconst (v := 1) X dL_law_1370 (by decide) ?_
  refine g_iadd X dL_law_1371 ?_
  refine g_sld (j := i + 1) X hX dL_law_1372 (nI_add i 1) (by omega) ?_
  refine g_aload_n X dL_law_1373 0 rfl rfl ?_
  refine g_iload X dL_law_1374 4 rfl ?_
  refine g_iconst (v := 2) X dL_law_1376 (by decide) ?_
  refine g_iadd X dL_law_1377 ?_
  refine g_sld (j := i + 2) X hX dL_law_1378 (nI_add i 2) (by omega) ?_
  refine g_callVi (As := [.int (xs (i + 1)), .int (xs (i + 2))]) (v := r) (S' := S1) X dL_law_1379 mlL_176 (fun l D cyy => tX10_drawn (cx_inj X) l D cyy 0 (xs (i + 1)) (xs (i + 2)) (by decide +kernel) S (r, S1) e1) (by decide +kernel) (by decide) rfl rfl (Nat.le_of_ble_eq_true rfl) ?_
  refine g_aload_n X dL_law_1382 2 rfl rfl ?_
  refine g_aload_n X dL_law_1383 0 rfl rfl ?_
  refine g_iload X dL_law_1384 4 rfl ?_
  refine g_iconst (v := 1) X dL_law_1386 (by decide) ?_
  refine g_iadd X dL_law_1387 ?_
  refine g_sld (j := i + 1) X hX dL_law_1388 (nI_add i 1) (by omega) ?_
  refine g_aload_n X dL_law_1389 0 rfl rfl ?_
  refine g_iload X dL_law_1390 4 rfl ?_
  refine g_iconst (v := 2) X dL_law_1392 (by decide) ?_
  refine g_iadd X dL_law_1393 ?_
  refine g_sld (j := i + 2) X hX dL_law_1394 (nI_add i 2) (by omega) ?_
  refine g_callVi (As := [.int (xs (i + 1)), .int (xs (i + 2))]) (v := r) (S' := S2) X dL_law_1395 mlL_179 (fun l D cyy => tX11_drawn (cx_inj X) l D cyy 140 (xs (i + 1)) (xs (i + 2)) (by decide +kernel) S1 (r, S2) e2) (by decide +kernel) (by decide) rfl rfl (Nat.le_of_ble_eq_true rfl) ?_
  exact g_icmp_eq (tgt := 1615) X dL_law_1398 (by decide) (fun _ => hgo S2 hI2) (fun c0 => absurd rfl c0)
theorem law_odds {z : Mx} {ad : Nat → Nat} {o : Option Value × St} {b u L i : Nat} {xs : Nat → Int32} {Inv : St → Prop} (X : CxOk z ad RL cL_law 7 (some .boolean) 1200) (hX : SX z b L xs) (hi : i + 6 ≤ L) (hp : pr_odds Inv) (S : St) (hInv : Inv S) (hgo : ∀ S2, Inv S2 → GW z ad o S2 1615 [(0, .ref b), (1, .ref (ad 0)), (2, .ref (ad 140)), (3, .ref u), (4, .int (nI i))] []) : GW z ad o S 1403 [(0, .ref b), (1, .ref (ad 0)), (2, .ref (ad 140)), (3, .ref u), (4, .int (nI i))] [] := by
  obtain ⟨r, S1, S2, e1, e2, hI2⟩ := hp S hInv (xs (i + 1)) (xs (i + 2)) (xs (i + 3))
  refine g_aload_n X dL_law_1403 1 rfl rfl ?_
  refine g_aload_n X dL_law_1404 0 rfl rfl ?_
  refine g_iload X dL_law_1405 4 rfl ?_
  refine g_iconst (v := 1) X dL_law_1407 (by decide) ?_
  refine g_iadd X dL_law_1408 ?_
  refine g_sld (j := i + 1) X hX dL_law_1409 (nI_add i 1) (by omega) ?_
  refine g_aload_n X dL_law_1410 0 rfl rfl ?_
  refine g_iload X dL_law_1411 4 rfl ?_
  refine g_iconst (v := 2) X dL_law_1413 (by decide) ?_
  refine g_iadd X dL_law_1414 ?_
  refine g_sld (j := i + 2) X hX dL_law_1415 (nI_add i 2) (by omega) ?_
  refine g_aload_n X dL_law_1416 0 rfl rfl ?_
  refine g_iload X dL_law_1417 4 rfl ?_
  refine g_iconst (v := 3) X dL_law_1419 (by decide) ?_
  refine g_iadd X dL_law_1420 ?_
  refine g_sld (j := i + 3) X hX dL_law_1421 (nI_add i 3) (by omega) ?_
  refine g_callVi (As := [.int (xs (i + 1)), .int (xs (i + 2)), .int (xs (i + 3))]) (v := r) (S' := S1) X dL_law_1422 mlL_180 (fun l D cyy => tX10_odds (cx_inj X) l D cyy 0 (xs (i + 1)) (xs (i + 2)) (xs (i + 3)) (by decide +kernel) S (r, S1) e1) (by decide +kernel) (by decide) rfl rfl (Nat.le_of_ble_eq_true rfl) ?_
  refine g_aload_n X dL_law_1425 2 rfl rfl ?_
  refine g_aload_n X dL_law_1426 0 rfl rfl ?_
  refine g_iload X dL_law_1427 4 rfl ?_
  refine g_iconst (v := 1) X dL_law_1429 (by decide) ?_
  refine g_iadd X dL_law_1430 ?_
  refine g_sld (j := i + 1) X hX dL_law_1431 (nI_add i 1) (by omega) ?_
  refine g_aload_n X dL_law_1432 0 rfl rfl ?_
  refine g_iload X dL_law_1433 4 rfl ?_
  refine g_iconst (v := 2) X dL_law_1435 (by decide) ?_
  refine g_iadd X dL_law_1436 ?_
  refine g_sld (j := i + 2) X hX dL_law_1437 (nI_add i 2) (by omega) ?_
  refine g_aload_n X dL_law_1438 0 rfl rfl ?_
  refine g_iload X dL_law_1439 4 rfl ?_
  refine g_iconst (v := 3) X dL_law_1441 (by decide) ?_
  refine g_iadd X dL_law_1442 ?_
  refine g_sld (j := i + 3) X hX dL_law_1443 (nI_add i 3) (by omega) ?_
  refine g_callVi (As := [.int (xs (i + 1)), .int (xs (i + 2)), .int (xs (i + 3))]) (v := r) (S' := S2) X dL_law_1444 mlL_183 (fun l D cyy => tX11_odds (cx_inj X) l D cyy 140 (xs (i + 1)) (xs (i + 2)) (xs (i + 3)) (by decide +kernel) S1 (r, S2) e2) (by decide +kernel) (by decide) rfl rfl (Nat.le_of_ble_eq_true rfl) ?_
  exact g_icmp_eq (tgt := 1615) X dL_law_1447 (by decide) (fun _ => hgo S2 hI2) (fun c0 => absurd rfl c0)
