/-! the law: its cases -/
section
variable {κ : Kx} {G : GT} {nm : String} {ret : Option FieldType} {a b n : Nat} {Q : State → Prop} {bb L : Nat} {xs : Nat → Int32} {i : Int} {q : Nat → Nat → Nat} {J : Nat → Bool} {T : Nat → Ob} {qm : Nat → Nat} {M : Ob}
theorem lw_shut (C : Cx κ G (yL nm) code ret 4 room_1) (hX : Sc κ bb L xs) (h : Inv2 n T J M) (hn : n + 1 ≤ 512) (hi : 0 ≤ i) (hL : i + 6 < L) (hL2 : L ≤ 3584) (ha : a ≤ 600000) (hb : b ≤ 7302250) (K : ∀ T' M', Inv2 (n + 1) T' J M' → X κ G 4 (WL G q J T' qm M') 2535 (lvL bb (q 11 31) (qm 31) i) [] a b Q) : X κ G 4 (WL G q J T qm M) 1254 (lvL bb (q 11 31) (qm 31) i) [] a b Q := by
  have e : Nx n T J (fX7_shut T (xi xs (i + 1).toNat) (xi xs (i + 2).toNat)) (fX8_shut M (xi xs (i + 1).toNat) (xi xs (i + 2).toNat)) := (op_shut h.1 (xi_r xs _) (xi_r xs _) : Ef T M (fX7_shut T (xi xs (i + 1).toNat) (xi xs (i + 2).toNat)) (fX8_shut M (xi xs (i + 1).toNat) (xi xs (i + 2).toNat))).nx h hn
  obtain ⟨r, T', M', e1, e2, e3, e4⟩ := e
  refine X.aload_n C dL_1254 rfl 2 rfl ?_
  refine X.arg (k := 1) C hX hi (by decide) (by omega) hL2 dL_1255 dL_1256 dL_1257 dL_1258 dL_1259 ?_
  refine X.arg (k := 2) C hX hi (by decide) (by omega) hL2 dL_1260 dL_1261 dL_1262 dL_1263 dL_1264 ?_
  refine X.callC (T' := T') (r := r) (As := [vi (xi xs (i + 1).toNat), vi (xi xs (i + 2).toNat)]) (rest := []) C dL_1265 ml_L_146 mX7_shut (kX7_shut q T (xi xs (i + 1).toNat) (xi xs (i + 2).toNat) _ e1) e4 rfl rfl rfl rfl rfl ha hb ?_
  refine X.aload_n C dL_1268 rfl 1 rfl ?_
  refine X.arg (k := 1) C hX hi (by decide) (by omega) hL2 dL_1269 dL_1270 dL_1271 dL_1272 dL_1273 ?_
  refine X.arg (k := 2) C hX hi (by decide) (by omega) hL2 dL_1274 dL_1275 dL_1276 dL_1277 dL_1278 ?_
  refine X.callM (M' := M') (r := r) (As := [vi (xi xs (i + 1).toNat), vi (xi xs (i + 2).toNat)]) (rest := [vi r]) C dL_1279 ml_L_149 mX8_shut (kX8_shut qm M (xi xs (i + 1).toNat) (xi xs (i + 2).toNat) _ e2) rfl rfl rfl rfl rfl ha hb ?_
  exact X.same (tgt := 2535) C dL_1282 (by decide) (K T' M' e3)
theorem lw_marks (C : Cx κ G (yL nm) code ret 4 room_1) (hX : Sc κ bb L xs) (h : Inv2 n T J M) (hn : n + 1 ≤ 512) (hi : 0 ≤ i) (hL : i + 6 < L) (hL2 : L ≤ 3584) (ha : a ≤ 600000) (hb : b ≤ 7302250) (K : ∀ T' M', Inv2 (n + 1) T' J M' → X κ G 4 (WL G q J T' qm M') 2535 (lvL bb (q 11 31) (qm 31) i) [] a b Q) : X κ G 4 (WL G q J T qm M) 1287 (lvL bb (q 11 31) (qm 31) i) [] a b Q := by
  have e : El T M (fX7_marks T (xi xs (i + 1).toNat) (xi xs (i + 2).toNat) (xi xs (i + 3).toNat)) (fX8_marks M (xi xs (i + 1).toNat) (xi xs (i + 2).toNat) (xi xs (i + 3).toNat)) := op_marks h.1 (xi_r xs _) (xi_r xs _) (xi_r xs _)
  obtain ⟨r, M', e1, e2, e3⟩ := e
  refine X.aload_n C dL_1287 rfl 2 rfl ?_
  refine X.arg (k := 1) C hX hi (by decide) (by omega) hL2 dL_1288 dL_1289 dL_1290 dL_1291 dL_1292 ?_
  refine X.arg (k := 2) C hX hi (by decide) (by omega) hL2 dL_1293 dL_1294 dL_1295 dL_1296 dL_1297 ?_
  refine X.arg (k := 3) C hX hi (by decide) (by omega) hL2 dL_1298 dL_1299 dL_1300 dL_1301 dL_1302 ?_
  refine X.callC (T' := T) (r := r) (As := [vi (xi xs (i + 1).toNat), vi (xi xs (i + 2).toNat), vi (xi xs (i + 3).toNat)]) (rest := []) C dL_1303 ml_L_150 mX7_marks (kX7_marks q T (xi xs (i + 1).toNat) (xi xs (i + 2).toNat) (xi xs (i + 3).toNat) _ e1) (fun _ _ => rfl) rfl rfl rfl rfl rfl ha hb ?_
  refine X.aload_n C dL_1306 rfl 1 rfl ?_
  refine X.arg (k := 1) C hX hi (by decide) (by omega) hL2 dL_1307 dL_1308 dL_1309 dL_1310 dL_1311 ?_
  refine X.arg (k := 2) C hX hi (by decide) (by omega) hL2 dL_1312 dL_1313 dL_1314 dL_1315 dL_1316 ?_
  refine X.arg (k := 3) C hX hi (by decide) (by omega) hL2 dL_1317 dL_1318 dL_1319 dL_1320 dL_1321 ?_
  refine X.callM (M' := M') (r := r) (As := [vi (xi xs (i + 1).toNat), vi (xi xs (i + 2).toNat), vi (xi xs (i + 3).toNat)]) (rest := [vi r]) C dL_1322 ml_L_153 mX8_marks (kX8_marks qm M (xi xs (i + 1).toNat) (xi xs (i + 2).toNat) (xi xs (i + 3).toNat) _ e2) rfl rfl rfl rfl rfl ha hb ?_
  exact X.same (tgt := 2535) C dL_1325 (by decide) (K T M' ((h.fr e3).next hn))
theorem lw_span (C : Cx κ G (yL nm) code ret 4 room_1) (hX : Sc κ bb L xs) (h : Inv2 n T J M) (hn : n + 1 ≤ 512) (hi : 0 ≤ i) (hL : i + 6 < L) (hL2 : L ≤ 3584) (ha : a ≤ 600000) (hb : b ≤ 7302250) (K : ∀ T' M', Inv2 (n + 1) T' J M' → X κ G 4 (WL G q J T' qm M') 2535 (lvL bb (q 11 31) (qm 31) i) [] a b Q) : X κ G 4 (WL G q J T qm M) 1330 (lvL bb (q 11 31) (qm 31) i) [] a b Q := by
  have e : El T M (fX7_span T (xi xs (i + 1).toNat) (xi xs (i + 2).toNat) (xi xs (i + 3).toNat) (xi xs (i + 4).toNat)) (fX8_span M (xi xs (i + 1).toNat) (xi xs (i + 2).toNat) (xi xs (i + 3).toNat) (xi xs (i + 4).toNat)) := op_span h.1 (xi_r xs _) (xi_r xs _) (xi_r xs _) (xi_r xs _)
  obtain ⟨r, M', e1, e2, e3⟩ := e
  refine X.aload_n C dL_1330 rfl 2 rfl ?_
  refine X.arg (k := 1) C hX hi (by decide) (by omega) hL2 dL_1331 dL_1332 dL_1333 dL_1334 dL_1335 ?_
  refine X.arg (k := 2) C hX hi (by decide) (by omega) hL2 dL_1336 dL_1337 dL_1338 dL_1339 dL_1340 ?_
  refine X.arg (k := 3) C hX hi (by decide) (by omega) hL2 dL_1341 dL_1342 dL_1343 dL_1344 dL_1345 ?_
  refine X.arg (k := 4) C hX hi (by decide) (by omega) hL2 dL_1346 dL_1347 dL_1348 dL_1349 dL_1350 ?_
  refine X.callC (T' := T) (r := r) (As := [vi (xi xs (i + 1).toNat), vi (xi xs (i + 2).toNat), vi (xi xs (i + 3).toNat), vi (xi xs (i + 4).toNat)]) (rest := []) C dL_1351 ml_L_154 mX7_span (kX7_span q T (xi xs (i + 1).toNat) (xi xs (i + 2).toNat) (xi xs (i + 3).toNat) (xi xs (i + 4).toNat) _ e1) (fun _ _ => rfl) rfl rfl rfl rfl rfl ha hb ?_
  refine X.aload_n C dL_1354 rfl 1 rfl ?_
  refine X.arg (k := 1) C hX hi (by decide) (by omega) hL2 dL_1355 dL_1356 dL_1357 dL_1358 dL_1359 ?_
  refine X.arg (k := 2) C hX hi (by decide) (by omega) hL2 dL_1360 dL_1361 dL_1362 dL_1363 dL_1364 ?_
  refine X.arg (k := 3) C hX hi (by decide) (by omega) hL2 dL_1365 dL_1366 dL_1367 dL_1368 dL_1369 ?_
  refine X.arg (k := 4) C hX hi (by decide) (by omega) hL2 dL_1370 dL_1371 dL_1372 dL_1373 dL_1374 ?_
  refine X.callM (M' := M') (r := r) (As := [vi (xi xs (i + 1).toNat), vi (xi xs (i + 2).toNat), vi (xi xs (i + 3).toNat), vi (xi xs (i + 4).toNat)]) (rest := [vi r]) C dL_1375 ml_L_158 mX8_span (kX8_span qm M (xi xs (i + 1).toNat) (xi xs (i + 2).toNat) (xi xs (i + 3).toNat) (xi xs (i + 4).toNat) _ e2) rfl rfl rfl rfl rfl ha hb ?_
  exact X.same (tgt := 2535) C dL_1378 (by decide) (K T M' ((h.fr e3).next hn))
theorem lw_where (C : Cx κ G (yL nm) code ret 4 room_1) (hX : Sc κ bb L xs) (h : Inv2 n T J M) (hn : n + 1 ≤ 512) (hi : 0 ≤ i) (hL : i + 6 < L) (hL2 : L ≤ 3584) (ha : a ≤ 600000) (hb : b ≤ 7302250) (K : ∀ T' M', Inv2 (n + 1) T' J M' → X κ G 4 (WL G q J T' qm M') 2535 (lvL bb (q 11 31) (qm 31) i) [] a b Q) : X κ G 4 (WL G q J T qm M) 1383 (lvL bb (q 11 31) (qm 31) i) [] a b Q := by
  have e : Eqv (fX7_where T (xi xs (i + 1).toNat) (xi xs (i + 2).toNat)) (fX8_where M (xi xs (i + 1).toNat) (xi xs (i + 2).toNat)) := op_where h.1 (xi_r xs _) (xi_r xs _)
  obtain ⟨r, e1, e2⟩ := e
  refine X.aload_n C dL_1383 rfl 2 rfl ?_
  refine X.arg (k := 1) C hX hi (by decide) (by omega) hL2 dL_1384 dL_1385 dL_1386 dL_1387 dL_1388 ?_
  refine X.arg (k := 2) C hX hi (by decide) (by omega) hL2 dL_1389 dL_1390 dL_1391 dL_1392 dL_1393 ?_
  refine X.callC (T' := T) (r := r) (As := [vi (xi xs (i + 1).toNat), vi (xi xs (i + 2).toNat)]) (rest := []) C dL_1394 ml_L_159 mX7_where (kX7_where q T (xi xs (i + 1).toNat) (xi xs (i + 2).toNat) _ e1) (fun _ _ => rfl) rfl rfl rfl rfl rfl ha hb ?_
  refine X.aload_n C dL_1397 rfl 1 rfl ?_
  refine X.arg (k := 1) C hX hi (by decide) (by omega) hL2 dL_1398 dL_1399 dL_1400 dL_1401 dL_1402 ?_
  refine X.arg (k := 2) C hX hi (by decide) (by omega) hL2 dL_1403 dL_1404 dL_1405 dL_1406 dL_1407 ?_
  refine X.callM (M' := M) (r := r) (As := [vi (xi xs (i + 1).toNat), vi (xi xs (i + 2).toNat)]) (rest := [vi r]) C dL_1408 ml_L_162 mX8_where (kX8_where qm M (xi xs (i + 1).toNat) (xi xs (i + 2).toNat) _ e2) rfl rfl rfl rfl rfl ha hb ?_
  exact X.same (tgt := 2535) C dL_1411 (by decide) (K T M (h.next hn))
theorem lw_move (C : Cx κ G (yL nm) code ret 4 room_1) (hX : Sc κ bb L xs) (h : Inv2 n T J M) (hn : n + 1 ≤ 512) (hi : 0 ≤ i) (hL : i + 6 < L) (hL2 : L ≤ 3584) (ha : a ≤ 600000) (hb : b ≤ 7302250) (K : ∀ T' M', Inv2 (n + 1) T' J M' → X κ G 4 (WL G q J T' qm M') 2535 (lvL bb (q 11 31) (qm 31) i) [] a b Q) : X κ G 4 (WL G q J T qm M) 1416 (lvL bb (q 11 31) (qm 31) i) [] a b Q := by
  have e : Nx n T J (fX7_move T (xi xs (i + 1).toNat) (xi xs (i + 2).toNat) (xi xs (i + 3).toNat)) (fX8_move M (xi xs (i + 1).toNat) (xi xs (i + 2).toNat) (xi xs (i + 3).toNat)) := op_move h hn (xi_r xs _) (xi_r xs _) (xi_r xs _)
  obtain ⟨r, T', M', e1, e2, e3, e4⟩ := e
  refine X.aload_n C dL_1416 rfl 2 rfl ?_
  refine X.arg (k := 1) C hX hi (by decide) (by omega) hL2 dL_1417 dL_1418 dL_1419 dL_1420 dL_1421 ?_
  refine X.arg (k := 2) C hX hi (by decide) (by omega) hL2 dL_1422 dL_1423 dL_1424 dL_1425 dL_1426 ?_
  refine X.arg (k := 3) C hX hi (by decide) (by omega) hL2 dL_1427 dL_1428 dL_1429 dL_1430 dL_1431 ?_
  refine X.callC (T' := T') (r := r) (As := [vi (xi xs (i + 1).toNat), vi (xi xs (i + 2).toNat), vi (xi xs (i + 3).toNat)]) (rest := []) C dL_1432 ml_L_163 mX7_move (kX7_move q T (xi xs (i + 1).toNat) (xi xs (i + 2).toNat) (xi xs (i + 3).toNat) _ e1) e4 rfl rfl rfl rfl rfl ha hb ?_
  refine X.aload_n C dL_1435 rfl 1 rfl ?_
  refine X.arg (k := 1) C hX hi (by decide) (by omega) hL2 dL_1436 dL_1437 dL_1438 dL_1439 dL_1440 ?_
  refine X.arg (k := 2) C hX hi (by decide) (by omega) hL2 dL_1441 dL_1442 dL_1443 dL_1444 dL_1445 ?_
  refine X.arg (k := 3) C hX hi (by decide) (by omega) hL2 dL_1446 dL_1447 dL_1448 dL_1449 dL_1450 ?_
  refine X.callM (M' := M') (r := r) (As := [vi (xi xs (i + 1).toNat), vi (xi xs (i + 2).toNat), vi (xi xs (i + 3).toNat)]) (rest := [vi r]) C dL_1451 ml_L_166 mX8_move (kX8_move qm M (xi xs (i + 1).toNat) (xi xs (i + 2).toNat) (xi xs (i + 3).toNat) _ e2) rfl rfl rfl rfl rfl ha hb ?_
  exact X.same (tgt := 2535) C dL_1454 (by decide) (K T' M' e3)
theorem lw_bow (C : Cx κ G (yL nm) code ret 4 room_1) (hX : Sc κ bb L xs) (h : Inv2 n T J M) (hn : n + 1 ≤ 512) (hi : 0 ≤ i) (hL : i + 6 < L) (hL2 : L ≤ 3584) (ha : a ≤ 600000) (hb : b ≤ 7302250) (K : ∀ T' M', Inv2 (n + 1) T' J M' → X κ G 4 (WL G q J T' qm M') 2535 (lvL bb (q 11 31) (qm 31) i) [] a b Q) : X κ G 4 (WL G q J T qm M) 1459 (lvL bb (q 11 31) (qm 31) i) [] a b Q := by
  have e : Eqv (fX7_bow T (xi xs (i + 1).toNat) (xi xs (i + 2).toNat) (xi xs (i + 3).toNat)) (fX8_bow M (xi xs (i + 1).toNat) (xi xs (i + 2).toNat) (xi xs (i + 3).toNat)) := op_bow h.1 (xi_r xs _) (xi_r xs _) (xi_r xs _)
  obtain ⟨r, e1, e2⟩ := e
  refine X.aload_n C dL_1459 rfl 2 rfl ?_
  refine X.arg (k := 1) C hX hi (by decide) (by omega) hL2 dL_1460 dL_1461 dL_1462 dL_1463 dL_1464 ?_
  refine X.arg (k := 2) C hX hi (by decide) (by omega) hL2 dL_1465 dL_1466 dL_1467 dL_1468 dL_1469 ?_
  refine X.arg (k := 3) C hX hi (by decide) (by omega) hL2 dL_1470 dL_1471 dL_1472 dL_1473 dL_1474 ?_
  refine X.callC (T' := T) (r := r) (As := [vi (xi xs (i + 1).toNat), vi (xi xs (i + 2).toNat), vi (xi xs (i + 3).toNat)]) (rest := []) C dL_1475 ml_L_167 mX7_bow (kX7_bow q T (xi xs (i + 1).toNat) (xi xs (i + 2).toNat) (xi xs (i + 3).toNat) _ e1) (fun _ _ => rfl) rfl rfl rfl rfl rfl ha hb ?_
  refine X.aload_n C dL_1478 rfl 1 rfl ?_
  refine X.arg (k := 1) C hX hi (by decide) (by omega) hL2 dL_1479 dL_1480 dL_1481 dL_1482 dL_1483 ?_
  refine X.arg (k := 2) C hX hi (by decide) (by omega) hL2 dL_1484 dL_1485 dL_1486 dL_1487 dL_1488 ?_
  refine X.arg (k := 3) C hX hi (by decide) (by omega) hL2 dL_1489 dL_1490 dL_1491 dL_1492 dL_1493 ?_
  refine X.callM (M' := M) (r := r) (As := [vi (xi xs (i + 1).toNat), vi (xi xs (i + 2).toNat), vi (xi xs (i + 3).toNat)]) (rest := [vi r]) C dL_1494 ml_L_170 mX8_bow (kX8_bow qm M (xi xs (i + 1).toNat) (xi xs (i + 2).toNat) (xi xs (i + 3).toNat) _ e2) rfl rfl rfl rfl rfl ha hb ?_
  exact X.same (tgt := 2535) C dL_1497 (by decide) (K T M (h.next hn))
theorem lw_bows (C : Cx κ G (yL nm) code ret 4 room_1) (hX : Sc κ bb L xs) (h : Inv2 n T J M) (hn : n + 1 ≤ 512) (hi : 0 ≤ i) (hL : i + 6 < L) (hL2 : L ≤ 3584) (ha : a ≤ 600000) (hb : b ≤ 7302250) (K : ∀ T' M', Inv2 (n + 1) T' J M' → X κ G 4 (WL G q J T' qm M') 2535 (lvL bb (q 11 31) (qm 31) i) [] a b Q) : X κ G 4 (WL G q J T qm M) 1502 (lvL bb (q 11 31) (qm 31) i) [] a b Q := by
  have e : Eqv (fX7_bows T (xi xs (i + 1).toNat)) (fX8_bows M (xi xs (i + 1).toNat)) := op_bows h.1 (xi_r xs _)
  obtain ⟨r, e1, e2⟩ := e
  refine X.aload_n C dL_1502 rfl 2 rfl ?_
  refine X.arg (k := 1) C hX hi (by decide) (by omega) hL2 dL_1503 dL_1504 dL_1505 dL_1506 dL_1507 ?_
  refine X.callC (T' := T) (r := r) (As := [vi (xi xs (i + 1).toNat)]) (rest := []) C dL_1508 ml_L_171 mX7_bows (kX7_bows q T (xi xs (i + 1).toNat) _ e1) (fun _ _ => rfl) rfl rfl rfl rfl rfl ha hb ?_
  refine X.aload_n C dL_1511 rfl 1 rfl ?_
  refine X.arg (k := 1) C hX hi (by decide) (by omega) hL2 dL_1512 dL_1513 dL_1514 dL_1515 dL_1516 ?_
  refine X.callM (M' := M) (r := r) (As := [vi (xi xs (i + 1).toNat)]) (rest := [vi r]) C dL_1517 ml_L_174 mX8_bows (kX8_bows qm M (xi xs (i + 1).toNat) _ e2) rfl rfl rfl rfl rfl ha hb ?_
  exact X.same (tgt := 2535) C dL_1520 (by decide) (K T M (h.next hn))
theorem lw_mist (C : Cx κ G (yL nm) code ret 4 room_1) (hX : Sc κ bb L xs) (h : Inv2 n T J M) (hn : n + 1 ≤ 512) (hi : 0 ≤ i) (hL : i + 6 < L) (hL2 : L ≤ 3584) (ha : a ≤ 600000) (hb : b ≤ 7302250) (K : ∀ T' M', Inv2 (n + 1) T' J M' → X κ G 4 (WL G q J T' qm M') 2535 (lvL bb (q 11 31) (qm 31) i) [] a b Q) : X κ G 4 (WL G q J T qm M) 1525 (lvL bb (q 11 31) (qm 31) i) [] a b Q := by
  have e : El T M (fX7_mist T (xi xs (i + 1).toNat) (xi xs (i + 2).toNat)) (fX8_mist M (xi xs (i + 1).toNat) (xi xs (i + 2).toNat)) := op_mist h.1 (xi_r xs _) (xi_r xs _)
  obtain ⟨r, M', e1, e2, e3⟩ := e
  refine X.aload_n C dL_1525 rfl 2 rfl ?_
  refine X.arg (k := 1) C hX hi (by decide) (by omega) hL2 dL_1526 dL_1527 dL_1528 dL_1529 dL_1530 ?_
  refine X.arg (k := 2) C hX hi (by decide) (by omega) hL2 dL_1531 dL_1532 dL_1533 dL_1534 dL_1535 ?_
  refine X.callC (T' := T) (r := r) (As := [vi (xi xs (i + 1).toNat), vi (xi xs (i + 2).toNat)]) (rest := []) C dL_1536 ml_L_175 mX7_mist (kX7_mist q T (xi xs (i + 1).toNat) (xi xs (i + 2).toNat) _ e1) (fun _ _ => rfl) rfl rfl rfl rfl rfl ha hb ?_
  refine X.aload_n C dL_1539 rfl 1 rfl ?_
  refine X.arg (k := 1) C hX hi (by decide) (by omega) hL2 dL_1540 dL_1541 dL_1542 dL_1543 dL_1544 ?_
  refine X.arg (k := 2) C hX hi (by decide) (by omega) hL2 dL_1545 dL_1546 dL_1547 dL_1548 dL_1549 ?_
  refine X.callM (M' := M') (r := r) (As := [vi (xi xs (i + 1).toNat), vi (xi xs (i + 2).toNat)]) (rest := [vi r]) C dL_1550 ml_L_178 mX8_mist (kX8_mist qm M (xi xs (i + 1).toNat) (xi xs (i + 2).toNat) _ e2) rfl rfl rfl rfl rfl ha hb ?_
  exact X.same (tgt := 2535) C dL_1553 (by decide) (K T M' ((h.fr e3).next hn))
theorem lw_gusts (C : Cx κ G (yL nm) code ret 4 room_1) (hX : Sc κ bb L xs) (h : Inv2 n T J M) (hn : n + 1 ≤ 512) (hi : 0 ≤ i) (hL : i + 6 < L) (hL2 : L ≤ 3584) (ha : a ≤ 600000) (hb : b ≤ 7302250) (K : ∀ T' M', Inv2 (n + 1) T' J M' → X κ G 4 (WL G q J T' qm M') 2535 (lvL bb (q 11 31) (qm 31) i) [] a b Q) : X κ G 4 (WL G q J T qm M) 1558 (lvL bb (q 11 31) (qm 31) i) [] a b Q := by
  have e : Nx n T J (fX7_gusts T (xi xs (i + 1).toNat) (xi xs (i + 2).toNat) (xi xs (i + 3).toNat) (xi xs (i + 4).toNat)) (fX8_gusts M (xi xs (i + 1).toNat) (xi xs (i + 2).toNat) (xi xs (i + 3).toNat) (xi xs (i + 4).toNat)) := op_gusts h hn (xi_r xs _) (xi_r xs _) (xi_r xs _) (xi_r xs _)
  obtain ⟨r, T', M', e1, e2, e3, e4⟩ := e
  refine X.aload_n C dL_1558 rfl 2 rfl ?_
  refine X.arg (k := 1) C hX hi (by decide) (by omega) hL2 dL_1559 dL_1560 dL_1561 dL_1562 dL_1563 ?_
  refine X.arg (k := 2) C hX hi (by decide) (by omega) hL2 dL_1564 dL_1565 dL_1566 dL_1567 dL_1568 ?_
  refine X.arg (k := 3) C hX hi (by decide) (by omega) hL2 dL_1569 dL_1570 dL_1571 dL_1572 dL_1573 ?_
  refine X.arg (k := 4) C hX hi (by decide) (by omega) hL2 dL_1574 dL_1575 dL_1576 dL_1577 dL_1578 ?_
  refine X.callC (T' := T') (r := r) (As := [vi (xi xs (i + 1).toNat), vi (xi xs (i + 2).toNat), vi (xi xs (i + 3).toNat), vi (xi xs (i + 4).toNat)]) (rest := []) C dL_1579 ml_L_179 mX7_gusts (kX7_gusts q T (xi xs (i + 1).toNat) (xi xs (i + 2).toNat) (xi xs (i + 3).toNat) (xi xs (i + 4).toNat) _ e1) e4 rfl rfl rfl rfl rfl ha hb ?_
  refine X.aload_n C dL_1582 rfl 1 rfl ?_
  refine X.arg (k := 1) C hX hi (by decide) (by omega) hL2 dL_1583 dL_1584 dL_1585 dL_1586 dL_1587 ?_
  refine X.arg (k := 2) C hX hi (by decide) (by omega) hL2 dL_1588 dL_1589 dL_1590 dL_1591 dL_1592 ?_
  refine X.arg (k := 3) C hX hi (by decide) (by omega) hL2 dL_1593 dL_1594 dL_1595 dL_1596 dL_1597 ?_
  refine X.arg (k := 4) C hX hi (by decide) (by omega) hL2 dL_1598 dL_1599 dL_1600 dL_1601 dL_1602 ?_
  refine X.callM (M' := M') (r := r) (As := [vi (xi xs (i + 1).toNat), vi (xi xs (i + 2).toNat), vi (xi xs (i + 3).toNat), vi (xi xs (i + 4).toNat)]) (rest := [vi r]) C dL_1603 ml_L_182 mX8_gusts (kX8_gusts qm M (xi xs (i + 1).toNat) (xi xs (i + 2).toNat) (xi xs (i + 3).toNat) (xi xs (i + 4).toNat) _ e2) rfl rfl rfl rfl rfl ha hb ?_
  exact X.same (tgt := 2535) C dL_1606 (by decide) (K T' M' e3)
theorem lw_winds (C : Cx κ G (yL nm) code ret 4 room_1) (hX : Sc κ bb L xs) (h : Inv2 n T J M) (hn : n + 1 ≤ 512) (hi : 0 ≤ i) (hL : i + 6 < L) (hL2 : L ≤ 3584) (ha : a ≤ 600000) (hb : b ≤ 7302250) (K : ∀ T' M', Inv2 (n + 1) T' J M' → X κ G 4 (WL G q J T' qm M') 2535 (lvL bb (q 11 31) (qm 31) i) [] a b Q) : X κ G 4 (WL G q J T qm M) 1611 (lvL bb (q 11 31) (qm 31) i) [] a b Q := by
  have e : Eqv (fX7_winds T (xi xs (i + 1).toNat) (xi xs (i + 2).toNat) (xi xs (i + 3).toNat)) (fX8_winds M (xi xs (i + 1).toNat) (xi xs (i + 2).toNat) (xi xs (i + 3).toNat)) := op_winds h.1 (xi_r xs _) (xi_r xs _) (xi_r xs _)
  obtain ⟨r, e1, e2⟩ := e
  refine X.aload_n C dL_1611 rfl 2 rfl ?_
  refine X.arg (k := 1) C hX hi (by decide) (by omega) hL2 dL_1612 dL_1613 dL_1614 dL_1615 dL_1616 ?_
  refine X.arg (k := 2) C hX hi (by decide) (by omega) hL2 dL_1617 dL_1618 dL_1619 dL_1620 dL_1621 ?_
  refine X.arg (k := 3) C hX hi (by decide) (by omega) hL2 dL_1622 dL_1623 dL_1624 dL_1625 dL_1626 ?_
  refine X.callC (T' := T) (r := r) (As := [vi (xi xs (i + 1).toNat), vi (xi xs (i + 2).toNat), vi (xi xs (i + 3).toNat)]) (rest := []) C dL_1627 ml_L_183 mX7_winds (kX7_winds q T (xi xs (i + 1).toNat) (xi xs (i + 2).toNat) (xi xs (i + 3).toNat) _ e1) (fun _ _ => rfl) rfl rfl rfl rfl rfl ha hb ?_
  refine X.aload_n C dL_1630 rfl 1 rfl ?_
  refine X.arg (k := 1) C hX hi (by decide) (by omega) hL2 dL_1631 dL_1632 dL_1633 dL_1634 dL_1635 ?_
  refine X.arg (k := 2) C hX hi (by decide) (by omega) hL2 dL_1636 dL_1637 dL_1638 dL_1639 dL_1640 ?_
  refine X.arg (k := 3) C hX hi (by decide) (by omega) hL2 dL_1641 dL_1642 dL_1643 dL_1644 dL_1645 ?_
  refine X.callM (M' := M) (r := r) (As := [vi (xi xs (i + 1).toNat), vi (xi xs (i + 2).toNat), vi (xi xs (i + 3).toNat)]) (rest := [vi r]) C dL_1646 ml_L_186 mX8_winds (kX8_winds qm M (xi xs (i + 1).toNat) (xi xs (i + 2).toNat) (xi xs (i + 3).toNat) _ e2) rfl rfl rfl rfl rfl ha hb ?_
  exact X.same (tgt := 2535) C dL_1649 (by decide) (K T M (h.next hn))
theorem lw_two (C : Cx κ G (yL nm) code ret 4 room_1) (hX : Sc κ bb L xs) (h : Inv2 n T J M) (hn : n + 1 ≤ 512) (hi : 0 ≤ i) (hL : i + 6 < L) (hL2 : L ≤ 3584) (ha : a ≤ 600000) (hb : b ≤ 7302250) (K : ∀ T' M', Inv2 (n + 1) T' J M' → X κ G 4 (WL G q J T' qm M') 2535 (lvL bb (q 11 31) (qm 31) i) [] a b Q) : X κ G 4 (WL G q J T qm M) 1654 (lvL bb (q 11 31) (qm 31) i) [] a b Q := by
  have e : Nx n T J (fX7_two T (xi xs (i + 1).toNat) (xi xs (i + 2).toNat) (xi xs (i + 3).toNat)) (fX8_two M (xi xs (i + 1).toNat) (xi xs (i + 2).toNat) (xi xs (i + 3).toNat)) := (op_two h.1 (xi_r xs _) (xi_r xs _) (xi_r xs _) : Ef T M (fX7_two T (xi xs (i + 1).toNat) (xi xs (i + 2).toNat) (xi xs (i + 3).toNat)) (fX8_two M (xi xs (i + 1).toNat) (xi xs (i + 2).toNat) (xi xs (i + 3).toNat))).nx h hn
  obtain ⟨r, T', M', e1, e2, e3, e4⟩ := e
  refine X.aload_n C dL_1654 rfl 2 rfl ?_
  refine X.arg (k := 1) C hX hi (by decide) (by omega) hL2 dL_1655 dL_1656 dL_1657 dL_1658 dL_1659 ?_
  refine X.arg (k := 2) C hX hi (by decide) (by omega) hL2 dL_1660 dL_1661 dL_1662 dL_1663 dL_1664 ?_
  refine X.arg (k := 3) C hX hi (by decide) (by omega) hL2 dL_1665 dL_1666 dL_1667 dL_1668 dL_1669 ?_
  refine X.callC (T' := T') (r := r) (As := [vi (xi xs (i + 1).toNat), vi (xi xs (i + 2).toNat), vi (xi xs (i + 3).toNat)]) (rest := []) C dL_1670 ml_L_187 mX7_two (kX7_two q T (xi xs (i + 1).toNat) (xi xs (i + 2).toNat) (xi xs (i + 3).toNat) _ e1) e4 rfl rfl rfl rfl rfl ha hb ?_
  refine X.aload_n C dL_1673 rfl 1 rfl ?_
  refine X.arg (k := 1) C hX hi (by decide) (by omega) hL2 dL_1674 dL_1675 dL_1676 dL_1677 dL_1678 ?_
  refine X.arg (k := 2) C hX hi (by decide) (by omega) hL2 dL_1679 dL_1680 dL_1681 dL_1682 dL_1683 ?_
  refine X.arg (k := 3) C hX hi (by decide) (by omega) hL2 dL_1684 dL_1685 dL_1686 dL_1687 dL_1688 ?_
  refine X.callM (M' := M') (r := r) (As := [vi (xi xs (i + 1).toNat), vi (xi xs (i + 2).toNat), vi (xi xs (i + 3).toNat)]) (rest := [vi r]) C dL_1689 ml_L_190 mX8_two (kX8_two qm M (xi xs (i + 1).toNat) (xi xs (i + 2).toNat) (xi xs (i + 3).toNat) _ e2) rfl rfl rfl rfl rfl ha hb ?_
  exact X.same (tgt := 2535) C dL_1692 (by decide) (K T' M' e3)
theorem lw_climbs (C : Cx κ G (yL nm) code ret 4 room_1) (hX : Sc κ bb L xs) (h : Inv2 n T J M) (hn : n + 1 ≤ 512) (hi : 0 ≤ i) (hL : i + 6 < L) (hL2 : L ≤ 3584) (ha : a ≤ 600000) (hb : b ≤ 7302250) (K : ∀ T' M', Inv2 (n + 1) T' J M' → X κ G 4 (WL G q J T' qm M') 2535 (lvL bb (q 11 31) (qm 31) i) [] a b Q) : X κ G 4 (WL G q J T qm M) 1697 (lvL bb (q 11 31) (qm 31) i) [] a b Q := by
  have e : Nx n T J (fX7_climbs T (xi xs (i + 1).toNat) (xi xs (i + 2).toNat) (xi xs (i + 3).toNat)) (fX8_climbs M (xi xs (i + 1).toNat) (xi xs (i + 2).toNat) (xi xs (i + 3).toNat)) := (op_climbs h.1 (xi_r xs _) (xi_r xs _) (xi_r xs _) : Ef T M (fX7_climbs T (xi xs (i + 1).toNat) (xi xs (i + 2).toNat) (xi xs (i + 3).toNat)) (fX8_climbs M (xi xs (i + 1).toNat) (xi xs (i + 2).toNat) (xi xs (i + 3).toNat))).nx h hn
  obtain ⟨r, T', M', e1, e2, e3, e4⟩ := e
  refine X.aload_n C dL_1697 rfl 2 rfl ?_
  refine X.arg (k := 1) C hX hi (by decide) (by omega) hL2 dL_1698 dL_1699 dL_1700 dL_1701 dL_1702 ?_
  refine X.arg (k := 2) C hX hi (by decide) (by omega) hL2 dL_1703 dL_1704 dL_1705 dL_1706 dL_1707 ?_
  refine X.arg (k := 3) C hX hi (by decide) (by omega) hL2 dL_1708 dL_1709 dL_1710 dL_1711 dL_1712 ?_
  refine X.callC (T' := T') (r := r) (As := [vi (xi xs (i + 1).toNat), vi (xi xs (i + 2).toNat), vi (xi xs (i + 3).toNat)]) (rest := []) C dL_1713 ml_L_191 mX7_climbs (kX7_climbs q T (xi xs (i + 1).toNat) (xi xs (i + 2).toNat) (xi xs (i + 3).toNat) _ e1) e4 rfl rfl rfl rfl rfl ha hb ?_
  refine X.aload_n C dL_1716 rfl 1 rfl ?_
  refine X.arg (k := 1) C hX hi (by decide) (by omega) hL2 dL_1717 dL_1718 dL_1719 dL_1720 dL_1721 ?_
  refine X.arg (k := 2) C hX hi (by decide) (by omega) hL2 dL_1722 dL_1723 dL_1724 dL_1725 dL_1726 ?_
  refine X.arg (k := 3) C hX hi (by decide) (by omega) hL2 dL_1727 dL_1728 dL_1729 dL_1730 dL_1731 ?_
  refine X.callM (M' := M') (r := r) (As := [vi (xi xs (i + 1).toNat), vi (xi xs (i + 2).toNat), vi (xi xs (i + 3).toNat)]) (rest := [vi r]) C dL_1732 ml_L_194 mX8_climbs (kX8_climbs qm M (xi xs (i + 1).toNat) (xi xs (i + 2).toNat) (xi xs (i + 3).toNat) _ e2) rfl rfl rfl rfl rfl ha hb ?_
  exact X.same (tgt := 2535) C dL_1735 (by decide) (K T' M' e3)
theorem lw_wear (C : Cx κ G (yL nm) code ret 4 room_1) (hX : Sc κ bb L xs) (h : Inv2 n T J M) (hn : n + 1 ≤ 512) (hi : 0 ≤ i) (hL : i + 6 < L) (hL2 : L ≤ 3584) (ha : a ≤ 600000) (hb : b ≤ 7302250) (K : ∀ T' M', Inv2 (n + 1) T' J M' → X κ G 4 (WL G q J T' qm M') 2535 (lvL bb (q 11 31) (qm 31) i) [] a b Q) : X κ G 4 (WL G q J T qm M) 1740 (lvL bb (q 11 31) (qm 31) i) [] a b Q := by
  have e : Nx n T J (fX7_wear T (xi xs (i + 1).toNat)) (fX8_wear M (xi xs (i + 1).toNat)) := (op_wear h.1 (xi_r xs _) : Ef T M (fX7_wear T (xi xs (i + 1).toNat)) (fX8_wear M (xi xs (i + 1).toNat))).nx h hn
  obtain ⟨r, T', M', e1, e2, e3, e4⟩ := e
  refine X.aload_n C dL_1740 rfl 2 rfl ?_
  refine X.arg (k := 1) C hX hi (by decide) (by omega) hL2 dL_1741 dL_1742 dL_1743 dL_1744 dL_1745 ?_
  refine X.callC (T' := T') (r := r) (As := [vi (xi xs (i + 1).toNat)]) (rest := []) C dL_1746 ml_L_195 mX7_wear (kX7_wear q T (xi xs (i + 1).toNat) _ e1) e4 rfl rfl rfl rfl rfl ha hb ?_
  refine X.aload_n C dL_1749 rfl 1 rfl ?_
  refine X.arg (k := 1) C hX hi (by decide) (by omega) hL2 dL_1750 dL_1751 dL_1752 dL_1753 dL_1754 ?_
  refine X.callM (M' := M') (r := r) (As := [vi (xi xs (i + 1).toNat)]) (rest := [vi r]) C dL_1755 ml_L_198 mX8_wear (kX8_wear qm M (xi xs (i + 1).toNat) _ e2) rfl rfl rfl rfl rfl ha hb ?_
  exact X.same (tgt := 2535) C dL_1758 (by decide) (K T' M' e3)
theorem lw_idle (C : Cx κ G (yL nm) code ret 4 room_1) (hX : Sc κ bb L xs) (h : Inv2 n T J M) (hn : n + 1 ≤ 512) (hi : 0 ≤ i) (hL : i + 6 < L) (hL2 : L ≤ 3584) (ha : a ≤ 600000) (hb : b ≤ 7302250) (K : ∀ T' M', Inv2 (n + 1) T' J M' → X κ G 4 (WL G q J T' qm M') 2535 (lvL bb (q 11 31) (qm 31) i) [] a b Q) : X κ G 4 (WL G q J T qm M) 1763 (lvL bb (q 11 31) (qm 31) i) [] a b Q := by
  have e : Nx n T J (fX7_idle T (xi xs (i + 1).toNat)) (fX8_idle M (xi xs (i + 1).toNat)) := (op_idle h.1 (xi_r xs _) : Ef T M (fX7_idle T (xi xs (i + 1).toNat)) (fX8_idle M (xi xs (i + 1).toNat))).nx h hn
  obtain ⟨r, T', M', e1, e2, e3, e4⟩ := e
  refine X.aload_n C dL_1763 rfl 2 rfl ?_
  refine X.arg (k := 1) C hX hi (by decide) (by omega) hL2 dL_1764 dL_1765 dL_1766 dL_1767 dL_1768 ?_
  refine X.callC (T' := T') (r := r) (As := [vi (xi xs (i + 1).toNat)]) (rest := []) C dL_1769 ml_L_199 mX7_idle (kX7_idle q T (xi xs (i + 1).toNat) _ e1) e4 rfl rfl rfl rfl rfl ha hb ?_
  refine X.aload_n C dL_1772 rfl 1 rfl ?_
  refine X.arg (k := 1) C hX hi (by decide) (by omega) hL2 dL_1773 dL_1774 dL_1775 dL_1776 dL_1777 ?_
  refine X.callM (M' := M') (r := r) (As := [vi (xi xs (i + 1).toNat)]) (rest := [vi r]) C dL_1778 ml_L_202 mX8_idle (kX8_idle qm M (xi xs (i + 1).toNat) _ e2) rfl rfl rfl rfl rfl ha hb ?_
  exact X.same (tgt := 2535) C dL_1781 (by decide) (K T' M' e3)
theorem lw_first (C : Cx κ G (yL nm) code ret 4 room_1) (hX : Sc κ bb L xs) (h : Inv2 n T J M) (hn : n + 1 ≤ 512) (hi : 0 ≤ i) (hL : i + 6 < L) (hL2 : L ≤ 3584) (ha : a ≤ 600000) (hb : b ≤ 7302250) (K : ∀ T' M', Inv2 (n + 1) T' J M' → X κ G 4 (WL G q J T' qm M') 2535 (lvL bb (q 11 31) (qm 31) i) [] a b Q) : X κ G 4 (WL G q J T qm M) 1786 (lvL bb (q 11 31) (qm 31) i) [] a b Q := by
  have e : Nx n T J (fX7_first T (xi xs (i + 1).toNat) (xi xs (i + 2).toNat)) (fX8_first M (xi xs (i + 1).toNat) (xi xs (i + 2).toNat)) := (op_first h.1 (xi_r xs _) (xi_r xs _) : Ef T M (fX7_first T (xi xs (i + 1).toNat) (xi xs (i + 2).toNat)) (fX8_first M (xi xs (i + 1).toNat) (xi xs (i + 2).toNat))).nx h hn
  obtain ⟨r, T', M', e1, e2, e3, e4⟩ := e
  refine X.aload_n C dL_1786 rfl 2 rfl ?_
  refine X.arg (k := 1) C hX hi (by decide) (by omega) hL2 dL_1787 dL_1788 dL_1789 dL_1790 dL_1791 ?_
  refine X.arg (k := 2) C hX hi (by decide) (by omega) hL2 dL_1792 dL_1793 dL_1794 dL_1795 dL_1796 ?_
  refine X.callC (T' := T') (r := r) (As := [vi (xi xs (i + 1).toNat), vi (xi xs (i + 2).toNat)]) (rest := []) C dL_1797 ml_L_203 mX7_first (kX7_first q T (xi xs (i + 1).toNat) (xi xs (i + 2).toNat) _ e1) e4 rfl rfl rfl rfl rfl ha hb ?_
  refine X.aload_n C dL_1800 rfl 1 rfl ?_
  refine X.arg (k := 1) C hX hi (by decide) (by omega) hL2 dL_1801 dL_1802 dL_1803 dL_1804 dL_1805 ?_
  refine X.arg (k := 2) C hX hi (by decide) (by omega) hL2 dL_1806 dL_1807 dL_1808 dL_1809 dL_1810 ?_
  refine X.callM (M' := M') (r := r) (As := [vi (xi xs (i + 1).toNat), vi (xi xs (i + 2).toNat)]) (rest := [vi r]) C dL_1811 ml_L_206 mX8_first (kX8_first qm M (xi xs (i + 1).toNat) (xi xs (i + 2).toNat) _ e2) rfl rfl rfl rfl rfl ha hb ?_
  exact X.same (tgt := 2535) C dL_1814 (by decide) (K T' M' e3)
theorem lw_last (C : Cx κ G (yL nm) code ret 4 room_1) (hX : Sc κ bb L xs) (h : Inv2 n T J M) (hn : n + 1 ≤ 512) (hi : 0 ≤ i) (hL : i + 6 < L) (hL2 : L ≤ 3584) (ha : a ≤ 600000) (hb : b ≤ 7302250) (K : ∀ T' M', Inv2 (n + 1) T' J M' → X κ G 4 (WL G q J T' qm M') 2535 (lvL bb (q 11 31) (qm 31) i) [] a b Q) : X κ G 4 (WL G q J T qm M) 1819 (lvL bb (q 11 31) (qm 31) i) [] a b Q := by
  have e : Eqv (fX7_last T (xi xs (i + 1).toNat) (xi xs (i + 2).toNat)) (fX8_last M (xi xs (i + 1).toNat) (xi xs (i + 2).toNat)) := op_last h.1 (xi_r xs _) (xi_r xs _)
  obtain ⟨r, e1, e2⟩ := e
  refine X.aload_n C dL_1819 rfl 2 rfl ?_
  refine X.arg (k := 1) C hX hi (by decide) (by omega) hL2 dL_1820 dL_1821 dL_1822 dL_1823 dL_1824 ?_
  refine X.arg (k := 2) C hX hi (by decide) (by omega) hL2 dL_1825 dL_1826 dL_1827 dL_1828 dL_1829 ?_
  refine X.callC (T' := T) (r := r) (As := [vi (xi xs (i + 1).toNat), vi (xi xs (i + 2).toNat)]) (rest := []) C dL_1830 ml_L_207 mX7_last (kX7_last q T (xi xs (i + 1).toNat) (xi xs (i + 2).toNat) _ e1) (fun _ _ => rfl) rfl rfl rfl rfl rfl ha hb ?_
  refine X.aload_n C dL_1833 rfl 1 rfl ?_
  refine X.arg (k := 1) C hX hi (by decide) (by omega) hL2 dL_1834 dL_1835 dL_1836 dL_1837 dL_1838 ?_
  refine X.arg (k := 2) C hX hi (by decide) (by omega) hL2 dL_1839 dL_1840 dL_1841 dL_1842 dL_1843 ?_
  refine X.callM (M' := M) (r := r) (As := [vi (xi xs (i + 1).toNat), vi (xi xs (i + 2).toNat)]) (rest := [vi r]) C dL_1844 ml_L_210 mX8_last (kX8_last qm M (xi xs (i + 1).toNat) (xi xs (i + 2).toNat) _ e2) rfl rfl rfl rfl rfl ha hb ?_
  exact X.same (tgt := 2535) C dL_1847 (by decide) (K T M (h.next hn))
end
