/-! the law: cases -/
section OLC
variable {p : Program} {l : Launch} {e : Env} {s : State} {m : MethodId} {args : Array Value} {below : List Frame} {meth : Method} {c : Code} {G : oG} {b k n ad L jN xC mC : Nat} {xs : Nat → Int32} {Q : State → Prop} {T : oT} {σ : oM} {Bd : Int}
set_option maxRecDepth 20000 in
set_option maxHeartbeats 4000000 in
theorem lc_box (C : oCx p s m args meth c G b RL cL_law 4) (hX : va_X ad L xs s s.heap) (had : ad < b) (hL : L ≤ 3072) (hmx : xC + 1227 ≤ mC) (hS : oLS T σ xC mC Bd) (hB : Bd ≤ 99000000) (hj : jN + 6 ≤ L) (hk : k + 60 ≤ 600000) (hn : n + 480 ≤ 7302250) (kk : ∀ T2 σ2 k2 n2, k2 ≤ k + 60 → n2 ≤ n + 480 → oLS T2 σ2 xC mC (Bd + 162000) → oW p l e room_1 s m args below meth c G b 4 k2 n2 Q T2 σ2 1689 [some (oa ad), some (og xC), some (og mC), some (oi (jN : Int))] []) : oW p l e room_1 s m args below meth c G b 4 k n Q T σ 1380 [some (oa ad), some (og xC), some (og mC), some (oi (jN : Int))] [] := by
  obtain ⟨h8s, h8a, h9s, h9a⟩ := oLS_sh hS
  obtain ⟨Po1, hM1, hP2⟩ := pr_box hS hmx hB (o_r32 (xs (jN + 1))) (o_r32 (xs (jN + 2))) (o_r32 (xs (jN + 3)))
  refine r_al1 (q := 1381) C dL_law_1380 rfl ?_
  refine r_aal0 (q := 1382) C dL_law_1381 rfl ?_
  refine r_il3 (q := 1383) C dL_law_1382 rfl ?_
  refine r_iconst (q := 1384) C dL_law_1383 rfl ?_
  refine r_iadd (q := 1385) C dL_law_1384 rfl ?_
  refine r_sld (q := 1386) (j := jN + 1) C hX had (by omega) (by omega) (by omega) dL_law_1385 rfl ?_
  refine r_aal0 (q := 1387) C dL_law_1386 rfl ?_
  refine r_il3 (q := 1388) C dL_law_1387 rfl ?_
  refine r_iconst (q := 1389) C dL_law_1388 rfl ?_
  refine r_iadd (q := 1390) C dL_law_1389 rfl ?_
  refine r_sld (q := 1391) (j := jN + 2) C hX had (by omega) (by omega) (by omega) dL_law_1390 rfl ?_
  refine r_aal0 (q := 1392) C dL_law_1391 rfl ?_
  refine r_il3 (q := 1393) C dL_law_1392 rfl ?_
  refine r_iconst (q := 1394) C dL_law_1393 rfl ?_
  refine r_iadd (q := 1395) C dL_law_1394 rfl ?_
  refine r_sld (q := 1396) (j := jN + 3) C hX had (by omega) (by omega) (by omega) dL_law_1395 rfl ?_
  refine r_callV (q := 1399) C hM1 m_L_138 h8s h8a dL_law_1396 rfl rfl ⟨Nat.le_of_ble_eq_true rfl, Nat.le_of_ble_eq_true rfl⟩ ⟨by show k + 0 ≤ 600000; omega, by show n + 0 ≤ 7302250; omega⟩ (Nat.le_of_ble_eq_true rfl) (fun r T2 σ2 hp1 => ?_)
  obtain ⟨hT2, z2, hr2, Po2, hM2, hP3⟩ := hP2 r T2 σ2 hp1
  subst hr2
  subst hT2
  simp only [Option.toList_some, List.cons_append, List.nil_append]
  refine r_al2 (q := 1400) C dL_law_1399 rfl ?_
  refine r_aal0 (q := 1401) C dL_law_1400 rfl ?_
  refine r_il3 (q := 1402) C dL_law_1401 rfl ?_
  refine r_iconst (q := 1403) C dL_law_1402 rfl ?_
  refine r_iadd (q := 1404) C dL_law_1403 rfl ?_
  refine r_sld (q := 1405) (j := jN + 1) C hX had (by omega) (by omega) (by omega) dL_law_1404 rfl ?_
  refine r_aal0 (q := 1406) C dL_law_1405 rfl ?_
  refine r_il3 (q := 1407) C dL_law_1406 rfl ?_
  refine r_iconst (q := 1408) C dL_law_1407 rfl ?_
  refine r_iadd (q := 1409) C dL_law_1408 rfl ?_
  refine r_sld (q := 1410) (j := jN + 2) C hX had (by omega) (by omega) (by omega) dL_law_1409 rfl ?_
  refine r_aal0 (q := 1411) C dL_law_1410 rfl ?_
  refine r_il3 (q := 1412) C dL_law_1411 rfl ?_
  refine r_iconst (q := 1413) C dL_law_1412 rfl ?_
  refine r_iadd (q := 1414) C dL_law_1413 rfl ?_
  refine r_sld (q := 1415) (j := jN + 3) C hX had (by omega) (by omega) (by omega) dL_law_1414 rfl ?_
  refine r_callV (q := 1418) C hM2 m_L_141 h9s h9a dL_law_1415 rfl rfl ⟨Nat.le_of_ble_eq_true rfl, Nat.le_of_ble_eq_true rfl⟩ ⟨by show k + 0 + 0 ≤ 600000; omega, by show n + 0 + 0 ≤ 7302250; omega⟩ (Nat.le_of_ble_eq_true rfl) (fun r3 T3 σ3 hp3 => ?_)
  obtain ⟨hr3, hS3⟩ := hP3 r3 T3 σ3 hp3
  subst hr3
  simp only [Option.toList_some, List.cons_append, List.nil_append]
  refine r_iceq_s (q := 1689) C rfl dL_law_1418 (by decide) ?_
  exact kk _ _ _ _ (by omega) (by omega) hS3
set_option maxRecDepth 20000 in
set_option maxHeartbeats 4000000 in
theorem lc_put (C : oCx p s m args meth c G b RL cL_law 4) (hX : va_X ad L xs s s.heap) (had : ad < b) (hL : L ≤ 3072) (hmx : xC + 1227 ≤ mC) (hS : oLS T σ xC mC Bd) (hB : Bd ≤ 99000000) (hj : jN + 6 ≤ L) (hk : k + 60 ≤ 600000) (hn : n + 480 ≤ 7302250) (kk : ∀ T2 σ2 k2 n2, k2 ≤ k + 60 → n2 ≤ n + 480 → oLS T2 σ2 xC mC (Bd + 162000) → oW p l e room_1 s m args below meth c G b 4 k2 n2 Q T2 σ2 1689 [some (oa ad), some (og xC), some (og mC), some (oi (jN : Int))] []) : oW p l e room_1 s m args below meth c G b 4 k n Q T σ 1423 [some (oa ad), some (og xC), some (og mC), some (oi (jN : Int))] [] := by
  obtain ⟨h8s, h8a, h9s, h9a⟩ := oLS_sh hS
  obtain ⟨Po1, hM1, hP2⟩ := pr_put hS hmx hB (o_r32 (xs (jN + 1))) (o_r32 (xs (jN + 2))) (o_r32 (xs (jN + 3))) (o_r32 (xs (jN + 4)))
  refine r_al1 (q := 1424) C dL_law_1423 rfl ?_
  refine r_aal0 (q := 1425) C dL_law_1424 rfl ?_
  refine r_il3 (q := 1426) C dL_law_1425 rfl ?_
  refine r_iconst (q := 1427) C dL_law_1426 rfl ?_
  refine r_iadd (q := 1428) C dL_law_1427 rfl ?_
  refine r_sld (q := 1429) (j := jN + 1) C hX had (by omega) (by omega) (by omega) dL_law_1428 rfl ?_
  refine r_aal0 (q := 1430) C dL_law_1429 rfl ?_
  refine r_il3 (q := 1431) C dL_law_1430 rfl ?_
  refine r_iconst (q := 1432) C dL_law_1431 rfl ?_
  refine r_iadd (q := 1433) C dL_law_1432 rfl ?_
  refine r_sld (q := 1434) (j := jN + 2) C hX had (by omega) (by omega) (by omega) dL_law_1433 rfl ?_
  refine r_aal0 (q := 1435) C dL_law_1434 rfl ?_
  refine r_il3 (q := 1436) C dL_law_1435 rfl ?_
  refine r_iconst (q := 1437) C dL_law_1436 rfl ?_
  refine r_iadd (q := 1438) C dL_law_1437 rfl ?_
  refine r_sld (q := 1439) (j := jN + 3) C hX had (by omega) (by omega) (by omega) dL_law_1438 rfl ?_
  refine r_aal0 (q := 1440) C dL_law_1439 rfl ?_
  refine r_il3 (q := 1441) C dL_law_1440 rfl ?_
  refine r_iconst (q := 1442) C dL_law_1441 rfl ?_
  refine r_iadd (q := 1443) C dL_law_1442 rfl ?_
  refine r_sld (q := 1444) (j := jN + 4) C hX had (by omega) (by omega) (by omega) dL_law_1443 rfl ?_
  refine r_callV (q := 1447) C hM1 m_L_142 h8s h8a dL_law_1444 rfl rfl ⟨Nat.le_of_ble_eq_true rfl, Nat.le_of_ble_eq_true rfl⟩ ⟨by show k + 0 ≤ 600000; omega, by show n + 0 ≤ 7302250; omega⟩ (Nat.le_of_ble_eq_true rfl) (fun r T2 σ2 hp1 => ?_)
  obtain ⟨hT2, z2, hr2, Po2, hM2, hP3⟩ := hP2 r T2 σ2 hp1
  subst hr2
  subst hT2
  simp only [Option.toList_some, List.cons_append, List.nil_append]
  refine r_al2 (q := 1448) C dL_law_1447 rfl ?_
  refine r_aal0 (q := 1449) C dL_law_1448 rfl ?_
  refine r_il3 (q := 1450) C dL_law_1449 rfl ?_
  refine r_iconst (q := 1451) C dL_law_1450 rfl ?_
  refine r_iadd (q := 1452) C dL_law_1451 rfl ?_
  refine r_sld (q := 1453) (j := jN + 1) C hX had (by omega) (by omega) (by omega) dL_law_1452 rfl ?_
  refine r_aal0 (q := 1454) C dL_law_1453 rfl ?_
  refine r_il3 (q := 1455) C dL_law_1454 rfl ?_
  refine r_iconst (q := 1456) C dL_law_1455 rfl ?_
  refine r_iadd (q := 1457) C dL_law_1456 rfl ?_
  refine r_sld (q := 1458) (j := jN + 2) C hX had (by omega) (by omega) (by omega) dL_law_1457 rfl ?_
  refine r_aal0 (q := 1459) C dL_law_1458 rfl ?_
  refine r_il3 (q := 1460) C dL_law_1459 rfl ?_
  refine r_iconst (q := 1461) C dL_law_1460 rfl ?_
  refine r_iadd (q := 1462) C dL_law_1461 rfl ?_
  refine r_sld (q := 1463) (j := jN + 3) C hX had (by omega) (by omega) (by omega) dL_law_1462 rfl ?_
  refine r_aal0 (q := 1464) C dL_law_1463 rfl ?_
  refine r_il3 (q := 1465) C dL_law_1464 rfl ?_
  refine r_iconst (q := 1466) C dL_law_1465 rfl ?_
  refine r_iadd (q := 1467) C dL_law_1466 rfl ?_
  refine r_sld (q := 1468) (j := jN + 4) C hX had (by omega) (by omega) (by omega) dL_law_1467 rfl ?_
  refine r_callV (q := 1471) C hM2 m_L_145 h9s h9a dL_law_1468 rfl rfl ⟨Nat.le_of_ble_eq_true rfl, Nat.le_of_ble_eq_true rfl⟩ ⟨by show k + 0 + 0 ≤ 600000; omega, by show n + 0 + 0 ≤ 7302250; omega⟩ (Nat.le_of_ble_eq_true rfl) (fun r3 T3 σ3 hp3 => ?_)
  obtain ⟨hr3, hS3⟩ := hP3 r3 T3 σ3 hp3
  subst hr3
  simp only [Option.toList_some, List.cons_append, List.nil_append]
  refine r_iceq_s (q := 1689) C rfl dL_law_1471 (by decide) ?_
  exact kk _ _ _ _ (by omega) (by omega) hS3
set_option maxRecDepth 20000 in
set_option maxHeartbeats 4000000 in
theorem lc_look (C : oCx p s m args meth c G b RL cL_law 4) (hX : va_X ad L xs s s.heap) (had : ad < b) (hL : L ≤ 3072) (hmx : xC + 1227 ≤ mC) (hS : oLS T σ xC mC Bd) (hB : Bd ≤ 99000000) (hj : jN + 6 ≤ L) (hk : k + 60 ≤ 600000) (hn : n + 480 ≤ 7302250) (kk : ∀ T2 σ2 k2 n2, k2 ≤ k + 60 → n2 ≤ n + 480 → oLS T2 σ2 xC mC (Bd + 162000) → oW p l e room_1 s m args below meth c G b 4 k2 n2 Q T2 σ2 1689 [some (oa ad), some (og xC), some (og mC), some (oi (jN : Int))] []) : oW p l e room_1 s m args below meth c G b 4 k n Q T σ 1476 [some (oa ad), some (og xC), some (og mC), some (oi (jN : Int))] [] := by
  obtain ⟨h8s, h8a, h9s, h9a⟩ := oLS_sh hS
  obtain ⟨Po1, hM1, hP2⟩ := pr_look hS hmx hB (o_r32 (xs (jN + 1))) (o_r32 (xs (jN + 2))) (o_r32 (xs (jN + 3)))
  refine r_al1 (q := 1477) C dL_law_1476 rfl ?_
  refine r_aal0 (q := 1478) C dL_law_1477 rfl ?_
  refine r_il3 (q := 1479) C dL_law_1478 rfl ?_
  refine r_iconst (q := 1480) C dL_law_1479 rfl ?_
  refine r_iadd (q := 1481) C dL_law_1480 rfl ?_
  refine r_sld (q := 1482) (j := jN + 1) C hX had (by omega) (by omega) (by omega) dL_law_1481 rfl ?_
  refine r_aal0 (q := 1483) C dL_law_1482 rfl ?_
  refine r_il3 (q := 1484) C dL_law_1483 rfl ?_
  refine r_iconst (q := 1485) C dL_law_1484 rfl ?_
  refine r_iadd (q := 1486) C dL_law_1485 rfl ?_
  refine r_sld (q := 1487) (j := jN + 2) C hX had (by omega) (by omega) (by omega) dL_law_1486 rfl ?_
  refine r_aal0 (q := 1488) C dL_law_1487 rfl ?_
  refine r_il3 (q := 1489) C dL_law_1488 rfl ?_
  refine r_iconst (q := 1490) C dL_law_1489 rfl ?_
  refine r_iadd (q := 1491) C dL_law_1490 rfl ?_
  refine r_sld (q := 1492) (j := jN + 3) C hX had (by omega) (by omega) (by omega) dL_law_1491 rfl ?_
  refine r_callV (q := 1495) C hM1 m_L_146 h8s h8a dL_law_1492 rfl rfl ⟨Nat.le_of_ble_eq_true rfl, Nat.le_of_ble_eq_true rfl⟩ ⟨by show k + 0 ≤ 600000; omega, by show n + 0 ≤ 7302250; omega⟩ (Nat.le_of_ble_eq_true rfl) (fun r T2 σ2 hp1 => ?_)
  obtain ⟨hT2, z2, hr2, Po2, hM2, hP3⟩ := hP2 r T2 σ2 hp1
  subst hr2
  subst hT2
  simp only [Option.toList_some, List.cons_append, List.nil_append]
  refine r_al2 (q := 1496) C dL_law_1495 rfl ?_
  refine r_aal0 (q := 1497) C dL_law_1496 rfl ?_
  refine r_il3 (q := 1498) C dL_law_1497 rfl ?_
  refine r_iconst (q := 1499) C dL_law_1498 rfl ?_
  refine r_iadd (q := 1500) C dL_law_1499 rfl ?_
  refine r_sld (q := 1501) (j := jN + 1) C hX had (by omega) (by omega) (by omega) dL_law_1500 rfl ?_
  refine r_aal0 (q := 1502) C dL_law_1501 rfl ?_
  refine r_il3 (q := 1503) C dL_law_1502 rfl ?_
  refine r_iconst (q := 1504) C dL_law_1503 rfl ?_
  refine r_iadd (q := 1505) C dL_law_1504 rfl ?_
  refine r_sld (q := 1506) (j := jN + 2) C hX had (by omega) (by omega) (by omega) dL_law_1505 rfl ?_
  refine r_aal0 (q := 1507) C dL_law_1506 rfl ?_
  refine r_il3 (q := 1508) C dL_law_1507 rfl ?_
  refine r_iconst (q := 1509) C dL_law_1508 rfl ?_
  refine r_iadd (q := 1510) C dL_law_1509 rfl ?_
  refine r_sld (q := 1511) (j := jN + 3) C hX had (by omega) (by omega) (by omega) dL_law_1510 rfl ?_
  refine r_callV (q := 1514) C hM2 m_L_149 h9s h9a dL_law_1511 rfl rfl ⟨Nat.le_of_ble_eq_true rfl, Nat.le_of_ble_eq_true rfl⟩ ⟨by show k + 0 + 0 ≤ 600000; omega, by show n + 0 + 0 ≤ 7302250; omega⟩ (Nat.le_of_ble_eq_true rfl) (fun r3 T3 σ3 hp3 => ?_)
  obtain ⟨hr3, hS3⟩ := hP3 r3 T3 σ3 hp3
  subst hr3
  simp only [Option.toList_some, List.cons_append, List.nil_append]
  refine r_iceq_s (q := 1689) C rfl dL_law_1514 (by decide) ?_
  exact kk _ _ _ _ (by omega) (by omega) hS3
set_option maxRecDepth 20000 in
set_option maxHeartbeats 4000000 in
theorem lc_likeBox (C : oCx p s m args meth c G b RL cL_law 4) (hX : va_X ad L xs s s.heap) (had : ad < b) (hL : L ≤ 3072) (hmx : xC + 1227 ≤ mC) (hS : oLS T σ xC mC Bd) (hB : Bd ≤ 99000000) (hj : jN + 6 ≤ L) (hk : k + 60 ≤ 600000) (hn : n + 480 ≤ 7302250) (kk : ∀ T2 σ2 k2 n2, k2 ≤ k + 60 → n2 ≤ n + 480 → oLS T2 σ2 xC mC (Bd + 162000) → oW p l e room_1 s m args below meth c G b 4 k2 n2 Q T2 σ2 1689 [some (oa ad), some (og xC), some (og mC), some (oi (jN : Int))] []) : oW p l e room_1 s m args below meth c G b 4 k n Q T σ 1519 [some (oa ad), some (og xC), some (og mC), some (oi (jN : Int))] [] := by
  obtain ⟨h8s, h8a, h9s, h9a⟩ := oLS_sh hS
  obtain ⟨Po1, hM1, hP2⟩ := pr_likeBox hS hmx hB (o_r32 (xs (jN + 1))) (o_r32 (xs (jN + 2)))
  refine r_al1 (q := 1520) C dL_law_1519 rfl ?_
  refine r_aal0 (q := 1521) C dL_law_1520 rfl ?_
  refine r_il3 (q := 1522) C dL_law_1521 rfl ?_
  refine r_iconst (q := 1523) C dL_law_1522 rfl ?_
  refine r_iadd (q := 1524) C dL_law_1523 rfl ?_
  refine r_sld (q := 1525) (j := jN + 1) C hX had (by omega) (by omega) (by omega) dL_law_1524 rfl ?_
  refine r_aal0 (q := 1526) C dL_law_1525 rfl ?_
  refine r_il3 (q := 1527) C dL_law_1526 rfl ?_
  refine r_iconst (q := 1528) C dL_law_1527 rfl ?_
  refine r_iadd (q := 1529) C dL_law_1528 rfl ?_
  refine r_sld (q := 1530) (j := jN + 2) C hX had (by omega) (by omega) (by omega) dL_law_1529 rfl ?_
  refine r_callV (q := 1533) C hM1 m_L_150 h8s h8a dL_law_1530 rfl rfl ⟨Nat.le_of_ble_eq_true rfl, Nat.le_of_ble_eq_true rfl⟩ ⟨by show k + 0 ≤ 600000; omega, by show n + 0 ≤ 7302250; omega⟩ (Nat.le_of_ble_eq_true rfl) (fun r T2 σ2 hp1 => ?_)
  obtain ⟨hT2, z2, hr2, Po2, hM2, hP3⟩ := hP2 r T2 σ2 hp1
  subst hr2
  subst hT2
  simp only [Option.toList_some, List.cons_append, List.nil_append]
  refine r_al2 (q := 1534) C dL_law_1533 rfl ?_
  refine r_aal0 (q := 1535) C dL_law_1534 rfl ?_
  refine r_il3 (q := 1536) C dL_law_1535 rfl ?_
  refine r_iconst (q := 1537) C dL_law_1536 rfl ?_
  refine r_iadd (q := 1538) C dL_law_1537 rfl ?_
  refine r_sld (q := 1539) (j := jN + 1) C hX had (by omega) (by omega) (by omega) dL_law_1538 rfl ?_
  refine r_aal0 (q := 1540) C dL_law_1539 rfl ?_
  refine r_il3 (q := 1541) C dL_law_1540 rfl ?_
  refine r_iconst (q := 1542) C dL_law_1541 rfl ?_
  refine r_iadd (q := 1543) C dL_law_1542 rfl ?_
  refine r_sld (q := 1544) (j := jN + 2) C hX had (by omega) (by omega) (by omega) dL_law_1543 rfl ?_
  refine r_callV (q := 1547) C hM2 m_L_153 h9s h9a dL_law_1544 rfl rfl ⟨Nat.le_of_ble_eq_true rfl, Nat.le_of_ble_eq_true rfl⟩ ⟨by show k + 0 + 0 ≤ 600000; omega, by show n + 0 + 0 ≤ 7302250; omega⟩ (Nat.le_of_ble_eq_true rfl) (fun r3 T3 σ3 hp3 => ?_)
  obtain ⟨hr3, hS3⟩ := hP3 r3 T3 σ3 hp3
  subst hr3
  simp only [Option.toList_some, List.cons_append, List.nil_append]
  refine r_iceq_s (q := 1689) C rfl dL_law_1547 (by decide) ?_
  exact kk _ _ _ _ (by omega) (by omega) hS3
set_option maxRecDepth 20000 in
set_option maxHeartbeats 4000000 in
theorem lc_append (C : oCx p s m args meth c G b RL cL_law 4) (hX : va_X ad L xs s s.heap) (had : ad < b) (hL : L ≤ 3072) (hmx : xC + 1227 ≤ mC) (hS : oLS T σ xC mC Bd) (hB : Bd ≤ 99000000) (hj : jN + 6 ≤ L) (hk : k + 60 ≤ 600000) (hn : n + 480 ≤ 7302250) (kk : ∀ T2 σ2 k2 n2, k2 ≤ k + 60 → n2 ≤ n + 480 → oLS T2 σ2 xC mC (Bd + 162000) → oW p l e room_1 s m args below meth c G b 4 k2 n2 Q T2 σ2 1689 [some (oa ad), some (og xC), some (og mC), some (oi (jN : Int))] []) : oW p l e room_1 s m args below meth c G b 4 k n Q T σ 1552 [some (oa ad), some (og xC), some (og mC), some (oi (jN : Int))] [] := by
  obtain ⟨h8s, h8a, h9s, h9a⟩ := oLS_sh hS
  obtain ⟨Po1, hM1, hP2⟩ := pr_append hS hmx hB (o_r32 (xs (jN + 1)))
  refine r_al1 (q := 1553) C dL_law_1552 rfl ?_
  refine r_aal0 (q := 1554) C dL_law_1553 rfl ?_
  refine r_il3 (q := 1555) C dL_law_1554 rfl ?_
  refine r_iconst (q := 1556) C dL_law_1555 rfl ?_
  refine r_iadd (q := 1557) C dL_law_1556 rfl ?_
  refine r_sld (q := 1558) (j := jN + 1) C hX had (by omega) (by omega) (by omega) dL_law_1557 rfl ?_
  refine r_callV (q := 1561) C hM1 m_L_154 h8s h8a dL_law_1558 rfl rfl ⟨Nat.le_of_ble_eq_true rfl, Nat.le_of_ble_eq_true rfl⟩ ⟨by show k + 0 ≤ 600000; omega, by show n + 0 ≤ 7302250; omega⟩ (Nat.le_of_ble_eq_true rfl) (fun r T2 σ2 hp1 => ?_)
  obtain ⟨hT2, z2, hr2, Po2, hM2, hP3⟩ := hP2 r T2 σ2 hp1
  subst hr2
  subst hT2
  simp only [Option.toList_some, List.cons_append, List.nil_append]
  refine r_al2 (q := 1562) C dL_law_1561 rfl ?_
  refine r_aal0 (q := 1563) C dL_law_1562 rfl ?_
  refine r_il3 (q := 1564) C dL_law_1563 rfl ?_
  refine r_iconst (q := 1565) C dL_law_1564 rfl ?_
  refine r_iadd (q := 1566) C dL_law_1565 rfl ?_
  refine r_sld (q := 1567) (j := jN + 1) C hX had (by omega) (by omega) (by omega) dL_law_1566 rfl ?_
  refine r_callV (q := 1570) C hM2 m_L_157 h9s h9a dL_law_1567 rfl rfl ⟨Nat.le_of_ble_eq_true rfl, Nat.le_of_ble_eq_true rfl⟩ ⟨by show k + 0 + 0 ≤ 600000; omega, by show n + 0 + 0 ≤ 7302250; omega⟩ (Nat.le_of_ble_eq_true rfl) (fun r3 T3 σ3 hp3 => ?_)
  obtain ⟨hr3, hS3⟩ := hP3 r3 T3 σ3 hp3
  subst hr3
  simp only [Option.toList_some, List.cons_append, List.nil_append]
  refine r_iceq_s (q := 1689) C rfl dL_law_1570 (by decide) ?_
  exact kk _ _ _ _ (by omega) (by omega) hS3
set_option maxRecDepth 20000 in
set_option maxHeartbeats 4000000 in
theorem lc_read (C : oCx p s m args meth c G b RL cL_law 4) (hX : va_X ad L xs s s.heap) (had : ad < b) (hL : L ≤ 3072) (hmx : xC + 1227 ≤ mC) (hS : oLS T σ xC mC Bd) (hB : Bd ≤ 99000000) (hj : jN + 6 ≤ L) (hk : k + 60 ≤ 600000) (hn : n + 480 ≤ 7302250) (kk : ∀ T2 σ2 k2 n2, k2 ≤ k + 60 → n2 ≤ n + 480 → oLS T2 σ2 xC mC (Bd + 162000) → oW p l e room_1 s m args below meth c G b 4 k2 n2 Q T2 σ2 1689 [some (oa ad), some (og xC), some (og mC), some (oi (jN : Int))] []) : oW p l e room_1 s m args below meth c G b 4 k n Q T σ 1575 [some (oa ad), some (og xC), some (og mC), some (oi (jN : Int))] [] := by
  obtain ⟨h8s, h8a, h9s, h9a⟩ := oLS_sh hS
  obtain ⟨Po1, hM1, hP2⟩ := pr_read hS hmx hB 
  refine r_al1 (q := 1576) C dL_law_1575 rfl ?_
  refine r_callV (q := 1579) C hM1 m_L_158 h8s h8a dL_law_1576 rfl rfl ⟨Nat.le_of_ble_eq_true rfl, Nat.le_of_ble_eq_true rfl⟩ ⟨by show k + 0 ≤ 600000; omega, by show n + 0 ≤ 7302250; omega⟩ (Nat.le_of_ble_eq_true rfl) (fun r T2 σ2 hp1 => ?_)
  obtain ⟨hT2, z2, hr2, Po2, hM2, hP3⟩ := hP2 r T2 σ2 hp1
  subst hr2
  subst hT2
  simp only [Option.toList_some, List.cons_append, List.nil_append]
  refine r_al2 (q := 1580) C dL_law_1579 rfl ?_
  refine r_callV (q := 1583) C hM2 m_L_162 h9s h9a dL_law_1580 rfl rfl ⟨Nat.le_of_ble_eq_true rfl, Nat.le_of_ble_eq_true rfl⟩ ⟨by show k + 0 + 60 ≤ 600000; omega, by show n + 0 + 480 ≤ 7302250; omega⟩ (Nat.le_of_ble_eq_true rfl) (fun r3 T3 σ3 hp3 => ?_)
  obtain ⟨hr3, hS3⟩ := hP3 r3 T3 σ3 hp3
  subst hr3
  simp only [Option.toList_some, List.cons_append, List.nil_append]
  refine r_iceq_s (q := 1689) C rfl dL_law_1583 (by decide) ?_
  exact kk _ _ _ _ (by omega) (by omega) hS3
set_option maxRecDepth 20000 in
set_option maxHeartbeats 4000000 in
theorem lc_faultPosition (C : oCx p s m args meth c G b RL cL_law 4) (hX : va_X ad L xs s s.heap) (had : ad < b) (hL : L ≤ 3072) (hmx : xC + 1227 ≤ mC) (hS : oLS T σ xC mC Bd) (hB : Bd ≤ 99000000) (hj : jN + 6 ≤ L) (hk : k + 60 ≤ 600000) (hn : n + 480 ≤ 7302250) (kk : ∀ T2 σ2 k2 n2, k2 ≤ k + 60 → n2 ≤ n + 480 → oLS T2 σ2 xC mC (Bd + 162000) → oW p l e room_1 s m args below meth c G b 4 k2 n2 Q T2 σ2 1689 [some (oa ad), some (og xC), some (og mC), some (oi (jN : Int))] []) : oW p l e room_1 s m args below meth c G b 4 k n Q T σ 1588 [some (oa ad), some (og xC), some (og mC), some (oi (jN : Int))] [] := by
  obtain ⟨h8s, h8a, h9s, h9a⟩ := oLS_sh hS
  obtain ⟨Po1, hM1, hP2⟩ := pr_faultPosition hS hmx hB 
  refine r_al1 (q := 1589) C dL_law_1588 rfl ?_
  refine r_callV (q := 1592) C hM1 m_L_163 h8s h8a dL_law_1589 rfl rfl ⟨Nat.le_of_ble_eq_true rfl, Nat.le_of_ble_eq_true rfl⟩ ⟨by show k + 0 ≤ 600000; omega, by show n + 0 ≤ 7302250; omega⟩ (Nat.le_of_ble_eq_true rfl) (fun r T2 σ2 hp1 => ?_)
  obtain ⟨hT2, z2, hr2, Po2, hM2, hP3⟩ := hP2 r T2 σ2 hp1
  subst hr2
  subst hT2
  simp only [Option.toList_some, List.cons_append, List.nil_append]
  refine r_al2 (q := 1593) C dL_law_1592 rfl ?_
  refine r_callV (q := 1596) C hM2 m_L_166 h9s h9a dL_law_1593 rfl rfl ⟨Nat.le_of_ble_eq_true rfl, Nat.le_of_ble_eq_true rfl⟩ ⟨by show k + 0 + 0 ≤ 600000; omega, by show n + 0 + 0 ≤ 7302250; omega⟩ (Nat.le_of_ble_eq_true rfl) (fun r3 T3 σ3 hp3 => ?_)
  obtain ⟨hr3, hS3⟩ := hP3 r3 T3 σ3 hp3
  subst hr3
  simp only [Option.toList_some, List.cons_append, List.nil_append]
  refine r_iceq_s (q := 1689) C rfl dL_law_1596 (by decide) ?_
  exact kk _ _ _ _ (by omega) (by omega) hS3
set_option maxRecDepth 20000 in
set_option maxHeartbeats 4000000 in
theorem lc_failed (C : oCx p s m args meth c G b RL cL_law 4) (hX : va_X ad L xs s s.heap) (had : ad < b) (hL : L ≤ 3072) (hmx : xC + 1227 ≤ mC) (hS : oLS T σ xC mC Bd) (hB : Bd ≤ 99000000) (hj : jN + 6 ≤ L) (hk : k + 60 ≤ 600000) (hn : n + 480 ≤ 7302250) (kk : ∀ T2 σ2 k2 n2, k2 ≤ k + 60 → n2 ≤ n + 480 → oLS T2 σ2 xC mC (Bd + 162000) → oW p l e room_1 s m args below meth c G b 4 k2 n2 Q T2 σ2 1689 [some (oa ad), some (og xC), some (og mC), some (oi (jN : Int))] []) : oW p l e room_1 s m args below meth c G b 4 k n Q T σ 1601 [some (oa ad), some (og xC), some (og mC), some (oi (jN : Int))] [] := by
  obtain ⟨h8s, h8a, h9s, h9a⟩ := oLS_sh hS
  obtain ⟨Po1, hM1, hP2⟩ := pr_failed hS hmx hB 
  refine r_al1 (q := 1602) C dL_law_1601 rfl ?_
  refine r_callV (q := 1605) C hM1 m_L_167 h8s h8a dL_law_1602 rfl rfl ⟨Nat.le_of_ble_eq_true rfl, Nat.le_of_ble_eq_true rfl⟩ ⟨by show k + 0 ≤ 600000; omega, by show n + 0 ≤ 7302250; omega⟩ (Nat.le_of_ble_eq_true rfl) (fun r T2 σ2 hp1 => ?_)
  obtain ⟨hT2, z2, hr2, Po2, hM2, hP3⟩ := hP2 r T2 σ2 hp1
  subst hr2
  subst hT2
  simp only [Option.toList_some, List.cons_append, List.nil_append]
  refine r_al2 (q := 1606) C dL_law_1605 rfl ?_
  refine r_callV (q := 1609) C hM2 m_L_170 h9s h9a dL_law_1606 rfl rfl ⟨Nat.le_of_ble_eq_true rfl, Nat.le_of_ble_eq_true rfl⟩ ⟨by show k + 0 + 0 ≤ 600000; omega, by show n + 0 + 0 ≤ 7302250; omega⟩ (Nat.le_of_ble_eq_true rfl) (fun r3 T3 σ3 hp3 => ?_)
  obtain ⟨hr3, hS3⟩ := hP3 r3 T3 σ3 hp3
  subst hr3
  simp only [Option.toList_some, List.cons_append, List.nil_append]
  refine r_iceq_s (q := 1689) C rfl dL_law_1609 (by decide) ?_
  exact kk _ _ _ _ (by omega) (by omega) hS3
set_option maxRecDepth 20000 in
set_option maxHeartbeats 4000000 in
theorem lc_refusal (C : oCx p s m args meth c G b RL cL_law 4) (hX : va_X ad L xs s s.heap) (had : ad < b) (hL : L ≤ 3072) (hmx : xC + 1227 ≤ mC) (hS : oLS T σ xC mC Bd) (hB : Bd ≤ 99000000) (hj : jN + 6 ≤ L) (hk : k + 60 ≤ 600000) (hn : n + 480 ≤ 7302250) (kk : ∀ T2 σ2 k2 n2, k2 ≤ k + 60 → n2 ≤ n + 480 → oLS T2 σ2 xC mC (Bd + 162000) → oW p l e room_1 s m args below meth c G b 4 k2 n2 Q T2 σ2 1689 [some (oa ad), some (og xC), some (og mC), some (oi (jN : Int))] []) : oW p l e room_1 s m args below meth c G b 4 k n Q T σ 1614 [some (oa ad), some (og xC), some (og mC), some (oi (jN : Int))] [] := by
  obtain ⟨h8s, h8a, h9s, h9a⟩ := oLS_sh hS
  obtain ⟨Po1, hM1, hP2⟩ := pr_refusal hS hmx hB 
  refine r_al1 (q := 1615) C dL_law_1614 rfl ?_
  refine r_callV (q := 1618) C hM1 m_L_171 h8s h8a dL_law_1615 rfl rfl ⟨Nat.le_of_ble_eq_true rfl, Nat.le_of_ble_eq_true rfl⟩ ⟨by show k + 0 ≤ 600000; omega, by show n + 0 ≤ 7302250; omega⟩ (Nat.le_of_ble_eq_true rfl) (fun r T2 σ2 hp1 => ?_)
  obtain ⟨hT2, z2, hr2, Po2, hM2, hP3⟩ := hP2 r T2 σ2 hp1
  subst hr2
  subst hT2
  simp only [Option.toList_some, List.cons_append, List.nil_append]
  refine r_al2 (q := 1619) C dL_law_1618 rfl ?_
  refine r_callV (q := 1622) C hM2 m_L_174 h9s h9a dL_law_1619 rfl rfl ⟨Nat.le_of_ble_eq_true rfl, Nat.le_of_ble_eq_true rfl⟩ ⟨by show k + 0 + 0 ≤ 600000; omega, by show n + 0 + 0 ≤ 7302250; omega⟩ (Nat.le_of_ble_eq_true rfl) (fun r3 T3 σ3 hp3 => ?_)
  obtain ⟨hr3, hS3⟩ := hP3 r3 T3 σ3 hp3
  subst hr3
  simp only [Option.toList_some, List.cons_append, List.nil_append]
  refine r_iceq_s (q := 1689) C rfl dL_law_1622 (by decide) ?_
  exact kk _ _ _ _ (by omega) (by omega) hS3
set_option maxRecDepth 20000 in
set_option maxHeartbeats 4000000 in
theorem lc_count (C : oCx p s m args meth c G b RL cL_law 4) (hX : va_X ad L xs s s.heap) (had : ad < b) (hL : L ≤ 3072) (hmx : xC + 1227 ≤ mC) (hS : oLS T σ xC mC Bd) (hB : Bd ≤ 99000000) (hj : jN + 6 ≤ L) (hk : k + 60 ≤ 600000) (hn : n + 480 ≤ 7302250) (kk : ∀ T2 σ2 k2 n2, k2 ≤ k + 60 → n2 ≤ n + 480 → oLS T2 σ2 xC mC (Bd + 162000) → oW p l e room_1 s m args below meth c G b 4 k2 n2 Q T2 σ2 1689 [some (oa ad), some (og xC), some (og mC), some (oi (jN : Int))] []) : oW p l e room_1 s m args below meth c G b 4 k n Q T σ 1627 [some (oa ad), some (og xC), some (og mC), some (oi (jN : Int))] [] := by
  obtain ⟨h8s, h8a, h9s, h9a⟩ := oLS_sh hS
  obtain ⟨Po1, hM1, hP2⟩ := pr_count hS hmx hB (o_r32 (xs (jN + 1)))
  refine r_al1 (q := 1628) C dL_law_1627 rfl ?_
  refine r_aal0 (q := 1629) C dL_law_1628 rfl ?_
  refine r_il3 (q := 1630) C dL_law_1629 rfl ?_
  refine r_iconst (q := 1631) C dL_law_1630 rfl ?_
  refine r_iadd (q := 1632) C dL_law_1631 rfl ?_
  refine r_sld (q := 1633) (j := jN + 1) C hX had (by omega) (by omega) (by omega) dL_law_1632 rfl ?_
  refine r_callV (q := 1636) C hM1 m_L_175 h8s h8a dL_law_1633 rfl rfl ⟨Nat.le_of_ble_eq_true rfl, Nat.le_of_ble_eq_true rfl⟩ ⟨by show k + 0 ≤ 600000; omega, by show n + 0 ≤ 7302250; omega⟩ (Nat.le_of_ble_eq_true rfl) (fun r T2 σ2 hp1 => ?_)
  obtain ⟨hT2, z2, hr2, Po2, hM2, hP3⟩ := hP2 r T2 σ2 hp1
  subst hr2
  subst hT2
  simp only [Option.toList_some, List.cons_append, List.nil_append]
  refine r_al2 (q := 1637) C dL_law_1636 rfl ?_
  refine r_aal0 (q := 1638) C dL_law_1637 rfl ?_
  refine r_il3 (q := 1639) C dL_law_1638 rfl ?_
  refine r_iconst (q := 1640) C dL_law_1639 rfl ?_
  refine r_iadd (q := 1641) C dL_law_1640 rfl ?_
  refine r_sld (q := 1642) (j := jN + 1) C hX had (by omega) (by omega) (by omega) dL_law_1641 rfl ?_
  refine r_callV (q := 1645) C hM2 m_L_178 h9s h9a dL_law_1642 rfl rfl ⟨Nat.le_of_ble_eq_true rfl, Nat.le_of_ble_eq_true rfl⟩ ⟨by show k + 0 + 0 ≤ 600000; omega, by show n + 0 + 0 ≤ 7302250; omega⟩ (Nat.le_of_ble_eq_true rfl) (fun r3 T3 σ3 hp3 => ?_)
  obtain ⟨hr3, hS3⟩ := hP3 r3 T3 σ3 hp3
  subst hr3
  simp only [Option.toList_some, List.cons_append, List.nil_append]
  refine r_iceq_s (q := 1689) C rfl dL_law_1645 (by decide) ?_
  exact kk _ _ _ _ (by omega) (by omega) hS3
set_option maxRecDepth 20000 in
set_option maxHeartbeats 4000000 in
theorem lc_undo (C : oCx p s m args meth c G b RL cL_law 4) (hX : va_X ad L xs s s.heap) (had : ad < b) (hL : L ≤ 3072) (hmx : xC + 1227 ≤ mC) (hS : oLS T σ xC mC Bd) (hB : Bd ≤ 99000000) (hj : jN + 6 ≤ L) (hk : k + 60 ≤ 600000) (hn : n + 480 ≤ 7302250) (kk : ∀ T2 σ2 k2 n2, k2 ≤ k + 60 → n2 ≤ n + 480 → oLS T2 σ2 xC mC (Bd + 162000) → oW p l e room_1 s m args below meth c G b 4 k2 n2 Q T2 σ2 1689 [some (oa ad), some (og xC), some (og mC), some (oi (jN : Int))] []) : oW p l e room_1 s m args below meth c G b 4 k n Q T σ 1650 [some (oa ad), some (og xC), some (og mC), some (oi (jN : Int))] [] := by
  obtain ⟨h8s, h8a, h9s, h9a⟩ := oLS_sh hS
  obtain ⟨Po1, hM1, hP2⟩ := pr_undo hS hmx hB 
  refine r_al1 (q := 1651) C dL_law_1650 rfl ?_
  refine r_callV (q := 1654) C hM1 m_L_179 h8s h8a dL_law_1651 rfl rfl ⟨Nat.le_of_ble_eq_true rfl, Nat.le_of_ble_eq_true rfl⟩ ⟨by show k + 0 ≤ 600000; omega, by show n + 0 ≤ 7302250; omega⟩ (Nat.le_of_ble_eq_true rfl) (fun r T2 σ2 hp1 => ?_)
  obtain ⟨hT2, z2, hr2, Po2, hM2, hP3⟩ := hP2 r T2 σ2 hp1
  subst hr2
  subst hT2
  simp only [Option.toList_some, List.cons_append, List.nil_append]
  refine r_al2 (q := 1655) C dL_law_1654 rfl ?_
  refine r_callV (q := 1658) C hM2 m_L_182 h9s h9a dL_law_1655 rfl rfl ⟨Nat.le_of_ble_eq_true rfl, Nat.le_of_ble_eq_true rfl⟩ ⟨by show k + 0 + 0 ≤ 600000; omega, by show n + 0 + 0 ≤ 7302250; omega⟩ (Nat.le_of_ble_eq_true rfl) (fun r3 T3 σ3 hp3 => ?_)
  obtain ⟨hr3, hS3⟩ := hP3 r3 T3 σ3 hp3
  subst hr3
  simp only [Option.toList_some, List.cons_append, List.nil_append]
  refine r_iceq_s (q := 1689) C rfl dL_law_1658 (by decide) ?_
  exact kk _ _ _ _ (by omega) (by omega) hS3
set_option maxRecDepth 20000 in
set_option maxHeartbeats 4000000 in
theorem lc_save (C : oCx p s m args meth c G b RL cL_law 4) (hX : va_X ad L xs s s.heap) (had : ad < b) (hL : L ≤ 3072) (hmx : xC + 1227 ≤ mC) (hS : oLS T σ xC mC Bd) (hB : Bd ≤ 99000000) (hj : jN + 6 ≤ L) (hk : k + 60 ≤ 600000) (hn : n + 480 ≤ 7302250) (kk : ∀ T2 σ2 k2 n2, k2 ≤ k + 60 → n2 ≤ n + 480 → oLS T2 σ2 xC mC (Bd + 162000) → oW p l e room_1 s m args below meth c G b 4 k2 n2 Q T2 σ2 1689 [some (oa ad), some (og xC), some (og mC), some (oi (jN : Int))] []) : oW p l e room_1 s m args below meth c G b 4 k n Q T σ 1663 [some (oa ad), some (og xC), some (og mC), some (oi (jN : Int))] [] := by
  obtain ⟨h8s, h8a, h9s, h9a⟩ := oLS_sh hS
  obtain ⟨Po1, hM1, hP2⟩ := pr_save hS hmx hB 
  refine r_al1 (q := 1664) C dL_law_1663 rfl ?_
  refine r_callV (q := 1667) C hM1 m_L_183 h8s h8a dL_law_1664 rfl rfl ⟨Nat.le_of_ble_eq_true rfl, Nat.le_of_ble_eq_true rfl⟩ ⟨by show k + 0 ≤ 600000; omega, by show n + 0 ≤ 7302250; omega⟩ (Nat.le_of_ble_eq_true rfl) (fun r T2 σ2 hp1 => ?_)
  obtain ⟨hT2, z2, hr2, Po2, hM2, hP3⟩ := hP2 r T2 σ2 hp1
  subst hr2
  subst hT2
  simp only [Option.toList_some, List.cons_append, List.nil_append]
  refine r_al2 (q := 1668) C dL_law_1667 rfl ?_
  refine r_callV (q := 1671) C hM2 m_L_186 h9s h9a dL_law_1668 rfl rfl ⟨Nat.le_of_ble_eq_true rfl, Nat.le_of_ble_eq_true rfl⟩ ⟨by show k + 0 + 0 ≤ 600000; omega, by show n + 0 + 0 ≤ 7302250; omega⟩ (Nat.le_of_ble_eq_true rfl) (fun r3 T3 σ3 hp3 => ?_)
  obtain ⟨hr3, hS3⟩ := hP3 r3 T3 σ3 hp3
  subst hr3
  simp only [Option.toList_some, List.cons_append, List.nil_append]
  refine r_iceq_s (q := 1689) C rfl dL_law_1671 (by decide) ?_
  exact kk _ _ _ _ (by omega) (by omega) hS3
set_option maxRecDepth 20000 in
set_option maxHeartbeats 4000000 in
theorem lc_restore (C : oCx p s m args meth c G b RL cL_law 4) (hX : va_X ad L xs s s.heap) (had : ad < b) (hL : L ≤ 3072) (hmx : xC + 1227 ≤ mC) (hS : oLS T σ xC mC Bd) (hB : Bd ≤ 99000000) (hj : jN + 6 ≤ L) (hk : k + 60 ≤ 600000) (hn : n + 480 ≤ 7302250) (kk : ∀ T2 σ2 k2 n2, k2 ≤ k + 60 → n2 ≤ n + 480 → oLS T2 σ2 xC mC (Bd + 162000) → oW p l e room_1 s m args below meth c G b 4 k2 n2 Q T2 σ2 1689 [some (oa ad), some (og xC), some (og mC), some (oi (jN : Int))] []) : oW p l e room_1 s m args below meth c G b 4 k n Q T σ 1676 [some (oa ad), some (og xC), some (og mC), some (oi (jN : Int))] [] := by
  obtain ⟨h8s, h8a, h9s, h9a⟩ := oLS_sh hS
  obtain ⟨Po1, hM1, hP2⟩ := pr_restore hS hmx hB 
  refine r_al1 (q := 1677) C dL_law_1676 rfl ?_
  refine r_callV (q := 1680) C hM1 m_L_187 h8s h8a dL_law_1677 rfl rfl ⟨Nat.le_of_ble_eq_true rfl, Nat.le_of_ble_eq_true rfl⟩ ⟨by show k + 0 ≤ 600000; omega, by show n + 0 ≤ 7302250; omega⟩ (Nat.le_of_ble_eq_true rfl) (fun r T2 σ2 hp1 => ?_)
  obtain ⟨hT2, z2, hr2, Po2, hM2, hP3⟩ := hP2 r T2 σ2 hp1
  subst hr2
  subst hT2
  simp only [Option.toList_some, List.cons_append, List.nil_append]
  refine r_al2 (q := 1681) C dL_law_1680 rfl ?_
  refine r_callV (q := 1684) C hM2 m_L_190 h9s h9a dL_law_1681 rfl rfl ⟨Nat.le_of_ble_eq_true rfl, Nat.le_of_ble_eq_true rfl⟩ ⟨by show k + 0 + 0 ≤ 600000; omega, by show n + 0 + 0 ≤ 7302250; omega⟩ (Nat.le_of_ble_eq_true rfl) (fun r3 T3 σ3 hp3 => ?_)
  obtain ⟨hr3, hS3⟩ := hP3 r3 T3 σ3 hp3
  subst hr3
  simp only [Option.toList_some, List.cons_append, List.nil_append]
  refine r_iceq_s (q := 1689) C rfl dL_law_1684 (by decide) ?_
  exact kk _ _ _ _ (by omega) (by omega) hS3
end OLC
