theorem dL_law_1452 : decode cL_law 1452 = .ok (.aload_n 1, 1) := by decide +kernel
theorem dL_law_1453 : decode cL_law 1453 = .ok (.aload_n 0, 1) := by decide +kernel
theorem dL_law_1454 : decode cL_law 1454 = .ok (.iload 4, 2) := by decide +kernel
theorem dL_law_1456 : decode cL_law 1456 = .ok (.iconst 1, 1) := by decide +kernel
theorem dL_law_1457 : decode cL_law 1457 = .ok (.iadd, 1) := by decide +kernel
theorem dL_law_1458 : decode cL_law 1458 = .ok (.iaload, 1) := by decide +kernel
theorem dL_law_1459 : decode cL_law 1459 = .ok (.invokevirtual 184, 3) := by decide +kernel
theorem dL_law_1462 : decode cL_law 1462 = .ok (.aload_n 2, 1) := by decide +kernel
theorem dL_law_1463 : decode cL_law 1463 = .ok (.aload_n 0, 1) := by decide +kernel
theorem dL_law_1464 : decode cL_law 1464 = .ok (.iload 4, 2) := by decide +kernel
theorem dL_law_1466 : decode cL_law 1466 = .ok (.iconst 1, 1) := by decide +kernel
theorem dL_law_1467 : decode cL_law 1467 = .ok (.iadd, 1) := by decide +kernel
theorem dL_law_1468 : decode cL_law 1468 = .ok (.iaload, 1) := by decide +kernel
theorem dL_law_1469 : decode cL_law 1469 = .ok (.invokevirtual 187, 3) := by decide +kernel
theorem dL_law_1472 : decode cL_law 1472 = .ok (.if_icmp .eq 143, 3) := by decide +kernel
theorem dL_law_1477 : decode cL_law 1477 = .ok (.aload_n 1, 1) := by decide +kernel
theorem dL_law_1478 : decode cL_law 1478 = .ok (.aload_n 0, 1) := by decide +kernel
theorem dL_law_1479 : decode cL_law 1479 = .ok (.iload 4, 2) := by decide +kernel
theorem dL_law_1481 : decode cL_law 1481 = .ok (.iconst 1, 1) := by decide +kernel
theorem dL_law_1482 : decode cL_law 1482 = .ok (.iadd, 1) := by decide +kernel
theorem dL_law_1483 : decode cL_law 1483 = .ok (.iaload, 1) := by decide +kernel
theorem dL_law_1484 : decode cL_law 1484 = .ok (.invokevirtual 188, 3) := by decide +kernel
theorem dL_law_1487 : decode cL_law 1487 = .ok (.aload_n 2, 1) := by decide +kernel
theorem dL_law_1488 : decode cL_law 1488 = .ok (.aload_n 0, 1) := by decide +kernel
theorem dL_law_1489 : decode cL_law 1489 = .ok (.iload 4, 2) := by decide +kernel
theorem dL_law_1491 : decode cL_law 1491 = .ok (.iconst 1, 1) := by decide +kernel
theorem dL_law_1492 : decode cL_law 1492 = .ok (.iadd, 1) := by decide +kernel
theorem dL_law_1493 : decode cL_law 1493 = .ok (.iaload, 1) := by decide +kernel
theorem dL_law_1494 : decode cL_law 1494 = .ok (.invokevirtual 191, 3) := by decide +kernel
theorem dL_law_1497 : decode cL_law 1497 = .ok (.if_icmp .eq 118, 3) := by decide +kernel
theorem dL_law_1502 : decode cL_law 1502 = .ok (.aload_n 1, 1) := by decide +kernel
theorem dL_law_1503 : decode cL_law 1503 = .ok (.invokevirtual 192, 3) := by decide +kernel
theorem dL_law_1506 : decode cL_law 1506 = .ok (.aload_n 2, 1) := by decide +kernel
theorem dL_law_1507 : decode cL_law 1507 = .ok (.invokevirtual 195, 3) := by decide +kernel
theorem dL_law_1510 : decode cL_law 1510 = .ok (.if_icmp .eq 105, 3) := by decide +kernel
theorem dL_law_1515 : decode cL_law 1515 = .ok (.aload_n 1, 1) := by decide +kernel
theorem dL_law_1516 : decode cL_law 1516 = .ok (.aload_n 0, 1) := by decide +kernel
theorem dL_law_1517 : decode cL_law 1517 = .ok (.iload 4, 2) := by decide +kernel
theorem dL_law_1519 : decode cL_law 1519 = .ok (.iconst 1, 1) := by decide +kernel
theorem dL_law_1520 : decode cL_law 1520 = .ok (.iadd, 1) := by decide +kernel
theorem dL_law_1521 : decode cL_law 1521 = .ok (.iaload, 1) := by decide +kernel
theorem dL_law_1522 : decode cL_law 1522 = .ok (.invokevirtual 196, 3) := by decide +kernel
theorem dL_law_1525 : decode cL_law 1525 = .ok (.aload_n 2, 1) := by decide +kernel
theorem dL_law_1526 : decode cL_law 1526 = .ok (.aload_n 0, 1) := by decide +kernel
theorem dL_law_1527 : decode cL_law 1527 = .ok (.iload 4, 2) := by decide +kernel
theorem dL_law_1529 : decode cL_law 1529 = .ok (.iconst 1, 1) := by decide +kernel
theorem dL_law_1530 : decode cL_law 1530 = .ok (.iadd, 1) := by decide +kernel
theorem dL_law_1531 : decode cL_law 1531 = .ok (.iaload, 1) := by decide +kernel
theorem dL_law_1532 : decode cL_law 1532 = .ok (.invokevirtual 199, 3) := by decide +kernel
theorem dL_law_1535 : decode cL_law 1535 = .ok (.if_icmp .eq 80, 3) := by decide +kernel
theorem dL_law_1540 : decode cL_law 1540 = .ok (.aload_n 1, 1) := by decide +kernel
theorem dL_law_1541 : decode cL_law 1541 = .ok (.aload_n 0, 1) := by decide +kernel
theorem dL_law_1542 : decode cL_law 1542 = .ok (.iload 4, 2) := by decide +kernel
theorem dL_law_1544 : decode cL_law 1544 = .ok (.iconst 1, 1) := by decide +kernel
theorem dL_law_1545 : decode cL_law 1545 = .ok (.iadd, 1) := by decide +kernel
theorem dL_law_1546 : decode cL_law 1546 = .ok (.iaload, 1) := by decide +kernel
theorem dL_law_1547 : decode cL_law 1547 = .ok (.invokevirtual 200, 3) := by decide +kernel
theorem dL_law_1550 : decode cL_law 1550 = .ok (.aload_n 2, 1) := by decide +kernel
theorem dL_law_1551 : decode cL_law 1551 = .ok (.aload_n 0, 1) := by decide +kernel
theorem dL_law_1552 : decode cL_law 1552 = .ok (.iload 4, 2) := by decide +kernel
theorem dL_law_1554 : decode cL_law 1554 = .ok (.iconst 1, 1) := by decide +kernel
theorem dL_law_1555 : decode cL_law 1555 = .ok (.iadd, 1) := by decide +kernel
theorem dL_law_1556 : decode cL_law 1556 = .ok (.iaload, 1) := by decide +kernel
theorem dL_law_1557 : decode cL_law 1557 = .ok (.invokevirtual 203, 3) := by decide +kernel
theorem dL_law_1560 : decode cL_law 1560 = .ok (.if_icmp .eq 55, 3) := by decide +kernel
theorem dL_law_1565 : decode cL_law 1565 = .ok (.aload_n 1, 1) := by decide +kernel
theorem dL_law_1566 : decode cL_law 1566 = .ok (.aload_n 0, 1) := by decide +kernel
theorem dL_law_1567 : decode cL_law 1567 = .ok (.iload 4, 2) := by decide +kernel
theorem dL_law_1569 : decode cL_law 1569 = .ok (.iconst 1, 1) := by decide +kernel
theorem dL_law_1570 : decode cL_law 1570 = .ok (.iadd, 1) := by decide +kernel
theorem dL_law_1571 : decode cL_law 1571 = .ok (.iaload, 1) := by decide +kernel
theorem dL_law_1572 : decode cL_law 1572 = .ok (.invokevirtual 204, 3) := by decide +kernel
theorem dL_law_1575 : decode cL_law 1575 = .ok (.aload_n 2, 1) := by decide +kernel
theorem dL_law_1576 : decode cL_law 1576 = .ok (.aload_n 0, 1) := by decide +kernel
theorem dL_law_1577 : decode cL_law 1577 = .ok (.iload 4, 2) := by decide +kernel
theorem dL_law_1579 : decode cL_law 1579 = .ok (.iconst 1, 1) := by decide +kernel
theorem dL_law_1580 : decode cL_law 1580 = .ok (.iadd, 1) := by decide +kernel
theorem dL_law_1581 : decode cL_law 1581 = .ok (.iaload, 1) := by decide +kernel
theorem dL_law_1582 : decode cL_law 1582 = .ok (.invokevirtual 207, 3) := by decide +kernel
theorem dL_law_1585 : decode cL_law 1585 = .ok (.if_icmp .eq 30, 3) := by decide +kernel
theorem dL_law_1590 : decode cL_law 1590 = .ok (.aload_n 1, 1) := by decide +kernel
theorem dL_law_1591 : decode cL_law 1591 = .ok (.aload_n 0, 1) := by decide +kernel
theorem dL_law_1592 : decode cL_law 1592 = .ok (.iload 4, 2) := by decide +kernel
theorem dL_law_1594 : decode cL_law 1594 = .ok (.iconst 1, 1) := by decide +kernel
theorem dL_law_1595 : decode cL_law 1595 = .ok (.iadd, 1) := by decide +kernel
theorem dL_law_1596 : decode cL_law 1596 = .ok (.iaload, 1) := by decide +kernel
theorem dL_law_1597 : decode cL_law 1597 = .ok (.invokevirtual 208, 3) := by decide +kernel
theorem dL_law_1600 : decode cL_law 1600 = .ok (.aload_n 2, 1) := by decide +kernel
theorem dL_law_1601 : decode cL_law 1601 = .ok (.aload_n 0, 1) := by decide +kernel
theorem dL_law_1602 : decode cL_law 1602 = .ok (.iload 4, 2) := by decide +kernel
theorem dL_law_1604 : decode cL_law 1604 = .ok (.iconst 1, 1) := by decide +kernel
theorem dL_law_1605 : decode cL_law 1605 = .ok (.iadd, 1) := by decide +kernel
theorem dL_law_1606 : decode cL_law 1606 = .ok (.iaload, 1) := by decide +kernel
theorem dL_law_1607 : decode cL_law 1607 = .ok (.invokevirtual 211, 3) := by decide +kernel
theorem dL_law_1610 : decode cL_law 1610 = .ok (.if_icmp .eq 5, 3) := by decide +kernel
theorem law_book {z : Mx} {ad : Nat → Nat} {o : Option Value × St} {b u L i : Nat} {xs : Nat → Int32} {Inv : St → Prop} (X : CxOk z ad RL cL_law 7 (some .boolean) 1200) (hX : SX z b L xs) (hi : i + 6 ≤ L) (hp : pr_book Inv) (S : St) (hInv : Inv S) (hgo : ∀ S2, Inv S2 → GW z ad o S2 1615 [(0, .ref b), (1, .ref (ad 0)), (2, .ref (ad 140)), (3, .ref u), (4, .int (nI i))] []) : GW z ad o S 1452 [(0, .ref b), (1, .ref (ad 0)), (2, .ref (ad 140)), (3, .ref u), (4, .int (nI i))] [] := by
  obtain ⟨r, S1, S2, e1, e2, hI2⟩ := hp S hInv (xs (i + 1))
  refine g_aload_n X dL_law_1452 1 rfl rfl ?_
  refine g_aload_n X dL_law_1453 0 rfl rfl ?_
  refine g_iload X dL_law_1454 4 rfl ?_
  refine g_iconst (v := 1) X dL_law_1456 (by decide) ?_
  refine g_iadd X dL_law_1457 ?_
  refine g_sld (j := i + 1) X hX dL_law_1458 (nI_add i 1) (by omega) ?_
  refine g_callVi (As := [.int (xs (i + 1))]) (v := r) (S' := S1) X dL_law_1459 mlL_184 (fun l D cyy => tX10_book (cx_inj X) l D cyy 0 (xs (i + 1)) (by decide +kernel) S (r, S1) e1) (by decide +kernel) (by decide) rfl rfl (Nat.le_of_ble_eq_true rfl) ?_
  refine g_aload_n X dL_law_1462 2 rfl rfl ?_
  refine g_aload_n X dL_law_1463 0 rfl rfl ?_
  refine g_iload X dL_law_1464 4 rfl ?_
  refine g_iconst (v := 1) X dL_law_1466 (by decide) ?_
  refine g_iadd X dL_law_1467 ?_
  refine g_sld (j := i + 1) X hX dL_law_1468 (nI_add i 1) (by omega) ?_
  refine g_callVi (As := [.int (xs (i + 1))]) (v := r) (S' := S2) X dL_law_1469 mlL_187 (fun l D cyy => tX11_book (cx_inj X) l D cyy 140 (xs (i + 1)) (by decide +kernel) S1 (r, S2) e2) (by decide +kernel) (by decide) rfl rfl (Nat.le_of_ble_eq_true rfl) ?_
  exact g_icmp_eq (tgt := 1615) X dL_law_1472 (by decide) (fun _ => hgo S2 hI2) (fun c0 => absurd rfl c0)
theorem law_told {z : Mx} {ad : Nat → Nat} {o : Option Value × St} {b u L i : Nat} {xs : Nat → Int32} {Inv : St → Prop} (X : CxOk z ad RL cL_law 7 (some .boolean) 1200) (hX : SX z b L xs) (hi : i + 6 ≤ L) (hp : pr_told Inv) (S : St) (hInv : Inv S) (hgo : ∀ S2, Inv S2 → GW z ad o S2 1615 [(0, .ref b), (1, .ref (ad 0)), (2, .ref (ad 140)), (3, .ref u), (4, .int (nI i))] []) : GW z ad o S 1477 [(0, .ref b), (1, .ref (ad 0)), (2, .ref (ad 140)), (3, .ref u), (4, .int (nI i))] [] := by
  obtain ⟨r, S2, e1, e2, hI2⟩ := hp S hInv (xs (i + 1))
  refine g_aload_n X dL_law_1477 1 rfl rfl ?_
  refine g_aload_n X dL_law_1478 0 rfl rfl ?_
  refine g_iload X dL_law_1479 4 rfl ?_
  refine g_iconst (v := 1) X dL_law_1481 (by decide) ?_
  refine g_iadd X dL_law_1482 ?_
  refine g_sld (j := i + 1) X hX dL_law_1483 (nI_add i 1) (by omega) ?_
  refine g_callVi (As := [.int (xs (i + 1))]) (v := r) (S' := S) X dL_law_1484 mlL_188 (fun l D cyy => (by have h9 := tX10_told (cx_inj X) l D cyy 0 (xs (i + 1)) (by decide +kernel) S; rw [e1] at h9; exact h9)) (by decide +kernel) (by decide) rfl rfl (Nat.le_of_ble_eq_true rfl) ?_
  refine g_aload_n X dL_law_1487 2 rfl rfl ?_
  refine g_aload_n X dL_law_1488 0 rfl rfl ?_
  refine g_iload X dL_law_1489 4 rfl ?_
  refine g_iconst (v := 1) X dL_law_1491 (by decide) ?_
  refine g_iadd X dL_law_1492 ?_
  refine g_sld (j := i + 1) X hX dL_law_1493 (nI_add i 1) (by omega) ?_
  refine g_callVi (As := [.int (xs (i + 1))]) (v := r) (S' := S2) X dL_law_1494 mlL_191 (fun l D cyy => tX11_told (cx_inj X) l D cyy 140 (xs (i + 1)) (by decide +kernel) S (r, S2) e2) (by decide +kernel) (by decide) rfl rfl (Nat.le_of_ble_eq_true rfl) ?_
  exact g_icmp_eq (tgt := 1615) X dL_law_1497 (by decide) (fun _ => hgo S2 hI2) (fun c0 => absurd rfl c0)
theorem law_sentence {z : Mx} {ad : Nat → Nat} {o : Option Value × St} {b u L i : Nat} {xs : Nat → Int32} {Inv : St → Prop} (X : CxOk z ad RL cL_law 7 (some .boolean) 1200) (hX : SX z b L xs) (hi : i + 6 ≤ L) (hp : pr_sentence Inv) (S : St) (hInv : Inv S) (hgo : ∀ S2, Inv S2 → GW z ad o S2 1615 [(0, .ref b), (1, .ref (ad 0)), (2, .ref (ad 140)), (3, .ref u), (4, .int (nI i))] []) : GW z ad o S 1502 [(0, .ref b), (1, .ref (ad 0)), (2, .ref (ad 140)), (3, .ref u), (4, .int (nI i))] [] := by
  obtain ⟨r, S1, S2, e1, e2, hI2⟩ := hp S hInv 
  refine g_aload_n X dL_law_1502 1 rfl rfl ?_
  refine g_callVi (As := []) (v := r) (S' := S1) X dL_law_1503 mlL_192 (fun l D cyy => tX10_sentence (cx_inj X) l D cyy 0 (by decide +kernel) S (r, S1) e1) (by decide +kernel) (by decide) rfl rfl (Nat.le_of_ble_eq_true rfl) ?_
  refine g_aload_n X dL_law_1506 2 rfl rfl ?_
  refine g_callVi (As := []) (v := r) (S' := S2) X dL_law_1507 mlL_195 (fun l D cyy => tX11_sentence (cx_inj X) l D cyy 140 (by decide +kernel) S1 (r, S2) e2) (by decide +kernel) (by decide) rfl rfl (Nat.le_of_ble_eq_true rfl) ?_
  exact g_icmp_eq (tgt := 1615) X dL_law_1510 (by decide) (fun _ => hgo S2 hI2) (fun c0 => absurd rfl c0)
theorem law_said {z : Mx} {ad : Nat → Nat} {o : Option Value × St} {b u L i : Nat} {xs : Nat → Int32} {Inv : St → Prop} (X : CxOk z ad RL cL_law 7 (some .boolean) 1200) (hX : SX z b L xs) (hi : i + 6 ≤ L) (hp : pr_said Inv) (S : St) (hInv : Inv S) (hgo : ∀ S2, Inv S2 → GW z ad o S2 1615 [(0, .ref b), (1, .ref (ad 0)), (2, .ref (ad 140)), (3, .ref u), (4, .int (nI i))] []) : GW z ad o S 1515 [(0, .ref b), (1, .ref (ad 0)), (2, .ref (ad 140)), (3, .ref u), (4, .int (nI i))] [] := by
  obtain ⟨r, S2, e1, e2, hI2⟩ := hp S hInv (xs (i + 1))
  refine g_aload_n X dL_law_1515 1 rfl rfl ?_
  refine g_aload_n X dL_law_1516 0 rfl rfl ?_
  refine g_iload X dL_law_1517 4 rfl ?_
  refine g_iconst (v := 1) X dL_law_1519 (by decide) ?_
  refine g_iadd X dL_law_1520 ?_
  refine g_sld (j := i + 1) X hX dL_law_1521 (nI_add i 1) (by omega) ?_
  refine g_callVi (As := [.int (xs (i + 1))]) (v := r) (S' := S) X dL_law_1522 mlL_196 (fun l D cyy => tX10_said (cx_inj X) l D cyy 0 (xs (i + 1)) (by decide +kernel) S r e1) (by decide +kernel) (by decide) rfl rfl (Nat.le_of_ble_eq_true rfl) ?_
  refine g_aload_n X dL_law_1525 2 rfl rfl ?_
  refine g_aload_n X dL_law_1526 0 rfl rfl ?_
  refine g_iload X dL_law_1527 4 rfl ?_
  refine g_iconst (v := 1) X dL_law_1529 (by decide) ?_
  refine g_iadd X dL_law_1530 ?_
  refine g_sld (j := i + 1) X hX dL_law_1531 (nI_add i 1) (by omega) ?_
  refine g_callVi (As := [.int (xs (i + 1))]) (v := r) (S' := S2) X dL_law_1532 mlL_199 (fun l D cyy => tX11_said (cx_inj X) l D cyy 140 (xs (i + 1)) (by decide +kernel) S (r, S2) e2) (by decide +kernel) (by decide) rfl rfl (Nat.le_of_ble_eq_true rfl) ?_
  exact g_icmp_eq (tgt := 1615) X dL_law_1535 (by decide) (fun _ => hgo S2 hI2) (fun c0 => absurd rfl c0)
theorem law_image {z : Mx} {ad : Nat → Nat} {o : Option Value × St} {b u L i : Nat} {xs : Nat → Int32} {Inv : St → Prop} (X : CxOk z ad RL cL_law 7 (some .boolean) 1200) (hX : SX z b L xs) (hi : i + 6 ≤ L) (hp : pr_image Inv) (S : St) (hInv : Inv S) (hgo : ∀ S2, Inv S2 → GW z ad o S2 1615 [(0, .ref b), (1, .ref (ad 0)), (2, .ref (ad 140)), (3, .ref u), (4, .int (nI i))] []) : GW z ad o S 1540 [(0, .ref b), (1, .ref (ad 0)), (2, .ref (ad 140)), (3, .ref u), (4, .int (nI i))] [] := by
  obtain ⟨r, S1, S2, e1, e2, hI2⟩ := hp S hInv (xs (i + 1))
  refine g_aload_n X dL_law_1540 1 rfl rfl ?_
  refine g_aload_n X dL_law_1541 0 rfl rfl ?_
  refine g_iload X dL_law_1542 4 rfl ?_
  refine g_iconst (v := 1) X dL_law_1544 (by decide) ?_
  refine g_iadd X dL_law_1545 ?_
  refine g_sld (j := i + 1) X hX dL_law_1546 (nI_add i 1) (by omega) ?_
  refine g_callVi (As := [.int (xs (i + 1))]) (v := r) (S' := S1) X dL_law_1547 mlL_200 (fun l D cyy => tX10_image (cx_inj X) l D cyy 0 (xs (i + 1)) (by decide +kernel) S (r, S1) e1) (by decide +kernel) (by decide) rfl rfl (Nat.le_of_ble_eq_true rfl) ?_
  refine g_aload_n X dL_law_1550 2 rfl rfl ?_
  refine g_aload_n X dL_law_1551 0 rfl rfl ?_
  refine g_iload X dL_law_1552 4 rfl ?_
  refine g_iconst (v := 1) X dL_law_1554 (by decide) ?_
  refine g_iadd X dL_law_1555 ?_
  refine g_sld (j := i + 1) X hX dL_law_1556 (nI_add i 1) (by omega) ?_
  refine g_callVi (As := [.int (xs (i + 1))]) (v := r) (S' := S2) X dL_law_1557 mlL_203 (fun l D cyy => tX11_image (cx_inj X) l D cyy 140 (xs (i + 1)) (by decide +kernel) S1 (r, S2) e2) (by decide +kernel) (by decide) rfl rfl (Nat.le_of_ble_eq_true rfl) ?_
  exact g_icmp_eq (tgt := 1615) X dL_law_1560 (by decide) (fun _ => hgo S2 hI2) (fun c0 => absurd rfl c0)
theorem law_restore {z : Mx} {ad : Nat → Nat} {o : Option Value × St} {b u L i : Nat} {xs : Nat → Int32} {Inv : St → Prop} (X : CxOk z ad RL cL_law 7 (some .boolean) 1200) (hX : SX z b L xs) (hi : i + 6 ≤ L) (hp : pr_restore Inv) (S : St) (hInv : Inv S) (hgo : ∀ S2, Inv S2 → GW z ad o S2 1615 [(0, .ref b), (1, .ref (ad 0)), (2, .ref (ad 140)), (3, .ref u), (4, .int (nI i))] []) : GW z ad o S 1565 [(0, .ref b), (1, .ref (ad 0)), (2, .ref (ad 140)), (3, .ref u), (4, .int (nI i))] [] := by
  obtain ⟨r, S1, S2, e1, e2, hI2⟩ := hp S hInv (xs (i + 1))
  refine g_aload_n X dL_law_1565 1 rfl rfl ?_
  refine g_aload_n X dL_law_1566 0 rfl rfl ?_
  refine g_iload X dL_law_1567 4 rfl ?_
  refine g_iconst (v := 1) X dL_law_1569 (by decide) ?_
  refine g_iadd X dL_law_1570 ?_
  refine g_sld (j := i + 1) X hX dL_law_1571 (nI_add i 1) (by omega) ?_
  refine g_callVi (As := [.int (xs (i + 1))]) (v := r) (S' := S1) X dL_law_1572 mlL_204 (fun l D cyy => tX10_restore (cx_inj X) l D cyy 0 (xs (i + 1)) (by decide +kernel) S (r, S1) e1) (by decide +kernel) (by decide) rfl rfl (Nat.le_of_ble_eq_true rfl) ?_
  refine g_aload_n X dL_law_1575 2 rfl rfl ?_
  refine g_aload_n X dL_law_1576 0 rfl rfl ?_
  refine g_iload X dL_law_1577 4 rfl ?_
  refine g_iconst (v := 1) X dL_law_1579 (by decide) ?_
  refine g_iadd X dL_law_1580 ?_
  refine g_sld (j := i + 1) X hX dL_law_1581 (nI_add i 1) (by omega) ?_
  refine g_callVi (As := [.int (xs (i + 1))]) (v := r) (S' := S2) X dL_law_1582 mlL_207 (fun l D cyy => tX11_restore (cx_inj X) l D cyy 140 (xs (i + 1)) (by decide +kernel) S1 (r, S2) e2) (by decide +kernel) (by decide) rfl rfl (Nat.le_of_ble_eq_true rfl) ?_
  exact g_icmp_eq (tgt := 1615) X dL_law_1585 (by decide) (fun _ => hgo S2 hI2) (fun c0 => absurd rfl c0)
theorem law_count {z : Mx} {ad : Nat → Nat} {o : Option Value × St} {b u L i : Nat} {xs : Nat → Int32} {Inv : St → Prop} (X : CxOk z ad RL cL_law 7 (some .boolean) 1200) (hX : SX z b L xs) (hi : i + 6 ≤ L) (hp : pr_count Inv) (S : St) (hInv : Inv S) (hgo : ∀ S2, Inv S2 → GW z ad o S2 1615 [(0, .ref b), (1, .ref (ad 0)), (2, .ref (ad 140)), (3, .ref u), (4, .int (nI i))] []) : GW z ad o S 1590 [(0, .ref b), (1, .ref (ad 0)), (2, .ref (ad 140)), (3, .ref u), (4, .int (nI i))] [] := by
  obtain ⟨r, S2, e1, e2, hI2⟩ := hp S hInv (xs (i + 1))
  refine g_aload_n X dL_law_1590 1 rfl rfl ?_
  refine g_aload_n X dL_law_1591 0 rfl rfl ?_
  refine g_iload X dL_law_1592 4 rfl ?_
  refine g_iconst (v := 1) X dL_law_1594 (by decide) ?_
  refine g_iadd X dL_law_1595 ?_
  refine g_sld (j := i + 1) X hX dL_law_1596 (nI_add i 1) (by omega) ?_
  refine g_callVi (As := [.int (xs (i + 1))]) (v := r) (S' := S) X dL_law_1597 mlL_208 (fun l D cyy => (by have h9 := tX10_count (cx_inj X) l D cyy 0 (xs (i + 1)) (by decide +kernel) S; rw [e1] at h9; exact h9)) (by decide +kernel) (by decide) rfl rfl (Nat.le_of_ble_eq_true rfl) ?_
  refine g_aload_n X dL_law_1600 2 rfl rfl ?_
  refine g_aload_n X dL_law_1601 0 rfl rfl ?_
  refine g_iload X dL_law_1602 4 rfl ?_
  refine g_iconst (v := 1) X dL_law_1604 (by decide) ?_
  refine g_iadd X dL_law_1605 ?_
  refine g_sld (j := i + 1) X hX dL_law_1606 (nI_add i 1) (by omega) ?_
  refine g_callVi (As := [.int (xs (i + 1))]) (v := r) (S' := S2) X dL_law_1607 mlL_211 (fun l D cyy => tX11_count (cx_inj X) l D cyy 140 (xs (i + 1)) (by decide +kernel) S (r, S2) e2) (by decide +kernel) (by decide) rfl rfl (Nat.le_of_ble_eq_true rfl) ?_
  exact g_icmp_eq (tgt := 1615) X dL_law_1610 (by decide) (fun _ => hgo S2 hI2) (fun c0 => absurd rfl c0)
