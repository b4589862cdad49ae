section LAW
variable {l : Launch} {D : va_G} {T : cT} {adX adM : Nat → Nat} {sK sV : Nat → Nat} {b L q n : Nat} {xs : Nat → Int32} {Γ : Cxt} {Q : State → Prop} {kc ks : Nat} {R : Rel} {f : Nat → Int64} {gX : St} {xX : Sl} {gM : St} {xM : Sl}
set_option maxRecDepth 100000 in
theorem case_look (C : Cl D T sK sV b L xs Γ) (hl0 : l.stackTraces = false) (hS : Sim_look R) (hn : 9 * n + 9 ≤ L) (hroom : kc + 5 ≤ 601024 ∧ ks + 30 ≤ 7293034) (hR : R gX xX gM xM) (K : ∀ (f2 : Nat → Int64) (gX2 : St) (xX2 : Sl) (gM2 : St) (xM2 : Sl), R gX2 xX2 gM2 xM2 → Kj l D 8 room_1 (kc + 5) (ks + 30) Γ Q (lwV T adX adM q f2 gX2 xX2 gM2 xM2) 2534 (lwLv adX adM b q n) []) : Kj l D 8 room_1 kc ks Γ Q (lwV T adX adM q f gX xX gM xM) 1456 (lwLv adX adM b q n) [] := by
  have hR0 : room_1.cells = 601024 ∧ room_1.slots = 7293034 := ⟨rfl, rfl⟩
  obtain ⟨oX, oM, hx, hm, hR2, hv⟩ := hS gX xX gM xM (xs (9 * n + 1)) (xs (9 * n + 2)) hR
  refine q_aload_n C.1 dL_law__1456 rfl 1 rfl ?_
  refine q_aload_n C.1 dL_law__1457 rfl 0 rfl ?_
  refine q_iload C.1 dL_law__1458 4 rfl ?_
  refine q_iconst (v := Int32.ofNat 1) C.1 dL_law__1460 (by decide) ?_
  refine q_iadd C.1 dL_law__1461 ?_
  refine q_sld (v := xs (9 * n + 1)) C.1 C.2.2.2.1 C.2.2.2.2.1 C.2.2.2.2.2.1 (argI hn C.2.2.2.2.2.2 1 (by omega)).1 (congrArg xs (argI hn C.2.2.2.2.2.2 1 (by omega)).2) dL_law__1462 ?_
  refine q_aload_n C.1 dL_law__1463 rfl 0 rfl ?_
  refine q_iload C.1 dL_law__1464 4 rfl ?_
  refine q_iconst (v := Int32.ofNat 2) C.1 dL_law__1466 (by decide) ?_
  refine q_iadd C.1 dL_law__1467 ?_
  refine q_sld (v := xs (9 * n + 2)) C.1 C.2.2.2.1 C.2.2.2.2.1 C.2.2.2.2.2.1 (argI hn C.2.2.2.2.2.2 2 (by omega)).1 (congrArg xs (argI hn C.2.2.2.2.2.2 2 (by omega)).2) dL_law__1468 ?_
  refine q_aload_n C.1 dL_law__1469 rfl 3 rfl ?_
  refine q_w (kc' := kc + 2) (ks' := ks + 12) (rest := []) (As := [.ref (adX 0), .int (xs (9 * n + 1)), .int (xs (9 * n + 2)), .ref q]) C.1 C.2.1 C.2.2.1 cut_head (fun sz => cL_look_w l hl0 D T adX sK sV xX gX q f (xs (9 * n + 1)) (xs (9 * n + 2)) oX hx (simR_hk hv) sz) (TL_gi tb_1412 tb_1413 tb_1296 tb_1414) ⟨_, rfl⟩ (n := 4) (by decide +kernel) ⟨Nat.le_of_ble_eq_true rfl, Nat.le_of_ble_eq_true rfl⟩ ⟨rfl, rfl⟩ (by have := hroom; exact ⟨by omega, by omega⟩) ⟨Nat.le_refl _, Nat.le_refl _⟩ rfl rfl (Nat.le_of_ble_eq_true rfl) dL_law__1470 (fun r u hu => ?_)
  obtain ⟨e1, e2⟩ := use_I hv hu
  refine q_istore (lv' := [(5, .int r), (0, .ref b), (1, .ref (adX 0)), (2, .ref (adM 0)), (3, .ref q), (4, .int (Int32.ofNat (9 * n)))]) C.1 dL_law__1473 (Nat.le_of_ble_eq_true rfl) rfl ?_
  refine q_aload_n C.1 dL_law__1475 rfl 3 rfl ?_
  refine q_aload_n C.1 dL_law__1476 rfl 1 rfl ?_
  refine q_iload C.1 dL_law__1477 5 rfl ?_
  refine q_iconst (v := Int32.ofNat 1) C.1 dL_law__1479 (by decide) ?_
  refine q_iadd C.1 dL_law__1480 ?_
  refine q_sld (v := xs (9 * n + 1)) C.1 C.2.2.2.1 C.2.2.2.2.1 C.2.2.2.2.2.1 (argI hn C.2.2.2.2.2.2 1 (by omega)).1 (congrArg xs (argI hn C.2.2.2.2.2.2 1 (by omega)).2) dL_law__1481 ?_
  refine q_aload_n C.1 dL_law__1482 rfl 1 rfl ?_
  refine q_iload C.1 dL_law__1483 5 rfl ?_
  refine q_iconst (v := Int32.ofNat 2) C.1 dL_law__1485 (by decide) ?_
  refine q_iadd C.1 dL_law__1486 ?_
  refine q_sld (v := xs (9 * n + 2)) C.1 C.2.2.2.1 C.2.2.2.2.1 C.2.2.2.2.2.1 (argI hn C.2.2.2.2.2.2 2 (by omega)).1 (congrArg xs (argI hn C.2.2.2.2.2.2 2 (by omega)).2) dL_law__1487 ?_
  refine q_mi (kc' := kc + 2) (ks' := ks + 12) (rest := []) (ro := oM.1) (go := oM.2) (xo := xM) (As := [.int (xs (9 * n + 1)), .int (xs (9 * n + 2))]) C.1 C.2.1 (cut_tail (a := [oL T q u] ++ wW shX T adX xX oX.2)) (fun sz => cM_look l D T adM xM gM (xs (9 * n + 1)) (xs (9 * n + 2)) oM hm sz) (TM_kV tb_1415 tb_1416 tb_1417 tb_813 tb_1134 (n := 2) (by decide +kernel) BM_in BM_good) ⟨Nat.le_of_ble_eq_true rfl, Nat.le_of_ble_eq_true rfl⟩ ⟨rfl, rfl⟩ (by have := hroom; exact ⟨by omega, by omega⟩) ⟨Nat.le_refl _, Nat.le_refl _⟩ rfl rfl (Nat.le_of_ble_eq_true rfl) dL_law__1488 ?_
  refine q_istore (lv' := [(6, .int oM.1), (5, .int r), (0, .ref b), (1, .ref (adX 0)), (2, .ref (adM 0)), (3, .ref q), (4, .int (Int32.ofNat (9 * n)))]) C.1 dL_law__1491 (Nat.le_of_ble_eq_true rfl) rfl ?_
  refine q_aload_n C.1 dL_law__1493 rfl 4 rfl ?_
  refine q_mi (kc' := kc + 2) (ks' := ks + 12) (rest := []) (ro := oM.2 0 0) (go := oM.2) (xo := xM) (As := []) C.1 C.2.1 (cut_tail (a := [oL T q u] ++ wW shX T adX xX oX.2)) (fun sz => cM_thrown l D T adM xM oM.2 _ rfl sz) (TM_kV tb_1301 tb_1302 tb_1303 tb_813 tb_842 (n := 0) (by decide +kernel) BM_in BM_good) ⟨Nat.le_of_ble_eq_true rfl, Nat.le_of_ble_eq_true rfl⟩ ⟨rfl, rfl⟩ (by have := hroom; exact ⟨by omega, by omega⟩) ⟨Nat.le_refl _, Nat.le_refl _⟩ rfl rfl (Nat.le_of_ble_eq_true rfl) dL_law__1494 ?_
  refine q_iload C.1 dL_law__1497 1 rfl ?_
  refine q_icmp_eq C.1 1504 dL_law__1499 (by decide) (fun _ => ?_) (fun c9 => absurd e1 c9)
  refine q_iload C.1 dL_law__1504 1 rfl ?_
  have fin : Kj l D 8 room_1 (kc + 2) (ks + 12) Γ Q (lwV T adX adM q u oX.2 xX oM.2 xM) 1521 [(6, .int oM.1), (5, .int r), (0, .ref b), (1, .ref (adX 0)), (2, .ref (adM 0)), (3, .ref q), (4, .int (Int32.ofNat (9 * n)))] [] := by
    refine q_goto (tgt := 2534) C.1 dL_law__1521 (by decide) ?_
    refine q_sub [2, 3, 4, 5, 6] rfl ?_
    exact q_widen (by omega) (by omega) (K u oX.2 xX oM.2 xM hR2)
  refine q_if_ne C.1 1521 dL_law__1506 (by decide) (fun c9 => ?_) (fun _ => fin)
  have e3 := e2 c9
  refine q_aload_n C.1 dL_law__1509 rfl 5 rfl ?_
  refine q_iconst (v := (0 : Int32)) C.1 dL_law__1510 (by decide) ?_
  refine q_lald C.1 rfl dL_law__1511 ?_
  refine q_iload C.1 dL_law__1512 0 rfl ?_
  refine q_i2l C.1 dL_law__1514 ?_
  refine q_lcmp C.1 dL_law__1515 ?_
  exact q_if_eq C.1 1521 dL_law__1516 (by decide) (fun _ => fin) (fun c8 => absurd (lgc0 e3) c8)
set_option maxRecDepth 100000 in
theorem case_neighbours (C : Cl D T sK sV b L xs Γ) (hl0 : l.stackTraces = false) (hS : Sim_neighbours R) (hn : 9 * n + 9 ≤ L) (hroom : kc + 5 ≤ 601024 ∧ ks + 30 ≤ 7293034) (hR : R gX xX gM xM) (K : ∀ (f2 : Nat → Int64) (gX2 : St) (xX2 : Sl) (gM2 : St) (xM2 : Sl), R gX2 xX2 gM2 xM2 → Kj l D 8 room_1 (kc + 5) (ks + 30) Γ Q (lwV T adX adM q f2 gX2 xX2 gM2 xM2) 2534 (lwLv adX adM b q n) []) : Kj l D 8 room_1 kc ks Γ Q (lwV T adX adM q f gX xX gM xM) 1524 (lwLv adX adM b q n) [] := by
  have hR0 : room_1.cells = 601024 ∧ room_1.slots = 7293034 := ⟨rfl, rfl⟩
  obtain ⟨oX, oM, hx, hm, hR2, hv⟩ := hS gX xX gM xM (xs (9 * n + 1)) (xs (9 * n + 2)) (xs (9 * n + 3)) hR
  refine q_aload_n C.1 dL_law__1524 rfl 1 rfl ?_
  refine q_aload_n C.1 dL_law__1525 rfl 0 rfl ?_
  refine q_iload C.1 dL_law__1526 4 rfl ?_
  refine q_iconst (v := Int32.ofNat 1) C.1 dL_law__1528 (by decide) ?_
  refine q_iadd C.1 dL_law__1529 ?_
  refine q_sld (v := xs (9 * n + 1)) C.1 C.2.2.2.1 C.2.2.2.2.1 C.2.2.2.2.2.1 (argI hn C.2.2.2.2.2.2 1 (by omega)).1 (congrArg xs (argI hn C.2.2.2.2.2.2 1 (by omega)).2) dL_law__1530 ?_
  refine q_aload_n C.1 dL_law__1531 rfl 0 rfl ?_
  refine q_iload C.1 dL_law__1532 4 rfl ?_
  refine q_iconst (v := Int32.ofNat 2) C.1 dL_law__1534 (by decide) ?_
  refine q_iadd C.1 dL_law__1535 ?_
  refine q_sld (v := xs (9 * n + 2)) C.1 C.2.2.2.1 C.2.2.2.2.1 C.2.2.2.2.2.1 (argI hn C.2.2.2.2.2.2 2 (by omega)).1 (congrArg xs (argI hn C.2.2.2.2.2.2 2 (by omega)).2) dL_law__1536 ?_
  refine q_aload_n C.1 dL_law__1537 rfl 0 rfl ?_
  refine q_iload C.1 dL_law__1538 4 rfl ?_
  refine q_iconst (v := Int32.ofNat 3) C.1 dL_law__1540 (by decide) ?_
  refine q_iadd C.1 dL_law__1541 ?_
  refine q_sld (v := xs (9 * n + 3)) C.1 C.2.2.2.1 C.2.2.2.2.1 C.2.2.2.2.2.1 (argI hn C.2.2.2.2.2.2 3 (by omega)).1 (congrArg xs (argI hn C.2.2.2.2.2.2 3 (by omega)).2) dL_law__1542 ?_
  refine q_aload_n C.1 dL_law__1543 rfl 3 rfl ?_
  refine q_w (kc' := kc + 1) (ks' := ks + 6) (rest := []) (As := [.ref (adX 0), .int (xs (9 * n + 1)), .int (xs (9 * n + 2)), .int (xs (9 * n + 3)), .ref q]) C.1 C.2.1 C.2.2.1 cut_head (fun sz => cL_neighbours_w l hl0 D T adX sK sV xX gX q f (xs (9 * n + 1)) (xs (9 * n + 2)) (xs (9 * n + 3)) oX hx (simR_hk hv) sz) (TL_gi tb_1418 tb_1419 tb_1296 tb_1420) ⟨_, rfl⟩ (n := 5) (by decide +kernel) ⟨Nat.le_of_ble_eq_true rfl, Nat.le_of_ble_eq_true rfl⟩ ⟨rfl, rfl⟩ (by have := hroom; exact ⟨by omega, by omega⟩) ⟨Nat.le_refl _, Nat.le_refl _⟩ rfl rfl (Nat.le_of_ble_eq_true rfl) dL_law__1544 (fun r u hu => ?_)
  obtain ⟨e1, e2⟩ := use_I hv hu
  refine q_istore (lv' := [(5, .int r), (0, .ref b), (1, .ref (adX 0)), (2, .ref (adM 0)), (3, .ref q), (4, .int (Int32.ofNat (9 * n)))]) C.1 dL_law__1547 (Nat.le_of_ble_eq_true rfl) rfl ?_
  refine q_aload_n C.1 dL_law__1549 rfl 3 rfl ?_
  refine q_aload_n C.1 dL_law__1550 rfl 1 rfl ?_
  refine q_iload C.1 dL_law__1551 5 rfl ?_
  refine q_iconst (v := Int32.ofNat 1) C.1 dL_law__1553 (by decide) ?_
  refine q_iadd C.1 dL_law__1554 ?_
  refine q_sld (v := xs (9 * n + 1)) C.1 C.2.2.2.1 C.2.2.2.2.1 C.2.2.2.2.2.1 (argI hn C.2.2.2.2.2.2 1 (by omega)).1 (congrArg xs (argI hn C.2.2.2.2.2.2 1 (by omega)).2) dL_law__1555 ?_
  refine q_aload_n C.1 dL_law__1556 rfl 1 rfl ?_
  refine q_iload C.1 dL_law__1557 5 rfl ?_
  refine q_iconst (v := Int32.ofNat 2) C.1 dL_law__1559 (by decide) ?_
  refine q_iadd C.1 dL_law__1560 ?_
  refine q_sld (v := xs (9 * n + 2)) C.1 C.2.2.2.1 C.2.2.2.2.1 C.2.2.2.2.2.1 (argI hn C.2.2.2.2.2.2 2 (by omega)).1 (congrArg xs (argI hn C.2.2.2.2.2.2 2 (by omega)).2) dL_law__1561 ?_
  refine q_aload_n C.1 dL_law__1562 rfl 1 rfl ?_
  refine q_iload C.1 dL_law__1563 5 rfl ?_
  refine q_iconst (v := Int32.ofNat 3) C.1 dL_law__1565 (by decide) ?_
  refine q_iadd C.1 dL_law__1566 ?_
  refine q_sld (v := xs (9 * n + 3)) C.1 C.2.2.2.1 C.2.2.2.2.1 C.2.2.2.2.2.1 (argI hn C.2.2.2.2.2.2 3 (by omega)).1 (congrArg xs (argI hn C.2.2.2.2.2.2 3 (by omega)).2) dL_law__1567 ?_
  refine q_mi (kc' := kc + 1) (ks' := ks + 6) (rest := []) (ro := oM.1) (go := oM.2) (xo := xM) (As := [.int (xs (9 * n + 1)), .int (xs (9 * n + 2)), .int (xs (9 * n + 3))]) C.1 C.2.1 (cut_tail (a := [oL T q u] ++ wW shX T adX xX oX.2)) (fun sz => cM_neighbours l D T adM xM gM (xs (9 * n + 1)) (xs (9 * n + 2)) (xs (9 * n + 3)) oM hm sz) (TM_kV tb_1421 tb_1422 tb_1423 tb_813 tb_1139 (n := 3) (by decide +kernel) BM_in BM_good) ⟨Nat.le_of_ble_eq_true rfl, Nat.le_of_ble_eq_true rfl⟩ ⟨rfl, rfl⟩ (by have := hroom; exact ⟨by omega, by omega⟩) ⟨Nat.le_refl _, Nat.le_refl _⟩ rfl rfl (Nat.le_of_ble_eq_true rfl) dL_law__1568 ?_
  refine q_istore (lv' := [(6, .int oM.1), (5, .int r), (0, .ref b), (1, .ref (adX 0)), (2, .ref (adM 0)), (3, .ref q), (4, .int (Int32.ofNat (9 * n)))]) C.1 dL_law__1571 (Nat.le_of_ble_eq_true rfl) rfl ?_
  refine q_aload_n C.1 dL_law__1573 rfl 4 rfl ?_
  refine q_mi (kc' := kc + 1) (ks' := ks + 6) (rest := []) (ro := oM.2 0 0) (go := oM.2) (xo := xM) (As := []) C.1 C.2.1 (cut_tail (a := [oL T q u] ++ wW shX T adX xX oX.2)) (fun sz => cM_thrown l D T adM xM oM.2 _ rfl sz) (TM_kV tb_1301 tb_1302 tb_1303 tb_813 tb_842 (n := 0) (by decide +kernel) BM_in BM_good) ⟨Nat.le_of_ble_eq_true rfl, Nat.le_of_ble_eq_true rfl⟩ ⟨rfl, rfl⟩ (by have := hroom; exact ⟨by omega, by omega⟩) ⟨Nat.le_refl _, Nat.le_refl _⟩ rfl rfl (Nat.le_of_ble_eq_true rfl) dL_law__1574 ?_
  refine q_iload C.1 dL_law__1577 1 rfl ?_
  refine q_icmp_eq C.1 1584 dL_law__1579 (by decide) (fun _ => ?_) (fun c9 => absurd e1 c9)
  refine q_iload C.1 dL_law__1584 1 rfl ?_
  have fin : Kj l D 8 room_1 (kc + 1) (ks + 6) Γ Q (lwV T adX adM q u oX.2 xX oM.2 xM) 1601 [(6, .int oM.1), (5, .int r), (0, .ref b), (1, .ref (adX 0)), (2, .ref (adM 0)), (3, .ref q), (4, .int (Int32.ofNat (9 * n)))] [] := by
    refine q_goto (tgt := 2534) C.1 dL_law__1601 (by decide) ?_
    refine q_sub [2, 3, 4, 5, 6] rfl ?_
    exact q_widen (by omega) (by omega) (K u oX.2 xX oM.2 xM hR2)
  refine q_if_ne C.1 1601 dL_law__1586 (by decide) (fun c9 => ?_) (fun _ => fin)
  have e3 := e2 c9
  refine q_aload_n C.1 dL_law__1589 rfl 5 rfl ?_
  refine q_iconst (v := (0 : Int32)) C.1 dL_law__1590 (by decide) ?_
  refine q_lald C.1 rfl dL_law__1591 ?_
  refine q_iload C.1 dL_law__1592 0 rfl ?_
  refine q_i2l C.1 dL_law__1594 ?_
  refine q_lcmp C.1 dL_law__1595 ?_
  exact q_if_eq C.1 1601 dL_law__1596 (by decide) (fun _ => fin) (fun c8 => absurd (lgc0 e3) c8)
set_option maxRecDepth 100000 in
theorem case_home (C : Cl D T sK sV b L xs Γ) (hl0 : l.stackTraces = false) (hS : Sim_home R) (hn : 9 * n + 9 ≤ L) (hroom : kc + 5 ≤ 601024 ∧ ks + 30 ≤ 7293034) (hR : R gX xX gM xM) (K : ∀ (f2 : Nat → Int64) (gX2 : St) (xX2 : Sl) (gM2 : St) (xM2 : Sl), R gX2 xX2 gM2 xM2 → Kj l D 8 room_1 (kc + 5) (ks + 30) Γ Q (lwV T adX adM q f2 gX2 xX2 gM2 xM2) 2534 (lwLv adX adM b q n) []) : Kj l D 8 room_1 kc ks Γ Q (lwV T adX adM q f gX xX gM xM) 1604 (lwLv adX adM b q n) [] := by
  have hR0 : room_1.cells = 601024 ∧ room_1.slots = 7293034 := ⟨rfl, rfl⟩
  obtain ⟨oX, oM, hx, hm, hR2, hv⟩ := hS gX xX gM xM (xs (9 * n + 1)) (xs (9 * n + 2)) (xs (9 * n + 3)) (xs (9 * n + 4)) hR
  refine q_aload_n C.1 dL_law__1604 rfl 1 rfl ?_
  refine q_aload_n C.1 dL_law__1605 rfl 0 rfl ?_
  refine q_iload C.1 dL_law__1606 4 rfl ?_
  refine q_iconst (v := Int32.ofNat 1) C.1 dL_law__1608 (by decide) ?_
  refine q_iadd C.1 dL_law__1609 ?_
  refine q_sld (v := xs (9 * n + 1)) C.1 C.2.2.2.1 C.2.2.2.2.1 C.2.2.2.2.2.1 (argI hn C.2.2.2.2.2.2 1 (by omega)).1 (congrArg xs (argI hn C.2.2.2.2.2.2 1 (by omega)).2) dL_law__1610 ?_
  refine q_aload_n C.1 dL_law__1611 rfl 0 rfl ?_
  refine q_iload C.1 dL_law__1612 4 rfl ?_
  refine q_iconst (v := Int32.ofNat 2) C.1 dL_law__1614 (by decide) ?_
  refine q_iadd C.1 dL_law__1615 ?_
  refine q_sld (v := xs (9 * n + 2)) C.1 C.2.2.2.1 C.2.2.2.2.1 C.2.2.2.2.2.1 (argI hn C.2.2.2.2.2.2 2 (by omega)).1 (congrArg xs (argI hn C.2.2.2.2.2.2 2 (by omega)).2) dL_law__1616 ?_
  refine q_aload_n C.1 dL_law__1617 rfl 0 rfl ?_
  refine q_iload C.1 dL_law__1618 4 rfl ?_
  refine q_iconst (v := Int32.ofNat 3) C.1 dL_law__1620 (by decide) ?_
  refine q_iadd C.1 dL_law__1621 ?_
  refine q_sld (v := xs (9 * n + 3)) C.1 C.2.2.2.1 C.2.2.2.2.1 C.2.2.2.2.2.1 (argI hn C.2.2.2.2.2.2 3 (by omega)).1 (congrArg xs (argI hn C.2.2.2.2.2.2 3 (by omega)).2) dL_law__1622 ?_
  refine q_aload_n C.1 dL_law__1623 rfl 0 rfl ?_
  refine q_iload C.1 dL_law__1624 4 rfl ?_
  refine q_iconst (v := Int32.ofNat 4) C.1 dL_law__1626 (by decide) ?_
  refine q_iadd C.1 dL_law__1627 ?_
  refine q_sld (v := xs (9 * n + 4)) C.1 C.2.2.2.1 C.2.2.2.2.1 C.2.2.2.2.2.1 (argI hn C.2.2.2.2.2.2 4 (by omega)).1 (congrArg xs (argI hn C.2.2.2.2.2.2 4 (by omega)).2) dL_law__1628 ?_
  refine q_aload_n C.1 dL_law__1629 rfl 3 rfl ?_
  refine q_w (kc' := kc + 2) (ks' := ks + 12) (rest := []) (As := [.ref (adX 0), .int (xs (9 * n + 1)), .int (xs (9 * n + 2)), .int (xs (9 * n + 3)), .int (xs (9 * n + 4)), .ref q]) C.1 C.2.1 C.2.2.1 cut_head (fun sz => cL_home_w l hl0 D T adX sK sV xX gX q f (xs (9 * n + 1)) (xs (9 * n + 2)) (xs (9 * n + 3)) (xs (9 * n + 4)) oX hx (simR_hk hv) sz) (TL_gi tb_1424 tb_1425 tb_1296 tb_1426) ⟨_, rfl⟩ (n := 6) (by decide +kernel) ⟨Nat.le_of_ble_eq_true rfl, Nat.le_of_ble_eq_true rfl⟩ ⟨rfl, rfl⟩ (by have := hroom; exact ⟨by omega, by omega⟩) ⟨Nat.le_refl _, Nat.le_refl _⟩ rfl rfl (Nat.le_of_ble_eq_true rfl) dL_law__1630 (fun r u hu => ?_)
  obtain ⟨e1, e2⟩ := use_L hv hu
  refine q_istore (lv' := [(5, .int r), (0, .ref b), (1, .ref (adX 0)), (2, .ref (adM 0)), (3, .ref q), (4, .int (Int32.ofNat (9 * n)))]) C.1 dL_law__1633 (Nat.le_of_ble_eq_true rfl) rfl ?_
  refine q_aload_n C.1 dL_law__1635 rfl 3 rfl ?_
  refine q_aload_n C.1 dL_law__1636 rfl 1 rfl ?_
  refine q_iload C.1 dL_law__1637 5 rfl ?_
  refine q_iconst (v := Int32.ofNat 1) C.1 dL_law__1639 (by decide) ?_
  refine q_iadd C.1 dL_law__1640 ?_
  refine q_sld (v := xs (9 * n + 1)) C.1 C.2.2.2.1 C.2.2.2.2.1 C.2.2.2.2.2.1 (argI hn C.2.2.2.2.2.2 1 (by omega)).1 (congrArg xs (argI hn C.2.2.2.2.2.2 1 (by omega)).2) dL_law__1641 ?_
  refine q_aload_n C.1 dL_law__1642 rfl 1 rfl ?_
  refine q_iload C.1 dL_law__1643 5 rfl ?_
  refine q_iconst (v := Int32.ofNat 2) C.1 dL_law__1645 (by decide) ?_
  refine q_iadd C.1 dL_law__1646 ?_
  refine q_sld (v := xs (9 * n + 2)) C.1 C.2.2.2.1 C.2.2.2.2.1 C.2.2.2.2.2.1 (argI hn C.2.2.2.2.2.2 2 (by omega)).1 (congrArg xs (argI hn C.2.2.2.2.2.2 2 (by omega)).2) dL_law__1647 ?_
  refine q_aload_n C.1 dL_law__1648 rfl 1 rfl ?_
  refine q_iload C.1 dL_law__1649 5 rfl ?_
  refine q_iconst (v := Int32.ofNat 3) C.1 dL_law__1651 (by decide) ?_
  refine q_iadd C.1 dL_law__1652 ?_
  refine q_sld (v := xs (9 * n + 3)) C.1 C.2.2.2.1 C.2.2.2.2.1 C.2.2.2.2.2.1 (argI hn C.2.2.2.2.2.2 3 (by omega)).1 (congrArg xs (argI hn C.2.2.2.2.2.2 3 (by omega)).2) dL_law__1653 ?_
  refine q_aload_n C.1 dL_law__1654 rfl 1 rfl ?_
  refine q_iload C.1 dL_law__1655 5 rfl ?_
  refine q_iconst (v := Int32.ofNat 4) C.1 dL_law__1657 (by decide) ?_
  refine q_iadd C.1 dL_law__1658 ?_
  refine q_sld (v := xs (9 * n + 4)) C.1 C.2.2.2.1 C.2.2.2.2.1 C.2.2.2.2.2.1 (argI hn C.2.2.2.2.2.2 4 (by omega)).1 (congrArg xs (argI hn C.2.2.2.2.2.2 4 (by omega)).2) dL_law__1659 ?_
  refine q_ml (kc' := kc + 2) (ks' := ks + 12) (rest := []) (ro := oM.1) (go := oM.2.1) (xo := oM.2.2) (As := [.int (xs (9 * n + 1)), .int (xs (9 * n + 2)), .int (xs (9 * n + 3)), .int (xs (9 * n + 4))]) C.1 C.2.1 (cut_tail (a := [oL T q u] ++ wW shX T adX oX.2.2 oX.2.1)) (fun sz => cM_home l D T adM xM gM (xs (9 * n + 1)) (xs (9 * n + 2)) (xs (9 * n + 3)) (xs (9 * n + 4)) oM hm sz) (TM_kV tb_1427 tb_1428 tb_1429 tb_813 tb_1142 (n := 4) (by decide +kernel) BM_in BM_good) ⟨Nat.le_of_ble_eq_true rfl, Nat.le_of_ble_eq_true rfl⟩ ⟨rfl, rfl⟩ (by have := hroom; exact ⟨by omega, by omega⟩) ⟨Nat.le_refl _, Nat.le_refl _⟩ rfl rfl (Nat.le_of_ble_eq_true rfl) dL_law__1660 ?_
  refine q_lstore (lv' := [(6, .long oM.1), (5, .int r), (0, .ref b), (1, .ref (adX 0)), (2, .ref (adM 0)), (3, .ref q), (4, .int (Int32.ofNat (9 * n)))]) C.1 dL_law__1663 (Nat.le_of_ble_eq_true rfl) rfl ?_
  refine q_aload_n C.1 dL_law__1665 rfl 4 rfl ?_
  refine q_mi (kc' := kc + 2) (ks' := ks + 12) (rest := []) (ro := oM.2.1 0 0) (go := oM.2.1) (xo := oM.2.2) (As := []) C.1 C.2.1 (cut_tail (a := [oL T q u] ++ wW shX T adX oX.2.2 oX.2.1)) (fun sz => cM_thrown l D T adM oM.2.2 oM.2.1 _ rfl sz) (TM_kV tb_1301 tb_1302 tb_1303 tb_813 tb_842 (n := 0) (by decide +kernel) BM_in BM_good) ⟨Nat.le_of_ble_eq_true rfl, Nat.le_of_ble_eq_true rfl⟩ ⟨rfl, rfl⟩ (by have := hroom; exact ⟨by omega, by omega⟩) ⟨Nat.le_refl _, Nat.le_refl _⟩ rfl rfl (Nat.le_of_ble_eq_true rfl) dL_law__1666 ?_
  refine q_iload C.1 dL_law__1669 1 rfl ?_
  refine q_icmp_eq C.1 1676 dL_law__1671 (by decide) (fun _ => ?_) (fun c9 => absurd e1 c9)
  refine q_iload C.1 dL_law__1676 1 rfl ?_
  have fin : Kj l D 8 room_1 (kc + 2) (ks + 12) Γ Q (lwV T adX adM q u oX.2.1 oX.2.2 oM.2.1 oM.2.2) 1692 [(6, .long oM.1), (5, .int r), (0, .ref b), (1, .ref (adX 0)), (2, .ref (adM 0)), (3, .ref q), (4, .int (Int32.ofNat (9 * n)))] [] := by
    refine q_goto (tgt := 2534) C.1 dL_law__1692 (by decide) ?_
    refine q_sub [2, 3, 4, 5, 6] rfl ?_
    exact q_widen (by omega) (by omega) (K u oX.2.1 oX.2.2 oM.2.1 oM.2.2 hR2)
  refine q_if_ne C.1 1692 dL_law__1678 (by decide) (fun c9 => ?_) (fun _ => fin)
  have e3 := e2 c9
  refine q_aload_n C.1 dL_law__1681 rfl 5 rfl ?_
  refine q_iconst (v := (0 : Int32)) C.1 dL_law__1682 (by decide) ?_
  refine q_lald C.1 rfl dL_law__1683 ?_
  refine q_lload C.1 dL_law__1684 0 rfl ?_
  refine q_lcmp C.1 dL_law__1686 ?_
  exact q_if_eq C.1 1692 dL_law__1687 (by decide) (fun _ => fin) (fun c8 => absurd (lgc0 e3) c8)
set_option maxRecDepth 100000 in
theorem case_flowers (C : Cl D T sK sV b L xs Γ) (hl0 : l.stackTraces = false) (hS : Sim_flowers R) (hn : 9 * n + 9 ≤ L) (hroom : kc + 5 ≤ 601024 ∧ ks + 30 ≤ 7293034) (hR : R gX xX gM xM) (K : ∀ (f2 : Nat → Int64) (gX2 : St) (xX2 : Sl) (gM2 : St) (xM2 : Sl), R gX2 xX2 gM2 xM2 → Kj l D 8 room_1 (kc + 5) (ks + 30) Γ Q (lwV T adX adM q f2 gX2 xX2 gM2 xM2) 2534 (lwLv adX adM b q n) []) : Kj l D 8 room_1 kc ks Γ Q (lwV T adX adM q f gX xX gM xM) 1695 (lwLv adX adM b q n) [] := by
  have hR0 : room_1.cells = 601024 ∧ room_1.slots = 7293034 := ⟨rfl, rfl⟩
  obtain ⟨oX, oM, hx, hm, hR2, hv⟩ := hS gX xX gM xM (xs (9 * n + 1)) (xs (9 * n + 2)) (xs (9 * n + 3)) hR
  refine q_aload_n C.1 dL_law__1695 rfl 1 rfl ?_
  refine q_aload_n C.1 dL_law__1696 rfl 0 rfl ?_
  refine q_iload C.1 dL_law__1697 4 rfl ?_
  refine q_iconst (v := Int32.ofNat 1) C.1 dL_law__1699 (by decide) ?_
  refine q_iadd C.1 dL_law__1700 ?_
  refine q_sld (v := xs (9 * n + 1)) C.1 C.2.2.2.1 C.2.2.2.2.1 C.2.2.2.2.2.1 (argI hn C.2.2.2.2.2.2 1 (by omega)).1 (congrArg xs (argI hn C.2.2.2.2.2.2 1 (by omega)).2) dL_law__1701 ?_
  refine q_aload_n C.1 dL_law__1702 rfl 0 rfl ?_
  refine q_iload C.1 dL_law__1703 4 rfl ?_
  refine q_iconst (v := Int32.ofNat 2) C.1 dL_law__1705 (by decide) ?_
  refine q_iadd C.1 dL_law__1706 ?_
  refine q_sld (v := xs (9 * n + 2)) C.1 C.2.2.2.1 C.2.2.2.2.1 C.2.2.2.2.2.1 (argI hn C.2.2.2.2.2.2 2 (by omega)).1 (congrArg xs (argI hn C.2.2.2.2.2.2 2 (by omega)).2) dL_law__1707 ?_
  refine q_aload_n C.1 dL_law__1708 rfl 0 rfl ?_
  refine q_iload C.1 dL_law__1709 4 rfl ?_
  refine q_iconst (v := Int32.ofNat 3) C.1 dL_law__1711 (by decide) ?_
  refine q_iadd C.1 dL_law__1712 ?_
  refine q_sld (v := xs (9 * n + 3)) C.1 C.2.2.2.1 C.2.2.2.2.1 C.2.2.2.2.2.1 (argI hn C.2.2.2.2.2.2 3 (by omega)).1 (congrArg xs (argI hn C.2.2.2.2.2.2 3 (by omega)).2) dL_law__1713 ?_
  refine q_aload_n C.1 dL_law__1714 rfl 3 rfl ?_
  refine q_w (kc' := kc + 2) (ks' := ks + 12) (rest := []) (As := [.ref (adX 0), .int (xs (9 * n + 1)), .int (xs (9 * n + 2)), .int (xs (9 * n + 3)), .ref q]) C.1 C.2.1 C.2.2.1 cut_head (fun sz => cL_flowers_w l hl0 D T adX sK sV xX gX q f (xs (9 * n + 1)) (xs (9 * n + 2)) (xs (9 * n + 3)) oX hx (simR_hk hv) sz) (TL_gi tb_1430 tb_1431 tb_1296 tb_1432) ⟨_, rfl⟩ (n := 5) (by decide +kernel) ⟨Nat.le_of_ble_eq_true rfl, Nat.le_of_ble_eq_true rfl⟩ ⟨rfl, rfl⟩ (by have := hroom; exact ⟨by omega, by omega⟩) ⟨Nat.le_refl _, Nat.le_refl _⟩ rfl rfl (Nat.le_of_ble_eq_true rfl) dL_law__1715 (fun r u hu => ?_)
  obtain ⟨e1, e2⟩ := use_I hv hu
  refine q_istore (lv' := [(5, .int r), (0, .ref b), (1, .ref (adX 0)), (2, .ref (adM 0)), (3, .ref q), (4, .int (Int32.ofNat (9 * n)))]) C.1 dL_law__1718 (Nat.le_of_ble_eq_true rfl) rfl ?_
  refine q_aload_n C.1 dL_law__1720 rfl 3 rfl ?_
  refine q_aload_n C.1 dL_law__1721 rfl 1 rfl ?_
  refine q_iload C.1 dL_law__1722 5 rfl ?_
  refine q_iconst (v := Int32.ofNat 1) C.1 dL_law__1724 (by decide) ?_
  refine q_iadd C.1 dL_law__1725 ?_
  refine q_sld (v := xs (9 * n + 1)) C.1 C.2.2.2.1 C.2.2.2.2.1 C.2.2.2.2.2.1 (argI hn C.2.2.2.2.2.2 1 (by omega)).1 (congrArg xs (argI hn C.2.2.2.2.2.2 1 (by omega)).2) dL_law__1726 ?_
  refine q_aload_n C.1 dL_law__1727 rfl 1 rfl ?_
  refine q_iload C.1 dL_law__1728 5 rfl ?_
  refine q_iconst (v := Int32.ofNat 2) C.1 dL_law__1730 (by decide) ?_
  refine q_iadd C.1 dL_law__1731 ?_
  refine q_sld (v := xs (9 * n + 2)) C.1 C.2.2.2.1 C.2.2.2.2.1 C.2.2.2.2.2.1 (argI hn C.2.2.2.2.2.2 2 (by omega)).1 (congrArg xs (argI hn C.2.2.2.2.2.2 2 (by omega)).2) dL_law__1732 ?_
  refine q_aload_n C.1 dL_law__1733 rfl 1 rfl ?_
  refine q_iload C.1 dL_law__1734 5 rfl ?_
  refine q_iconst (v := Int32.ofNat 3) C.1 dL_law__1736 (by decide) ?_
  refine q_iadd C.1 dL_law__1737 ?_
  refine q_sld (v := xs (9 * n + 3)) C.1 C.2.2.2.1 C.2.2.2.2.1 C.2.2.2.2.2.1 (argI hn C.2.2.2.2.2.2 3 (by omega)).1 (congrArg xs (argI hn C.2.2.2.2.2.2 3 (by omega)).2) dL_law__1738 ?_
  refine q_mi (kc' := kc + 2) (ks' := ks + 12) (rest := []) (ro := oM.1) (go := oM.2) (xo := xM) (As := [.int (xs (9 * n + 1)), .int (xs (9 * n + 2)), .int (xs (9 * n + 3))]) C.1 C.2.1 (cut_tail (a := [oL T q u] ++ wW shX T adX xX oX.2)) (fun sz => cM_flowers l D T adM xM gM (xs (9 * n + 1)) (xs (9 * n + 2)) (xs (9 * n + 3)) oM hm sz) (TM_kV tb_1433 tb_1434 tb_1435 tb_813 tb_1147 (n := 3) (by decide +kernel) BM_in BM_good) ⟨Nat.le_of_ble_eq_true rfl, Nat.le_of_ble_eq_true rfl⟩ ⟨rfl, rfl⟩ (by have := hroom; exact ⟨by omega, by omega⟩) ⟨Nat.le_refl _, Nat.le_refl _⟩ rfl rfl (Nat.le_of_ble_eq_true rfl) dL_law__1739 ?_
  refine q_istore (lv' := [(6, .int oM.1), (5, .int r), (0, .ref b), (1, .ref (adX 0)), (2, .ref (adM 0)), (3, .ref q), (4, .int (Int32.ofNat (9 * n)))]) C.1 dL_law__1742 (Nat.le_of_ble_eq_true rfl) rfl ?_
  refine q_aload_n C.1 dL_law__1744 rfl 4 rfl ?_
  refine q_mi (kc' := kc + 2) (ks' := ks + 12) (rest := []) (ro := oM.2 0 0) (go := oM.2) (xo := xM) (As := []) C.1 C.2.1 (cut_tail (a := [oL T q u] ++ wW shX T adX xX oX.2)) (fun sz => cM_thrown l D T adM xM oM.2 _ rfl sz) (TM_kV tb_1301 tb_1302 tb_1303 tb_813 tb_842 (n := 0) (by decide +kernel) BM_in BM_good) ⟨Nat.le_of_ble_eq_true rfl, Nat.le_of_ble_eq_true rfl⟩ ⟨rfl, rfl⟩ (by have := hroom; exact ⟨by omega, by omega⟩) ⟨Nat.le_refl _, Nat.le_refl _⟩ rfl rfl (Nat.le_of_ble_eq_true rfl) dL_law__1745 ?_
  refine q_iload C.1 dL_law__1748 1 rfl ?_
  refine q_icmp_eq C.1 1755 dL_law__1750 (by decide) (fun _ => ?_) (fun c9 => absurd e1 c9)
  refine q_iload C.1 dL_law__1755 1 rfl ?_
  have fin : Kj l D 8 room_1 (kc + 2) (ks + 12) Γ Q (lwV T adX adM q u oX.2 xX oM.2 xM) 1772 [(6, .int oM.1), (5, .int r), (0, .ref b), (1, .ref (adX 0)), (2, .ref (adM 0)), (3, .ref q), (4, .int (Int32.ofNat (9 * n)))] [] := by
    refine q_goto (tgt := 2534) C.1 dL_law__1772 (by decide) ?_
    refine q_sub [2, 3, 4, 5, 6] rfl ?_
    exact q_widen (by omega) (by omega) (K u oX.2 xX oM.2 xM hR2)
  refine q_if_ne C.1 1772 dL_law__1757 (by decide) (fun c9 => ?_) (fun _ => fin)
  have e3 := e2 c9
  refine q_aload_n C.1 dL_law__1760 rfl 5 rfl ?_
  refine q_iconst (v := (0 : Int32)) C.1 dL_law__1761 (by decide) ?_
  refine q_lald C.1 rfl dL_law__1762 ?_
  refine q_iload C.1 dL_law__1763 0 rfl ?_
  refine q_i2l C.1 dL_law__1765 ?_
  refine q_lcmp C.1 dL_law__1766 ?_
  exact q_if_eq C.1 1772 dL_law__1767 (by decide) (fun _ => fin) (fun c8 => absurd (lgc0 e3) c8)
set_option maxRecDepth 100000 in
theorem case_honoured (C : Cl D T sK sV b L xs Γ) (hl0 : l.stackTraces = false) (hS : Sim_honoured R) (hn : 9 * n + 9 ≤ L) (hroom : kc + 5 ≤ 601024 ∧ ks + 30 ≤ 7293034) (hR : R gX xX gM xM) (K : ∀ (f2 : Nat → Int64) (gX2 : St) (xX2 : Sl) (gM2 : St) (xM2 : Sl), R gX2 xX2 gM2 xM2 → Kj l D 8 room_1 (kc + 5) (ks + 30) Γ Q (lwV T adX adM q f2 gX2 xX2 gM2 xM2) 2534 (lwLv adX adM b q n) []) : Kj l D 8 room_1 kc ks Γ Q (lwV T adX adM q f gX xX gM xM) 1775 (lwLv adX adM b q n) [] := by
  have hR0 : room_1.cells = 601024 ∧ room_1.slots = 7293034 := ⟨rfl, rfl⟩
  obtain ⟨oX, oM, hx, hm, hR2, hv⟩ := hS gX xX gM xM (xs (9 * n + 1)) hR
  refine q_aload_n C.1 dL_law__1775 rfl 1 rfl ?_
  refine q_aload_n C.1 dL_law__1776 rfl 0 rfl ?_
  refine q_iload C.1 dL_law__1777 4 rfl ?_
  refine q_iconst (v := Int32.ofNat 1) C.1 dL_law__1779 (by decide) ?_
  refine q_iadd C.1 dL_law__1780 ?_
  refine q_sld (v := xs (9 * n + 1)) C.1 C.2.2.2.1 C.2.2.2.2.1 C.2.2.2.2.2.1 (argI hn C.2.2.2.2.2.2 1 (by omega)).1 (congrArg xs (argI hn C.2.2.2.2.2.2 1 (by omega)).2) dL_law__1781 ?_
  refine q_aload_n C.1 dL_law__1782 rfl 3 rfl ?_
  refine q_w (kc' := kc + 1) (ks' := ks + 6) (rest := []) (As := [.ref (adX 0), .int (xs (9 * n + 1)), .ref q]) C.1 C.2.1 C.2.2.1 cut_head (fun sz => cL_honoured_w l hl0 D T adX sK sV xX gX q f (xs (9 * n + 1)) oX hx (simR_hk hv) sz) (TL_gi tb_1436 tb_1437 tb_1296 tb_1438) ⟨_, rfl⟩ (n := 3) (by decide +kernel) ⟨Nat.le_of_ble_eq_true rfl, Nat.le_of_ble_eq_true rfl⟩ ⟨rfl, rfl⟩ (by have := hroom; exact ⟨by omega, by omega⟩) ⟨Nat.le_refl _, Nat.le_refl _⟩ rfl rfl (Nat.le_of_ble_eq_true rfl) dL_law__1783 (fun r u hu => ?_)
  obtain ⟨e1, e2⟩ := use_I hv hu
  refine q_istore (lv' := [(5, .int r), (0, .ref b), (1, .ref (adX 0)), (2, .ref (adM 0)), (3, .ref q), (4, .int (Int32.ofNat (9 * n)))]) C.1 dL_law__1786 (Nat.le_of_ble_eq_true rfl) rfl ?_
  refine q_aload_n C.1 dL_law__1788 rfl 3 rfl ?_
  refine q_aload_n C.1 dL_law__1789 rfl 1 rfl ?_
  refine q_iload C.1 dL_law__1790 5 rfl ?_
  refine q_iconst (v := Int32.ofNat 1) C.1 dL_law__1792 (by decide) ?_
  refine q_iadd C.1 dL_law__1793 ?_
  refine q_sld (v := xs (9 * n + 1)) C.1 C.2.2.2.1 C.2.2.2.2.1 C.2.2.2.2.2.1 (argI hn C.2.2.2.2.2.2 1 (by omega)).1 (congrArg xs (argI hn C.2.2.2.2.2.2 1 (by omega)).2) dL_law__1794 ?_
  refine q_mi (kc' := kc + 1) (ks' := ks + 6) (rest := []) (ro := oM.1) (go := oM.2) (xo := xM) (As := [.int (xs (9 * n + 1))]) C.1 C.2.1 (cut_tail (a := [oL T q u] ++ wW shX T adX xX oX.2)) (fun sz => cM_honoured l D T adM xM gM (xs (9 * n + 1)) oM hm sz) (TM_kV tb_1439 tb_1440 tb_1441 tb_813 tb_1148 (n := 1) (by decide +kernel) BM_in BM_good) ⟨Nat.le_of_ble_eq_true rfl, Nat.le_of_ble_eq_true rfl⟩ ⟨rfl, rfl⟩ (by have := hroom; exact ⟨by omega, by omega⟩) ⟨Nat.le_refl _, Nat.le_refl _⟩ rfl rfl (Nat.le_of_ble_eq_true rfl) dL_law__1795 ?_
  refine q_istore (lv' := [(6, .int oM.1), (5, .int r), (0, .ref b), (1, .ref (adX 0)), (2, .ref (adM 0)), (3, .ref q), (4, .int (Int32.ofNat (9 * n)))]) C.1 dL_law__1798 (Nat.le_of_ble_eq_true rfl) rfl ?_
  refine q_aload_n C.1 dL_law__1800 rfl 4 rfl ?_
  refine q_mi (kc' := kc + 1) (ks' := ks + 6) (rest := []) (ro := oM.2 0 0) (go := oM.2) (xo := xM) (As := []) C.1 C.2.1 (cut_tail (a := [oL T q u] ++ wW shX T adX xX oX.2)) (fun sz => cM_thrown l D T adM xM oM.2 _ rfl sz) (TM_kV tb_1301 tb_1302 tb_1303 tb_813 tb_842 (n := 0) (by decide +kernel) BM_in BM_good) ⟨Nat.le_of_ble_eq_true rfl, Nat.le_of_ble_eq_true rfl⟩ ⟨rfl, rfl⟩ (by have := hroom; exact ⟨by omega, by omega⟩) ⟨Nat.le_refl _, Nat.le_refl _⟩ rfl rfl (Nat.le_of_ble_eq_true rfl) dL_law__1801 ?_
  refine q_iload C.1 dL_law__1804 1 rfl ?_
  refine q_icmp_eq C.1 1811 dL_law__1806 (by decide) (fun _ => ?_) (fun c9 => absurd e1 c9)
  refine q_iload C.1 dL_law__1811 1 rfl ?_
  have fin : Kj l D 8 room_1 (kc + 1) (ks + 6) Γ Q (lwV T adX adM q u oX.2 xX oM.2 xM) 1828 [(6, .int oM.1), (5, .int r), (0, .ref b), (1, .ref (adX 0)), (2, .ref (adM 0)), (3, .ref q), (4, .int (Int32.ofNat (9 * n)))] [] := by
    refine q_goto (tgt := 2534) C.1 dL_law__1828 (by decide) ?_
    refine q_sub [2, 3, 4, 5, 6] rfl ?_
    exact q_widen (by omega) (by omega) (K u oX.2 xX oM.2 xM hR2)
  refine q_if_ne C.1 1828 dL_law__1813 (by decide) (fun c9 => ?_) (fun _ => fin)
  have e3 := e2 c9
  refine q_aload_n C.1 dL_law__1816 rfl 5 rfl ?_
  refine q_iconst (v := (0 : Int32)) C.1 dL_law__1817 (by decide) ?_
  refine q_lald C.1 rfl dL_law__1818 ?_
  refine q_iload C.1 dL_law__1819 0 rfl ?_
  refine q_i2l C.1 dL_law__1821 ?_
  refine q_lcmp C.1 dL_law__1822 ?_
  exact q_if_eq C.1 1828 dL_law__1823 (by decide) (fun _ => fin) (fun c8 => absurd (lgc0 e3) c8)
set_option maxRecDepth 100000 in
theorem case_sued (C : Cl D T sK sV b L xs Γ) (hl0 : l.stackTraces = false) (hS : Sim_sued R) (hn : 9 * n + 9 ≤ L) (hroom : kc + 5 ≤ 601024 ∧ ks + 30 ≤ 7293034) (hR : R gX xX gM xM) (K : ∀ (f2 : Nat → Int64) (gX2 : St) (xX2 : Sl) (gM2 : St) (xM2 : Sl), R gX2 xX2 gM2 xM2 → Kj l D 8 room_1 (kc + 5) (ks + 30) Γ Q (lwV T adX adM q f2 gX2 xX2 gM2 xM2) 2534 (lwLv adX adM b q n) []) : Kj l D 8 room_1 kc ks Γ Q (lwV T adX adM q f gX xX gM xM) 1831 (lwLv adX adM b q n) [] := by
  have hR0 : room_1.cells = 601024 ∧ room_1.slots = 7293034 := ⟨rfl, rfl⟩
  obtain ⟨oX, oM, hx, hm, hR2, hv⟩ := hS gX xX gM xM (xs (9 * n + 1)) hR
  refine q_aload_n C.1 dL_law__1831 rfl 1 rfl ?_
  refine q_aload_n C.1 dL_law__1832 rfl 0 rfl ?_
  refine q_iload C.1 dL_law__1833 4 rfl ?_
  refine q_iconst (v := Int32.ofNat 1) C.1 dL_law__1835 (by decide) ?_
  refine q_iadd C.1 dL_law__1836 ?_
  refine q_sld (v := xs (9 * n + 1)) C.1 C.2.2.2.1 C.2.2.2.2.1 C.2.2.2.2.2.1 (argI hn C.2.2.2.2.2.2 1 (by omega)).1 (congrArg xs (argI hn C.2.2.2.2.2.2 1 (by omega)).2) dL_law__1837 ?_
  refine q_aload_n C.1 dL_law__1838 rfl 3 rfl ?_
  refine q_w (kc' := kc + 1) (ks' := ks + 6) (rest := []) (As := [.ref (adX 0), .int (xs (9 * n + 1)), .ref q]) C.1 C.2.1 C.2.2.1 cut_head (fun sz => cL_sued_w l hl0 D T adX sK sV xX gX q f (xs (9 * n + 1)) oX hx (simR_hk hv) sz) (TL_gi tb_1442 tb_1443 tb_1296 tb_1444) ⟨_, rfl⟩ (n := 3) (by decide +kernel) ⟨Nat.le_of_ble_eq_true rfl, Nat.le_of_ble_eq_true rfl⟩ ⟨rfl, rfl⟩ (by have := hroom; exact ⟨by omega, by omega⟩) ⟨Nat.le_refl _, Nat.le_refl _⟩ rfl rfl (Nat.le_of_ble_eq_true rfl) dL_law__1839 (fun r u hu => ?_)
  obtain ⟨e1, e2⟩ := use_I hv hu
  refine q_istore (lv' := [(5, .int r), (0, .ref b), (1, .ref (adX 0)), (2, .ref (adM 0)), (3, .ref q), (4, .int (Int32.ofNat (9 * n)))]) C.1 dL_law__1842 (Nat.le_of_ble_eq_true rfl) rfl ?_
  refine q_aload_n C.1 dL_law__1844 rfl 3 rfl ?_
  refine q_aload_n C.1 dL_law__1845 rfl 1 rfl ?_
  refine q_iload C.1 dL_law__1846 5 rfl ?_
  refine q_iconst (v := Int32.ofNat 1) C.1 dL_law__1848 (by decide) ?_
  refine q_iadd C.1 dL_law__1849 ?_
  refine q_sld (v := xs (9 * n + 1)) C.1 C.2.2.2.1 C.2.2.2.2.1 C.2.2.2.2.2.1 (argI hn C.2.2.2.2.2.2 1 (by omega)).1 (congrArg xs (argI hn C.2.2.2.2.2.2 1 (by omega)).2) dL_law__1850 ?_
  refine q_mi (kc' := kc + 1) (ks' := ks + 6) (rest := []) (ro := oM.1) (go := oM.2) (xo := xM) (As := [.int (xs (9 * n + 1))]) C.1 C.2.1 (cut_tail (a := [oL T q u] ++ wW shX T adX xX oX.2)) (fun sz => cM_sued l D T adM xM gM (xs (9 * n + 1)) oM hm sz) (TM_kV tb_1445 tb_1446 tb_1447 tb_813 tb_1149 (n := 1) (by decide +kernel) BM_in BM_good) ⟨Nat.le_of_ble_eq_true rfl, Nat.le_of_ble_eq_true rfl⟩ ⟨rfl, rfl⟩ (by have := hroom; exact ⟨by omega, by omega⟩) ⟨Nat.le_refl _, Nat.le_refl _⟩ rfl rfl (Nat.le_of_ble_eq_true rfl) dL_law__1851 ?_
  refine q_istore (lv' := [(6, .int oM.1), (5, .int r), (0, .ref b), (1, .ref (adX 0)), (2, .ref (adM 0)), (3, .ref q), (4, .int (Int32.ofNat (9 * n)))]) C.1 dL_law__1854 (Nat.le_of_ble_eq_true rfl) rfl ?_
  refine q_aload_n C.1 dL_law__1856 rfl 4 rfl ?_
  refine q_mi (kc' := kc + 1) (ks' := ks + 6) (rest := []) (ro := oM.2 0 0) (go := oM.2) (xo := xM) (As := []) C.1 C.2.1 (cut_tail (a := [oL T q u] ++ wW shX T adX xX oX.2)) (fun sz => cM_thrown l D T adM xM oM.2 _ rfl sz) (TM_kV tb_1301 tb_1302 tb_1303 tb_813 tb_842 (n := 0) (by decide +kernel) BM_in BM_good) ⟨Nat.le_of_ble_eq_true rfl, Nat.le_of_ble_eq_true rfl⟩ ⟨rfl, rfl⟩ (by have := hroom; exact ⟨by omega, by omega⟩) ⟨Nat.le_refl _, Nat.le_refl _⟩ rfl rfl (Nat.le_of_ble_eq_true rfl) dL_law__1857 ?_
  refine q_iload C.1 dL_law__1860 1 rfl ?_
  refine q_icmp_eq C.1 1867 dL_law__1862 (by decide) (fun _ => ?_) (fun c9 => absurd e1 c9)
  refine q_iload C.1 dL_law__1867 1 rfl ?_
  have fin : Kj l D 8 room_1 (kc + 1) (ks + 6) Γ Q (lwV T adX adM q u oX.2 xX oM.2 xM) 1884 [(6, .int oM.1), (5, .int r), (0, .ref b), (1, .ref (adX 0)), (2, .ref (adM 0)), (3, .ref q), (4, .int (Int32.ofNat (9 * n)))] [] := by
    refine q_goto (tgt := 2534) C.1 dL_law__1884 (by decide) ?_
    refine q_sub [2, 3, 4, 5, 6] rfl ?_
    exact q_widen (by omega) (by omega) (K u oX.2 xX oM.2 xM hR2)
  refine q_if_ne C.1 1884 dL_law__1869 (by decide) (fun c9 => ?_) (fun _ => fin)
  have e3 := e2 c9
  refine q_aload_n C.1 dL_law__1872 rfl 5 rfl ?_
  refine q_iconst (v := (0 : Int32)) C.1 dL_law__1873 (by decide) ?_
  refine q_lald C.1 rfl dL_law__1874 ?_
  refine q_iload C.1 dL_law__1875 0 rfl ?_
  refine q_i2l C.1 dL_law__1877 ?_
  refine q_lcmp C.1 dL_law__1878 ?_
  exact q_if_eq C.1 1884 dL_law__1879 (by decide) (fun _ => fin) (fun c8 => absurd (lgc0 e3) c8)
set_option maxRecDepth 100000 in
theorem case_free (C : Cl D T sK sV b L xs Γ) (hl0 : l.stackTraces = false) (hS : Sim_free R) (hn : 9 * n + 9 ≤ L) (hroom : kc + 5 ≤ 601024 ∧ ks + 30 ≤ 7293034) (hR : R gX xX gM xM) (K : ∀ (f2 : Nat → Int64) (gX2 : St) (xX2 : Sl) (gM2 : St) (xM2 : Sl), R gX2 xX2 gM2 xM2 → Kj l D 8 room_1 (kc + 5) (ks + 30) Γ Q (lwV T adX adM q f2 gX2 xX2 gM2 xM2) 2534 (lwLv adX adM b q n) []) : Kj l D 8 room_1 kc ks Γ Q (lwV T adX adM q f gX xX gM xM) 1887 (lwLv adX adM b q n) [] := by
  have hR0 : room_1.cells = 601024 ∧ room_1.slots = 7293034 := ⟨rfl, rfl⟩
  obtain ⟨oX, oM, hx, hm, hR2, hv⟩ := hS gX xX gM xM (xs (9 * n + 1)) hR
  refine q_aload_n C.1 dL_law__1887 rfl 1 rfl ?_
  refine q_aload_n C.1 dL_law__1888 rfl 0 rfl ?_
  refine q_iload C.1 dL_law__1889 4 rfl ?_
  refine q_iconst (v := Int32.ofNat 1) C.1 dL_law__1891 (by decide) ?_
  refine q_iadd C.1 dL_law__1892 ?_
  refine q_sld (v := xs (9 * n + 1)) C.1 C.2.2.2.1 C.2.2.2.2.1 C.2.2.2.2.2.1 (argI hn C.2.2.2.2.2.2 1 (by omega)).1 (congrArg xs (argI hn C.2.2.2.2.2.2 1 (by omega)).2) dL_law__1893 ?_
  refine q_aload_n C.1 dL_law__1894 rfl 3 rfl ?_
  refine q_w (kc' := kc + 1) (ks' := ks + 6) (rest := []) (As := [.ref (adX 0), .int (xs (9 * n + 1)), .ref q]) C.1 C.2.1 C.2.2.1 cut_head (fun sz => cL_free_w l hl0 D T adX sK sV xX gX q f (xs (9 * n + 1)) oX hx (simR_hk hv) sz) (TL_gi tb_1448 tb_1449 tb_1296 tb_1450) ⟨_, rfl⟩ (n := 3) (by decide +kernel) ⟨Nat.le_of_ble_eq_true rfl, Nat.le_of_ble_eq_true rfl⟩ ⟨rfl, rfl⟩ (by have := hroom; exact ⟨by omega, by omega⟩) ⟨Nat.le_refl _, Nat.le_refl _⟩ rfl rfl (Nat.le_of_ble_eq_true rfl) dL_law__1895 (fun r u hu => ?_)
  obtain ⟨e1, e2⟩ := use_I hv hu
  refine q_istore (lv' := [(5, .int r), (0, .ref b), (1, .ref (adX 0)), (2, .ref (adM 0)), (3, .ref q), (4, .int (Int32.ofNat (9 * n)))]) C.1 dL_law__1898 (Nat.le_of_ble_eq_true rfl) rfl ?_
  refine q_aload_n C.1 dL_law__1900 rfl 3 rfl ?_
  refine q_aload_n C.1 dL_law__1901 rfl 1 rfl ?_
  refine q_iload C.1 dL_law__1902 5 rfl ?_
  refine q_iconst (v := Int32.ofNat 1) C.1 dL_law__1904 (by decide) ?_
  refine q_iadd C.1 dL_law__1905 ?_
  refine q_sld (v := xs (9 * n + 1)) C.1 C.2.2.2.1 C.2.2.2.2.1 C.2.2.2.2.2.1 (argI hn C.2.2.2.2.2.2 1 (by omega)).1 (congrArg xs (argI hn C.2.2.2.2.2.2 1 (by omega)).2) dL_law__1906 ?_
  refine q_mi (kc' := kc + 1) (ks' := ks + 6) (rest := []) (ro := oM.1) (go := oM.2) (xo := xM) (As := [.int (xs (9 * n + 1))]) C.1 C.2.1 (cut_tail (a := [oL T q u] ++ wW shX T adX xX oX.2)) (fun sz => cM_free l D T adM xM gM (xs (9 * n + 1)) oM hm sz) (TM_kV tb_1451 tb_1452 tb_1453 tb_813 tb_1150 (n := 1) (by decide +kernel) BM_in BM_good) ⟨Nat.le_of_ble_eq_true rfl, Nat.le_of_ble_eq_true rfl⟩ ⟨rfl, rfl⟩ (by have := hroom; exact ⟨by omega, by omega⟩) ⟨Nat.le_refl _, Nat.le_refl _⟩ rfl rfl (Nat.le_of_ble_eq_true rfl) dL_law__1907 ?_
  refine q_istore (lv' := [(6, .int oM.1), (5, .int r), (0, .ref b), (1, .ref (adX 0)), (2, .ref (adM 0)), (3, .ref q), (4, .int (Int32.ofNat (9 * n)))]) C.1 dL_law__1910 (Nat.le_of_ble_eq_true rfl) rfl ?_
  refine q_aload_n C.1 dL_law__1912 rfl 4 rfl ?_
  refine q_mi (kc' := kc + 1) (ks' := ks + 6) (rest := []) (ro := oM.2 0 0) (go := oM.2) (xo := xM) (As := []) C.1 C.2.1 (cut_tail (a := [oL T q u] ++ wW shX T adX xX oX.2)) (fun sz => cM_thrown l D T adM xM oM.2 _ rfl sz) (TM_kV tb_1301 tb_1302 tb_1303 tb_813 tb_842 (n := 0) (by decide +kernel) BM_in BM_good) ⟨Nat.le_of_ble_eq_true rfl, Nat.le_of_ble_eq_true rfl⟩ ⟨rfl, rfl⟩ (by have := hroom; exact ⟨by omega, by omega⟩) ⟨Nat.le_refl _, Nat.le_refl _⟩ rfl rfl (Nat.le_of_ble_eq_true rfl) dL_law__1913 ?_
  refine q_iload C.1 dL_law__1916 1 rfl ?_
  refine q_icmp_eq C.1 1923 dL_law__1918 (by decide) (fun _ => ?_) (fun c9 => absurd e1 c9)
  refine q_iload C.1 dL_law__1923 1 rfl ?_
  have fin : Kj l D 8 room_1 (kc + 1) (ks + 6) Γ Q (lwV T adX adM q u oX.2 xX oM.2 xM) 1940 [(6, .int oM.1), (5, .int r), (0, .ref b), (1, .ref (adX 0)), (2, .ref (adM 0)), (3, .ref q), (4, .int (Int32.ofNat (9 * n)))] [] := by
    refine q_goto (tgt := 2534) C.1 dL_law__1940 (by decide) ?_
    refine q_sub [2, 3, 4, 5, 6] rfl ?_
    exact q_widen (by omega) (by omega) (K u oX.2 xX oM.2 xM hR2)
  refine q_if_ne C.1 1940 dL_law__1925 (by decide) (fun c9 => ?_) (fun _ => fin)
  have e3 := e2 c9
  refine q_aload_n C.1 dL_law__1928 rfl 5 rfl ?_
  refine q_iconst (v := (0 : Int32)) C.1 dL_law__1929 (by decide) ?_
  refine q_lald C.1 rfl dL_law__1930 ?_
  refine q_iload C.1 dL_law__1931 0 rfl ?_
  refine q_i2l C.1 dL_law__1933 ?_
  refine q_lcmp C.1 dL_law__1934 ?_
  exact q_if_eq C.1 1940 dL_law__1935 (by decide) (fun _ => fin) (fun c8 => absurd (lgc0 e3) c8)
set_option maxRecDepth 100000 in
theorem case_kin (C : Cl D T sK sV b L xs Γ) (hl0 : l.stackTraces = false) (hS : Sim_kin R) (hn : 9 * n + 9 ≤ L) (hroom : kc + 5 ≤ 601024 ∧ ks + 30 ≤ 7293034) (hR : R gX xX gM xM) (K : ∀ (f2 : Nat → Int64) (gX2 : St) (xX2 : Sl) (gM2 : St) (xM2 : Sl), R gX2 xX2 gM2 xM2 → Kj l D 8 room_1 (kc + 5) (ks + 30) Γ Q (lwV T adX adM q f2 gX2 xX2 gM2 xM2) 2534 (lwLv adX adM b q n) []) : Kj l D 8 room_1 kc ks Γ Q (lwV T adX adM q f gX xX gM xM) 1943 (lwLv adX adM b q n) [] := by
  have hR0 : room_1.cells = 601024 ∧ room_1.slots = 7293034 := ⟨rfl, rfl⟩
  obtain ⟨oX, oM, hx, hm, hR2, hv⟩ := hS gX xX gM xM (xs (9 * n + 1)) hR
  refine q_aload_n C.1 dL_law__1943 rfl 1 rfl ?_
  refine q_aload_n C.1 dL_law__1944 rfl 0 rfl ?_
  refine q_iload C.1 dL_law__1945 4 rfl ?_
  refine q_iconst (v := Int32.ofNat 1) C.1 dL_law__1947 (by decide) ?_
  refine q_iadd C.1 dL_law__1948 ?_
  refine q_sld (v := xs (9 * n + 1)) C.1 C.2.2.2.1 C.2.2.2.2.1 C.2.2.2.2.2.1 (argI hn C.2.2.2.2.2.2 1 (by omega)).1 (congrArg xs (argI hn C.2.2.2.2.2.2 1 (by omega)).2) dL_law__1949 ?_
  refine q_aload_n C.1 dL_law__1950 rfl 3 rfl ?_
  refine q_w (kc' := kc + 1) (ks' := ks + 6) (rest := []) (As := [.ref (adX 0), .int (xs (9 * n + 1)), .ref q]) C.1 C.2.1 C.2.2.1 cut_head (fun sz => cL_kin_w l hl0 D T adX sK sV xX gX q f (xs (9 * n + 1)) oX hx (simR_hk hv) sz) (TL_gi tb_1454 tb_1455 tb_1296 tb_1456) ⟨_, rfl⟩ (n := 3) (by decide +kernel) ⟨Nat.le_of_ble_eq_true rfl, Nat.le_of_ble_eq_true rfl⟩ ⟨rfl, rfl⟩ (by have := hroom; exact ⟨by omega, by omega⟩) ⟨Nat.le_refl _, Nat.le_refl _⟩ rfl rfl (Nat.le_of_ble_eq_true rfl) dL_law__1951 (fun r u hu => ?_)
  obtain ⟨e1, e2⟩ := use_I hv hu
  refine q_istore (lv' := [(5, .int r), (0, .ref b), (1, .ref (adX 0)), (2, .ref (adM 0)), (3, .ref q), (4, .int (Int32.ofNat (9 * n)))]) C.1 dL_law__1954 (Nat.le_of_ble_eq_true rfl) rfl ?_
  refine q_aload_n C.1 dL_law__1956 rfl 3 rfl ?_
  refine q_aload_n C.1 dL_law__1957 rfl 1 rfl ?_
  refine q_iload C.1 dL_law__1958 5 rfl ?_
  refine q_iconst (v := Int32.ofNat 1) C.1 dL_law__1960 (by decide) ?_
  refine q_iadd C.1 dL_law__1961 ?_
  refine q_sld (v := xs (9 * n + 1)) C.1 C.2.2.2.1 C.2.2.2.2.1 C.2.2.2.2.2.1 (argI hn C.2.2.2.2.2.2 1 (by omega)).1 (congrArg xs (argI hn C.2.2.2.2.2.2 1 (by omega)).2) dL_law__1962 ?_
  refine q_mi (kc' := kc + 1) (ks' := ks + 6) (rest := []) (ro := oM.1) (go := oM.2) (xo := xM) (As := [.int (xs (9 * n + 1))]) C.1 C.2.1 (cut_tail (a := [oL T q u] ++ wW shX T adX xX oX.2)) (fun sz => cM_kin l D T adM xM gM (xs (9 * n + 1)) oM hm sz) (TM_kV tb_1457 tb_1458 tb_1459 tb_813 tb_1151 (n := 1) (by decide +kernel) BM_in BM_good) ⟨Nat.le_of_ble_eq_true rfl, Nat.le_of_ble_eq_true rfl⟩ ⟨rfl, rfl⟩ (by have := hroom; exact ⟨by omega, by omega⟩) ⟨Nat.le_refl _, Nat.le_refl _⟩ rfl rfl (Nat.le_of_ble_eq_true rfl) dL_law__1963 ?_
  refine q_istore (lv' := [(6, .int oM.1), (5, .int r), (0, .ref b), (1, .ref (adX 0)), (2, .ref (adM 0)), (3, .ref q), (4, .int (Int32.ofNat (9 * n)))]) C.1 dL_law__1966 (Nat.le_of_ble_eq_true rfl) rfl ?_
  refine q_aload_n C.1 dL_law__1968 rfl 4 rfl ?_
  refine q_mi (kc' := kc + 1) (ks' := ks + 6) (rest := []) (ro := oM.2 0 0) (go := oM.2) (xo := xM) (As := []) C.1 C.2.1 (cut_tail (a := [oL T q u] ++ wW shX T adX xX oX.2)) (fun sz => cM_thrown l D T adM xM oM.2 _ rfl sz) (TM_kV tb_1301 tb_1302 tb_1303 tb_813 tb_842 (n := 0) (by decide +kernel) BM_in BM_good) ⟨Nat.le_of_ble_eq_true rfl, Nat.le_of_ble_eq_true rfl⟩ ⟨rfl, rfl⟩ (by have := hroom; exact ⟨by omega, by omega⟩) ⟨Nat.le_refl _, Nat.le_refl _⟩ rfl rfl (Nat.le_of_ble_eq_true rfl) dL_law__1969 ?_
  refine q_iload C.1 dL_law__1972 1 rfl ?_
  refine q_icmp_eq C.1 1979 dL_law__1974 (by decide) (fun _ => ?_) (fun c9 => absurd e1 c9)
  refine q_iload C.1 dL_law__1979 1 rfl ?_
  have fin : Kj l D 8 room_1 (kc + 1) (ks + 6) Γ Q (lwV T adX adM q u oX.2 xX oM.2 xM) 1996 [(6, .int oM.1), (5, .int r), (0, .ref b), (1, .ref (adX 0)), (2, .ref (adM 0)), (3, .ref q), (4, .int (Int32.ofNat (9 * n)))] [] := by
    refine q_goto (tgt := 2534) C.1 dL_law__1996 (by decide) ?_
    refine q_sub [2, 3, 4, 5, 6] rfl ?_
    exact q_widen (by omega) (by omega) (K u oX.2 xX oM.2 xM hR2)
  refine q_if_ne C.1 1996 dL_law__1981 (by decide) (fun c9 => ?_) (fun _ => fin)
  have e3 := e2 c9
  refine q_aload_n C.1 dL_law__1984 rfl 5 rfl ?_
  refine q_iconst (v := (0 : Int32)) C.1 dL_law__1985 (by decide) ?_
  refine q_lald C.1 rfl dL_law__1986 ?_
  refine q_iload C.1 dL_law__1987 0 rfl ?_
  refine q_i2l C.1 dL_law__1989 ?_
  refine q_lcmp C.1 dL_law__1990 ?_
  exact q_if_eq C.1 1996 dL_law__1991 (by decide) (fun _ => fin) (fun c8 => absurd (lgc0 e3) c8)
set_option maxRecDepth 100000 in
theorem case_willing (C : Cl D T sK sV b L xs Γ) (hl0 : l.stackTraces = false) (hS : Sim_willing R) (hn : 9 * n + 9 ≤ L) (hroom : kc + 5 ≤ 601024 ∧ ks + 30 ≤ 7293034) (hR : R gX xX gM xM) (K : ∀ (f2 : Nat → Int64) (gX2 : St) (xX2 : Sl) (gM2 : St) (xM2 : Sl), R gX2 xX2 gM2 xM2 → Kj l D 8 room_1 (kc + 5) (ks + 30) Γ Q (lwV T adX adM q f2 gX2 xX2 gM2 xM2) 2534 (lwLv adX adM b q n) []) : Kj l D 8 room_1 kc ks Γ Q (lwV T adX adM q f gX xX gM xM) 1999 (lwLv adX adM b q n) [] := by
  have hR0 : room_1.cells = 601024 ∧ room_1.slots = 7293034 := ⟨rfl, rfl⟩
  obtain ⟨oX, oM, hx, hm, hR2, hv⟩ := hS gX xX gM xM (xs (9 * n + 1)) hR
  refine q_aload_n C.1 dL_law__1999 rfl 1 rfl ?_
  refine q_aload_n C.1 dL_law__2000 rfl 0 rfl ?_
  refine q_iload C.1 dL_law__2001 4 rfl ?_
  refine q_iconst (v := Int32.ofNat 1) C.1 dL_law__2003 (by decide) ?_
  refine q_iadd C.1 dL_law__2004 ?_
  refine q_sld (v := xs (9 * n + 1)) C.1 C.2.2.2.1 C.2.2.2.2.1 C.2.2.2.2.2.1 (argI hn C.2.2.2.2.2.2 1 (by omega)).1 (congrArg xs (argI hn C.2.2.2.2.2.2 1 (by omega)).2) dL_law__2005 ?_
  refine q_aload_n C.1 dL_law__2006 rfl 3 rfl ?_
  refine q_w (kc' := kc + 1) (ks' := ks + 6) (rest := []) (As := [.ref (adX 0), .int (xs (9 * n + 1)), .ref q]) C.1 C.2.1 C.2.2.1 cut_head (fun sz => cL_willing_w l hl0 D T adX sK sV xX gX q f (xs (9 * n + 1)) oX hx (simR_hk hv) sz) (TL_gi tb_1460 tb_1461 tb_1296 tb_1462) ⟨_, rfl⟩ (n := 3) (by decide +kernel) ⟨Nat.le_of_ble_eq_true rfl, Nat.le_of_ble_eq_true rfl⟩ ⟨rfl, rfl⟩ (by have := hroom; exact ⟨by omega, by omega⟩) ⟨Nat.le_refl _, Nat.le_refl _⟩ rfl rfl (Nat.le_of_ble_eq_true rfl) dL_law__2007 (fun r u hu => ?_)
  obtain ⟨e1, e2⟩ := use_I hv hu
  refine q_istore (lv' := [(5, .int r), (0, .ref b), (1, .ref (adX 0)), (2, .ref (adM 0)), (3, .ref q), (4, .int (Int32.ofNat (9 * n)))]) C.1 dL_law__2010 (Nat.le_of_ble_eq_true rfl) rfl ?_
  refine q_aload_n C.1 dL_law__2012 rfl 3 rfl ?_
  refine q_aload_n C.1 dL_law__2013 rfl 1 rfl ?_
  refine q_iload C.1 dL_law__2014 5 rfl ?_
  refine q_iconst (v := Int32.ofNat 1) C.1 dL_law__2016 (by decide) ?_
  refine q_iadd C.1 dL_law__2017 ?_
  refine q_sld (v := xs (9 * n + 1)) C.1 C.2.2.2.1 C.2.2.2.2.1 C.2.2.2.2.2.1 (argI hn C.2.2.2.2.2.2 1 (by omega)).1 (congrArg xs (argI hn C.2.2.2.2.2.2 1 (by omega)).2) dL_law__2018 ?_
  refine q_mi (kc' := kc + 1) (ks' := ks + 6) (rest := []) (ro := oM.1) (go := oM.2) (xo := xM) (As := [.int (xs (9 * n + 1))]) C.1 C.2.1 (cut_tail (a := [oL T q u] ++ wW shX T adX xX oX.2)) (fun sz => cM_willing l D T adM xM gM (xs (9 * n + 1)) oM hm sz) (TM_kV tb_1463 tb_1464 tb_1465 tb_813 tb_1152 (n := 1) (by decide +kernel) BM_in BM_good) ⟨Nat.le_of_ble_eq_true rfl, Nat.le_of_ble_eq_true rfl⟩ ⟨rfl, rfl⟩ (by have := hroom; exact ⟨by omega, by omega⟩) ⟨Nat.le_refl _, Nat.le_refl _⟩ rfl rfl (Nat.le_of_ble_eq_true rfl) dL_law__2019 ?_
  refine q_istore (lv' := [(6, .int oM.1), (5, .int r), (0, .ref b), (1, .ref (adX 0)), (2, .ref (adM 0)), (3, .ref q), (4, .int (Int32.ofNat (9 * n)))]) C.1 dL_law__2022 (Nat.le_of_ble_eq_true rfl) rfl ?_
  refine q_aload_n C.1 dL_law__2024 rfl 4 rfl ?_
  refine q_mi (kc' := kc + 1) (ks' := ks + 6) (rest := []) (ro := oM.2 0 0) (go := oM.2) (xo := xM) (As := []) C.1 C.2.1 (cut_tail (a := [oL T q u] ++ wW shX T adX xX oX.2)) (fun sz => cM_thrown l D T adM xM oM.2 _ rfl sz) (TM_kV tb_1301 tb_1302 tb_1303 tb_813 tb_842 (n := 0) (by decide +kernel) BM_in BM_good) ⟨Nat.le_of_ble_eq_true rfl, Nat.le_of_ble_eq_true rfl⟩ ⟨rfl, rfl⟩ (by have := hroom; exact ⟨by omega, by omega⟩) ⟨Nat.le_refl _, Nat.le_refl _⟩ rfl rfl (Nat.le_of_ble_eq_true rfl) dL_law__2025 ?_
  refine q_iload C.1 dL_law__2028 1 rfl ?_
  refine q_icmp_eq C.1 2035 dL_law__2030 (by decide) (fun _ => ?_) (fun c9 => absurd e1 c9)
  refine q_iload C.1 dL_law__2035 1 rfl ?_
  have fin : Kj l D 8 room_1 (kc + 1) (ks + 6) Γ Q (lwV T adX adM q u oX.2 xX oM.2 xM) 2052 [(6, .int oM.1), (5, .int r), (0, .ref b), (1, .ref (adX 0)), (2, .ref (adM 0)), (3, .ref q), (4, .int (Int32.ofNat (9 * n)))] [] := by
    refine q_goto (tgt := 2534) C.1 dL_law__2052 (by decide) ?_
    refine q_sub [2, 3, 4, 5, 6] rfl ?_
    exact q_widen (by omega) (by omega) (K u oX.2 xX oM.2 xM hR2)
  refine q_if_ne C.1 2052 dL_law__2037 (by decide) (fun c9 => ?_) (fun _ => fin)
  have e3 := e2 c9
  refine q_aload_n C.1 dL_law__2040 rfl 5 rfl ?_
  refine q_iconst (v := (0 : Int32)) C.1 dL_law__2041 (by decide) ?_
  refine q_lald C.1 rfl dL_law__2042 ?_
  refine q_iload C.1 dL_law__2043 0 rfl ?_
  refine q_i2l C.1 dL_law__2045 ?_
  refine q_lcmp C.1 dL_law__2046 ?_
  exact q_if_eq C.1 2052 dL_law__2047 (by decide) (fun _ => fin) (fun c8 => absurd (lgc0 e3) c8)
set_option maxRecDepth 100000 in
theorem case_below (C : Cl D T sK sV b L xs Γ) (hl0 : l.stackTraces = false) (hS : Sim_below R) (hn : 9 * n + 9 ≤ L) (hroom : kc + 5 ≤ 601024 ∧ ks + 30 ≤ 7293034) (hR : R gX xX gM xM) (K : ∀ (f2 : Nat → Int64) (gX2 : St) (xX2 : Sl) (gM2 : St) (xM2 : Sl), R gX2 xX2 gM2 xM2 → Kj l D 8 room_1 (kc + 5) (ks + 30) Γ Q (lwV T adX adM q f2 gX2 xX2 gM2 xM2) 2534 (lwLv adX adM b q n) []) : Kj l D 8 room_1 kc ks Γ Q (lwV T adX adM q f gX xX gM xM) 2055 (lwLv adX adM b q n) [] := by
  have hR0 : room_1.cells = 601024 ∧ room_1.slots = 7293034 := ⟨rfl, rfl⟩
  obtain ⟨oX, oM, hx, hm, hR2, hv⟩ := hS gX xX gM xM (xs (9 * n + 1)) hR
  refine q_aload_n C.1 dL_law__2055 rfl 1 rfl ?_
  refine q_aload_n C.1 dL_law__2056 rfl 0 rfl ?_
  refine q_iload C.1 dL_law__2057 4 rfl ?_
  refine q_iconst (v := Int32.ofNat 1) C.1 dL_law__2059 (by decide) ?_
  refine q_iadd C.1 dL_law__2060 ?_
  refine q_sld (v := xs (9 * n + 1)) C.1 C.2.2.2.1 C.2.2.2.2.1 C.2.2.2.2.2.1 (argI hn C.2.2.2.2.2.2 1 (by omega)).1 (congrArg xs (argI hn C.2.2.2.2.2.2 1 (by omega)).2) dL_law__2061 ?_
  refine q_aload_n C.1 dL_law__2062 rfl 3 rfl ?_
  refine q_w (kc' := kc + 1) (ks' := ks + 6) (rest := []) (As := [.ref (adX 0), .int (xs (9 * n + 1)), .ref q]) C.1 C.2.1 C.2.2.1 cut_head (fun sz => cL_below_w l hl0 D T adX sK sV xX gX q f (xs (9 * n + 1)) oX hx (simR_hk hv) sz) (TL_gi tb_1466 tb_1467 tb_1296 tb_1468) ⟨_, rfl⟩ (n := 3) (by decide +kernel) ⟨Nat.le_of_ble_eq_true rfl, Nat.le_of_ble_eq_true rfl⟩ ⟨rfl, rfl⟩ (by have := hroom; exact ⟨by omega, by omega⟩) ⟨Nat.le_refl _, Nat.le_refl _⟩ rfl rfl (Nat.le_of_ble_eq_true rfl) dL_law__2063 (fun r u hu => ?_)
  obtain ⟨e1, e2⟩ := use_I hv hu
  refine q_istore (lv' := [(5, .int r), (0, .ref b), (1, .ref (adX 0)), (2, .ref (adM 0)), (3, .ref q), (4, .int (Int32.ofNat (9 * n)))]) C.1 dL_law__2066 (Nat.le_of_ble_eq_true rfl) rfl ?_
  refine q_aload_n C.1 dL_law__2068 rfl 3 rfl ?_
  refine q_aload_n C.1 dL_law__2069 rfl 1 rfl ?_
  refine q_iload C.1 dL_law__2070 5 rfl ?_
  refine q_iconst (v := Int32.ofNat 1) C.1 dL_law__2072 (by decide) ?_
  refine q_iadd C.1 dL_law__2073 ?_
  refine q_sld (v := xs (9 * n + 1)) C.1 C.2.2.2.1 C.2.2.2.2.1 C.2.2.2.2.2.1 (argI hn C.2.2.2.2.2.2 1 (by omega)).1 (congrArg xs (argI hn C.2.2.2.2.2.2 1 (by omega)).2) dL_law__2074 ?_
  refine q_mi (kc' := kc + 1) (ks' := ks + 6) (rest := []) (ro := oM.1) (go := oM.2) (xo := xM) (As := [.int (xs (9 * n + 1))]) C.1 C.2.1 (cut_tail (a := [oL T q u] ++ wW shX T adX xX oX.2)) (fun sz => cM_below l D T adM xM gM (xs (9 * n + 1)) oM hm sz) (TM_kV tb_1469 tb_1470 tb_1471 tb_813 tb_1153 (n := 1) (by decide +kernel) BM_in BM_good) ⟨Nat.le_of_ble_eq_true rfl, Nat.le_of_ble_eq_true rfl⟩ ⟨rfl, rfl⟩ (by have := hroom; exact ⟨by omega, by omega⟩) ⟨Nat.le_refl _, Nat.le_refl _⟩ rfl rfl (Nat.le_of_ble_eq_true rfl) dL_law__2075 ?_
  refine q_istore (lv' := [(6, .int oM.1), (5, .int r), (0, .ref b), (1, .ref (adX 0)), (2, .ref (adM 0)), (3, .ref q), (4, .int (Int32.ofNat (9 * n)))]) C.1 dL_law__2078 (Nat.le_of_ble_eq_true rfl) rfl ?_
  refine q_aload_n C.1 dL_law__2080 rfl 4 rfl ?_
  refine q_mi (kc' := kc + 1) (ks' := ks + 6) (rest := []) (ro := oM.2 0 0) (go := oM.2) (xo := xM) (As := []) C.1 C.2.1 (cut_tail (a := [oL T q u] ++ wW shX T adX xX oX.2)) (fun sz => cM_thrown l D T adM xM oM.2 _ rfl sz) (TM_kV tb_1301 tb_1302 tb_1303 tb_813 tb_842 (n := 0) (by decide +kernel) BM_in BM_good) ⟨Nat.le_of_ble_eq_true rfl, Nat.le_of_ble_eq_true rfl⟩ ⟨rfl, rfl⟩ (by have := hroom; exact ⟨by omega, by omega⟩) ⟨Nat.le_refl _, Nat.le_refl _⟩ rfl rfl (Nat.le_of_ble_eq_true rfl) dL_law__2081 ?_
  refine q_iload C.1 dL_law__2084 1 rfl ?_
  refine q_icmp_eq C.1 2091 dL_law__2086 (by decide) (fun _ => ?_) (fun c9 => absurd e1 c9)
  refine q_iload C.1 dL_law__2091 1 rfl ?_
  have fin : Kj l D 8 room_1 (kc + 1) (ks + 6) Γ Q (lwV T adX adM q u oX.2 xX oM.2 xM) 2108 [(6, .int oM.1), (5, .int r), (0, .ref b), (1, .ref (adX 0)), (2, .ref (adM 0)), (3, .ref q), (4, .int (Int32.ofNat (9 * n)))] [] := by
    refine q_goto (tgt := 2534) C.1 dL_law__2108 (by decide) ?_
    refine q_sub [2, 3, 4, 5, 6] rfl ?_
    exact q_widen (by omega) (by omega) (K u oX.2 xX oM.2 xM hR2)
  refine q_if_ne C.1 2108 dL_law__2093 (by decide) (fun c9 => ?_) (fun _ => fin)
  have e3 := e2 c9
  refine q_aload_n C.1 dL_law__2096 rfl 5 rfl ?_
  refine q_iconst (v := (0 : Int32)) C.1 dL_law__2097 (by decide) ?_
  refine q_lald C.1 rfl dL_law__2098 ?_
  refine q_iload C.1 dL_law__2099 0 rfl ?_
  refine q_i2l C.1 dL_law__2101 ?_
  refine q_lcmp C.1 dL_law__2102 ?_
  exact q_if_eq C.1 2108 dL_law__2103 (by decide) (fun _ => fin) (fun c8 => absurd (lgc0 e3) c8)
end LAW
