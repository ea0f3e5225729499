section GC
variable {p : Program} {l : Launch} {e : Env} {s : State} {m : MethodId} {args : Array Value} {below : List Frame} {meth : Method} {c : Code} {H : Heap} {locs : List Loc} {cells slots : Nat} {Q : State → Prop} {ls : Array Slot} {V : zV} {cL : ClassId} {o : Nat} {a0 a1 : Nat → Nat} {sb L i : Nat} {xs : Nat → Int32} {σ τ : zS} {f : Nat → Int64}
set_option maxHeartbeats 4000000 in
theorem gc_without (X : gFx p l s m c args sb L xs) (hi : i + 6 ≤ L) (hRR : RR σ τ) (hZ : gZ V (gtL V cL) (fun q => s.heap.size ≤ q) (gwL V a0 a1 cL o σ τ f) s H locs) (hl : lv_has ls 7 (gLs sb a0 a1 o i)) (hc : cells + 2 ≤ 601024 ∧ slots + 12 ≤ 7293034) (kk : gNx p l e s m args below meth c Q V cL o a0 a1 sb i (cells + 2) (slots + 12)) : W p l e room_1 s m args below meth c H locs cells slots Q (F0 m 1398 ls []) := by
  obtain ⟨hfl, C0, hN, hX, hbl, hL⟩ := X
  have hx := C0.1
  have hb := C0.2.1
  have hbA : ¬ (fun q => s.heap.size ≤ q) sb := Nat.not_le.mpr hbl
  obtain ⟨k, r, σ1, b, τ1, e1, e2, hR1, hth, hk, hr⟩ := reN_without hRR (xs (i + 1))
  refine lv_aload_n hx hb dL_law_1398 rfl (lv_at hl 1 rfl) ?_
  refine gl_arg (j := 1) hx hb hX hbl hbA hZ.2.2.2.1 rfl (by omega) hL (lv_at hl 0 rfl) (lv_at hl 4 rfl) dL_law_1399 dL_law_1400 dL_law_1402 dL_law_1403 dL_law_1404 ?_
  refine lv_aload_n hx hb dL_law_1405 rfl (lv_at hl 3 rfl) ?_
  refine gl_w (code := (nI k)) (As := [.ref (a0 0), .int (xs (i + 1)), .ref o]) (rest := []) C0 hN hZ (gW_without l hfl e1 (gk1 hk)) wL_without rfl rfl hl.1 (Nat.zero_le _) ⟨Nat.le_of_ble_eq_true rfl, Nat.le_of_ble_eq_true rfl⟩ dL_law_1406 ⟨Nat.le_trans (by omega : cells + 1 ≤ cells + 2) hc.1, Nat.le_trans (by omega : slots + 6 ≤ slots + 12) hc.2⟩ (fun f1 H1 locs1 hf1 hZ1 => ?_)
  refine lv_istore (lv' := [(5, .int (nI k)), (0, .ref sb), (1, .ref (a0 0)), (2, .ref (a1 0)), (3, .ref o), (4, .int (nI i))]) hx hb dL_law_1409 hl (by decide) rfl (fun ls hl => ?_)
  replace hZ := hZ1
  clear hZ1
  refine lv_aload_n hx hb dL_law_1411 rfl (lv_at hl 3 rfl) ?_
  refine gl_arg (j := 1) hx hb hX hbl hbA hZ.2.2.2.1 rfl (by omega) hL (lv_at hl 1 rfl) (lv_at hl 5 rfl) dL_law_1412 dL_law_1413 dL_law_1415 dL_law_1416 dL_law_1417 ?_
  refine gl_ci (L := 1) (is := [0, 1]) (As := [.int (xs (i + 1))]) (rest := []) C0 hZ.re rfl rfl (kX8_without l  rfl e2) mL8_without vL8_without rfl rfl hl.1 (Nat.zero_le _) ⟨Nat.le_of_ble_eq_true rfl, Nat.le_of_ble_eq_true rfl⟩ dL_law_1418 ⟨Nat.le_trans (by omega : cells + 1 ≤ cells + 2) hc.1, Nat.le_trans (by omega : slots + 6 ≤ slots + 12) hc.2⟩ (fun H1 locs1 hZ1 => ?_)
  exact gl_tail C0 hZ1.er hl hth (fun h => by rw [← hr (gk0 (Nat.le_trans hk (by omega)) h)]; exact hf1 (gk0 (Nat.le_trans hk (by omega)) h)) ⟨Nat.le_of_ble_eq_true rfl, Nat.le_of_ble_eq_true rfl⟩ ⟨Nat.le_trans (by omega : cells + 1 ≤ cells + 2) hc.1, Nat.le_trans (by omega : slots + 6 ≤ slots + 12) hc.2⟩ dL_law_1421 dL_law_1423 dL_law_1424 dL_law_1427 dL_law_1429 dL_law_1434 dL_law_1436 dL_law_1439 dL_law_1440 dL_law_1441 dL_law_1442 dL_law_1444 dL_law_1445 dL_law_1446 dL_law_1451 (by decide) (fun H2 locs2 ls2 hZ2 hl2 => W.widen (by omega) (by omega) (kk σ1 τ1 f1 H2 locs2 ls2 hR1 hZ2 hl2))
set_option maxHeartbeats 4000000 in
theorem gc_sign (X : gFx p l s m c args sb L xs) (hi : i + 6 ≤ L) (hRR : RR σ τ) (hZ : gZ V (gtL V cL) (fun q => s.heap.size ≤ q) (gwL V a0 a1 cL o σ τ f) s H locs) (hl : lv_has ls 7 (gLs sb a0 a1 o i)) (hc : cells + 2 ≤ 601024 ∧ slots + 12 ≤ 7293034) (kk : gNx p l e s m args below meth c Q V cL o a0 a1 sb i (cells + 2) (slots + 12)) : W p l e room_1 s m args below meth c H locs cells slots Q (F0 m 1454 ls []) := by
  obtain ⟨hfl, C0, hN, hX, hbl, hL⟩ := X
  have hx := C0.1
  have hb := C0.2.1
  have hbA : ¬ (fun q => s.heap.size ≤ q) sb := Nat.not_le.mpr hbl
  obtain ⟨r, σ1, τ1, e1, e2, hR1⟩ := rel_sign hRR (xs (i + 1)) (if xs (i + 2) = 0 then 0 else 1)
  refine lv_aload_n hx hb dL_law_1454 rfl (lv_at hl 1 rfl) ?_
  refine gl_arg (j := 1) hx hb hX hbl hbA hZ.2.2.2.1 rfl (by omega) hL (lv_at hl 0 rfl) (lv_at hl 4 rfl) dL_law_1455 dL_law_1456 dL_law_1458 dL_law_1459 dL_law_1460 ?_
  refine gl_arg (j := 2) hx hb hX hbl hbA hZ.2.2.2.1 rfl (by omega) hL (lv_at hl 0 rfl) (lv_at hl 4 rfl) dL_law_1461 dL_law_1462 dL_law_1464 dL_law_1465 dL_law_1466 ?_
  refine gl_bool hx hb dL_law_1467 dL_law_1470 dL_law_1471 dL_law_1474 ?_
  refine gl_ci (L := 0) (is := [0]) (As := [.int (xs (i + 1)), .int (if xs (i + 2) = 0 then 0 else 1)]) (rest := []) C0 hZ rfl rfl (kX7_sign l  rfl e1) mL7_sign vL7_sign rfl rfl hl.1 (Nat.zero_le _) ⟨Nat.le_of_ble_eq_true rfl, Nat.le_of_ble_eq_true rfl⟩ dL_law_1475 ⟨Nat.le_trans (by omega : cells ≤ cells + 2) hc.1, Nat.le_trans (by omega : slots ≤ slots + 12) hc.2⟩ (fun H1 locs1 hZ1 => ?_)
  replace hZ := hZ1
  clear hZ1
  refine lv_aload_n hx hb dL_law_1478 rfl (lv_at hl 2 rfl) ?_
  refine gl_arg (j := 1) hx hb hX hbl hbA hZ.2.2.2.1 rfl (by omega) hL (lv_at hl 0 rfl) (lv_at hl 4 rfl) dL_law_1479 dL_law_1480 dL_law_1482 dL_law_1483 dL_law_1484 ?_
  refine gl_arg (j := 2) hx hb hX hbl hbA hZ.2.2.2.1 rfl (by omega) hL (lv_at hl 0 rfl) (lv_at hl 4 rfl) dL_law_1485 dL_law_1486 dL_law_1488 dL_law_1489 dL_law_1490 ?_
  refine gl_bool hx hb dL_law_1491 dL_law_1494 dL_law_1495 dL_law_1498 ?_
  refine gl_ci (L := 1) (is := [0, 1]) (As := [.int (xs (i + 1)), .int (if xs (i + 2) = 0 then 0 else 1)]) (rest := [.int r]) C0 hZ.re rfl rfl (kX8_sign l  rfl e2) mL8_sign vL8_sign rfl rfl hl.1 (Nat.le_of_ble_eq_true rfl) ⟨Nat.le_of_ble_eq_true rfl, Nat.le_of_ble_eq_true rfl⟩ dL_law_1499 ⟨Nat.le_trans (by omega : cells ≤ cells + 2) hc.1, Nat.le_trans (by omega : slots ≤ slots + 12) hc.2⟩ (fun H1 locs1 hZ1 => ?_)
  exact lv_icmp_eq (tgt := 1956) hx hb dL_law_1502 (by decide) (fun _ => W.widen (by omega) (by omega) (kk σ1 τ1 f H1 locs1 ls hR1 hZ1.er hl)) (fun h => absurd rfl h)
set_option maxHeartbeats 4000000 in
theorem gc_odds (X : gFx p l s m c args sb L xs) (hi : i + 6 ≤ L) (hRR : RR σ τ) (hZ : gZ V (gtL V cL) (fun q => s.heap.size ≤ q) (gwL V a0 a1 cL o σ τ f) s H locs) (hl : lv_has ls 7 (gLs sb a0 a1 o i)) (hc : cells + 2 ≤ 601024 ∧ slots + 12 ≤ 7293034) (kk : gNx p l e s m args below meth c Q V cL o a0 a1 sb i (cells + 2) (slots + 12)) : W p l e room_1 s m args below meth c H locs cells slots Q (F0 m 1507 ls []) := by
  obtain ⟨hfl, C0, hN, hX, hbl, hL⟩ := X
  have hx := C0.1
  have hb := C0.2.1
  have hbA : ¬ (fun q => s.heap.size ≤ q) sb := Nat.not_le.mpr hbl
  obtain ⟨k, r, σ1, b, τ1, e1, e2, hR1, hth, hk, hr⟩ := rel_odds hRR (xs (i + 1)) (xs (i + 2))
  refine lv_aload_n hx hb dL_law_1507 rfl (lv_at hl 1 rfl) ?_
  refine gl_arg (j := 1) hx hb hX hbl hbA hZ.2.2.2.1 rfl (by omega) hL (lv_at hl 0 rfl) (lv_at hl 4 rfl) dL_law_1508 dL_law_1509 dL_law_1511 dL_law_1512 dL_law_1513 ?_
  refine gl_arg (j := 2) hx hb hX hbl hbA hZ.2.2.2.1 rfl (by omega) hL (lv_at hl 0 rfl) (lv_at hl 4 rfl) dL_law_1514 dL_law_1515 dL_law_1517 dL_law_1518 dL_law_1519 ?_
  refine lv_aload_n hx hb dL_law_1520 rfl (lv_at hl 3 rfl) ?_
  refine gl_w (code := (nI k)) (As := [.ref (a0 0), .int (xs (i + 1)), .int (xs (i + 2)), .ref o]) (rest := []) C0 hN hZ (gW_odds l hfl e1 (gk2 hk)) wL_odds rfl rfl hl.1 (Nat.zero_le _) ⟨Nat.le_of_ble_eq_true rfl, Nat.le_of_ble_eq_true rfl⟩ dL_law_1521 ⟨Nat.le_trans (by omega : cells + 1 ≤ cells + 2) hc.1, Nat.le_trans (by omega : slots + 6 ≤ slots + 12) hc.2⟩ (fun f1 H1 locs1 hf1 hZ1 => ?_)
  refine lv_istore (lv' := [(5, .int (nI k)), (0, .ref sb), (1, .ref (a0 0)), (2, .ref (a1 0)), (3, .ref o), (4, .int (nI i))]) hx hb dL_law_1524 hl (by decide) rfl (fun ls hl => ?_)
  replace hZ := hZ1
  clear hZ1
  refine lv_aload_n hx hb dL_law_1526 rfl (lv_at hl 3 rfl) ?_
  refine gl_arg (j := 1) hx hb hX hbl hbA hZ.2.2.2.1 rfl (by omega) hL (lv_at hl 1 rfl) (lv_at hl 5 rfl) dL_law_1527 dL_law_1528 dL_law_1530 dL_law_1531 dL_law_1532 ?_
  refine gl_arg (j := 2) hx hb hX hbl hbA hZ.2.2.2.1 rfl (by omega) hL (lv_at hl 1 rfl) (lv_at hl 5 rfl) dL_law_1533 dL_law_1534 dL_law_1536 dL_law_1537 dL_law_1538 ?_
  refine gl_ci (L := 1) (is := [0, 1]) (As := [.int (xs (i + 1)), .int (xs (i + 2))]) (rest := []) C0 hZ.re rfl rfl (kX8_odds l  rfl e2) mL8_odds vL8_odds rfl rfl hl.1 (Nat.zero_le _) ⟨Nat.le_of_ble_eq_true rfl, Nat.le_of_ble_eq_true rfl⟩ dL_law_1539 ⟨Nat.le_trans (by omega : cells + 1 ≤ cells + 2) hc.1, Nat.le_trans (by omega : slots + 6 ≤ slots + 12) hc.2⟩ (fun H1 locs1 hZ1 => ?_)
  exact gl_tail C0 hZ1.er hl hth (fun h => by rw [← hr (gk0 hk h)]; exact hf1 (gk0 hk h)) ⟨Nat.le_of_ble_eq_true rfl, Nat.le_of_ble_eq_true rfl⟩ ⟨Nat.le_trans (by omega : cells + 1 ≤ cells + 2) hc.1, Nat.le_trans (by omega : slots + 6 ≤ slots + 12) hc.2⟩ dL_law_1542 dL_law_1544 dL_law_1545 dL_law_1548 dL_law_1550 dL_law_1555 dL_law_1557 dL_law_1560 dL_law_1561 dL_law_1562 dL_law_1563 dL_law_1565 dL_law_1566 dL_law_1567 dL_law_1572 (by decide) (fun H2 locs2 ls2 hZ2 hl2 => W.widen (by omega) (by omega) (kk σ1 τ1 f1 H2 locs2 ls2 hR1 hZ2 hl2))
set_option maxHeartbeats 4000000 in
theorem gc_line (X : gFx p l s m c args sb L xs) (hi : i + 6 ≤ L) (hRR : RR σ τ) (hZ : gZ V (gtL V cL) (fun q => s.heap.size ≤ q) (gwL V a0 a1 cL o σ τ f) s H locs) (hl : lv_has ls 7 (gLs sb a0 a1 o i)) (hc : cells + 2 ≤ 601024 ∧ slots + 12 ≤ 7293034) (kk : gNx p l e s m args below meth c Q V cL o a0 a1 sb i (cells + 2) (slots + 12)) : W p l e room_1 s m args below meth c H locs cells slots Q (F0 m 1575 ls []) := by
  obtain ⟨hfl, C0, hN, hX, hbl, hL⟩ := X
  have hx := C0.1
  have hb := C0.2.1
  have hbA : ¬ (fun q => s.heap.size ≤ q) sb := Nat.not_le.mpr hbl
  obtain ⟨r, σ1, τ1, e1, e2, hR1⟩ := rel_line hRR 
  refine lv_aload_n hx hb dL_law_1575 rfl (lv_at hl 1 rfl) ?_
  refine gl_ci (L := 0) (is := [0]) (As := []) (rest := []) C0 hZ rfl rfl (kX7_line l  rfl e1) mL7_line vL7_line rfl rfl hl.1 (Nat.zero_le _) ⟨Nat.le_of_ble_eq_true rfl, Nat.le_of_ble_eq_true rfl⟩ dL_law_1576 ⟨Nat.le_trans (by omega : cells ≤ cells + 2) hc.1, Nat.le_trans (by omega : slots ≤ slots + 12) hc.2⟩ (fun H1 locs1 hZ1 => ?_)
  replace hZ := hZ1
  clear hZ1
  refine lv_aload_n hx hb dL_law_1579 rfl (lv_at hl 2 rfl) ?_
  refine gl_ci (L := 1) (is := [0, 1]) (As := []) (rest := [.int r]) C0 hZ.re rfl rfl (kX8_line l  rfl e2) mL8_line vL8_line rfl rfl hl.1 (Nat.le_of_ble_eq_true rfl) ⟨Nat.le_of_ble_eq_true rfl, Nat.le_of_ble_eq_true rfl⟩ dL_law_1580 ⟨Nat.le_trans (by omega : cells ≤ cells + 2) hc.1, Nat.le_trans (by omega : slots ≤ slots + 12) hc.2⟩ (fun H1 locs1 hZ1 => ?_)
  exact lv_icmp_eq (tgt := 1956) hx hb dL_law_1583 (by decide) (fun _ => W.widen (by omega) (by omega) (kk σ1 τ1 f H1 locs1 ls hR1 hZ1.er hl)) (fun h => absurd rfl h)
set_option maxHeartbeats 4000000 in
theorem gc_gate (X : gFx p l s m c args sb L xs) (hi : i + 6 ≤ L) (hRR : RR σ τ) (hZ : gZ V (gtL V cL) (fun q => s.heap.size ≤ q) (gwL V a0 a1 cL o σ τ f) s H locs) (hl : lv_has ls 7 (gLs sb a0 a1 o i)) (hc : cells + 2 ≤ 601024 ∧ slots + 12 ≤ 7293034) (kk : gNx p l e s m args below meth c Q V cL o a0 a1 sb i (cells + 2) (slots + 12)) : W p l e room_1 s m args below meth c H locs cells slots Q (F0 m 1588 ls []) := by
  obtain ⟨hfl, C0, hN, hX, hbl, hL⟩ := X
  have hx := C0.1
  have hb := C0.2.1
  have hbA : ¬ (fun q => s.heap.size ≤ q) sb := Nat.not_le.mpr hbl
  obtain ⟨k, r, σ1, b, τ1, e1, e2, hR1, hth, hk, hr⟩ := rel_gate hRR (xs (i + 1)) (xs (i + 2)) (xs (i + 3)) (xs (i + 4)) (xs (i + 5))
  refine lv_aload_n hx hb dL_law_1588 rfl (lv_at hl 1 rfl) ?_
  refine gl_arg (j := 1) hx hb hX hbl hbA hZ.2.2.2.1 rfl (by omega) hL (lv_at hl 0 rfl) (lv_at hl 4 rfl) dL_law_1589 dL_law_1590 dL_law_1592 dL_law_1593 dL_law_1594 ?_
  refine gl_arg (j := 2) hx hb hX hbl hbA hZ.2.2.2.1 rfl (by omega) hL (lv_at hl 0 rfl) (lv_at hl 4 rfl) dL_law_1595 dL_law_1596 dL_law_1598 dL_law_1599 dL_law_1600 ?_
  refine gl_arg (j := 3) hx hb hX hbl hbA hZ.2.2.2.1 rfl (by omega) hL (lv_at hl 0 rfl) (lv_at hl 4 rfl) dL_law_1601 dL_law_1602 dL_law_1604 dL_law_1605 dL_law_1606 ?_
  refine gl_arg (j := 4) hx hb hX hbl hbA hZ.2.2.2.1 rfl (by omega) hL (lv_at hl 0 rfl) (lv_at hl 4 rfl) dL_law_1607 dL_law_1608 dL_law_1610 dL_law_1611 dL_law_1612 ?_
  refine gl_arg (j := 5) hx hb hX hbl hbA hZ.2.2.2.1 rfl (by omega) hL (lv_at hl 0 rfl) (lv_at hl 4 rfl) dL_law_1613 dL_law_1614 dL_law_1616 dL_law_1617 dL_law_1618 ?_
  refine lv_aload_n hx hb dL_law_1619 rfl (lv_at hl 3 rfl) ?_
  refine gl_w (code := (nI k)) (As := [.ref (a0 0), .int (xs (i + 1)), .int (xs (i + 2)), .int (xs (i + 3)), .int (xs (i + 4)), .int (xs (i + 5)), .ref o]) (rest := []) C0 hN hZ (gW_gate l hfl e1 (gk2 hk)) wL_gate rfl rfl hl.1 (Nat.zero_le _) ⟨Nat.le_of_ble_eq_true rfl, Nat.le_of_ble_eq_true rfl⟩ dL_law_1620 ⟨Nat.le_trans (by omega : cells + 1 ≤ cells + 2) hc.1, Nat.le_trans (by omega : slots + 6 ≤ slots + 12) hc.2⟩ (fun f1 H1 locs1 hf1 hZ1 => ?_)
  refine lv_istore (lv' := [(5, .int (nI k)), (0, .ref sb), (1, .ref (a0 0)), (2, .ref (a1 0)), (3, .ref o), (4, .int (nI i))]) hx hb dL_law_1623 hl (by decide) rfl (fun ls hl => ?_)
  replace hZ := hZ1
  clear hZ1
  refine lv_aload_n hx hb dL_law_1625 rfl (lv_at hl 3 rfl) ?_
  refine gl_arg (j := 1) hx hb hX hbl hbA hZ.2.2.2.1 rfl (by omega) hL (lv_at hl 1 rfl) (lv_at hl 5 rfl) dL_law_1626 dL_law_1627 dL_law_1629 dL_law_1630 dL_law_1631 ?_
  refine gl_arg (j := 2) hx hb hX hbl hbA hZ.2.2.2.1 rfl (by omega) hL (lv_at hl 1 rfl) (lv_at hl 5 rfl) dL_law_1632 dL_law_1633 dL_law_1635 dL_law_1636 dL_law_1637 ?_
  refine gl_arg (j := 3) hx hb hX hbl hbA hZ.2.2.2.1 rfl (by omega) hL (lv_at hl 1 rfl) (lv_at hl 5 rfl) dL_law_1638 dL_law_1639 dL_law_1641 dL_law_1642 dL_law_1643 ?_
  refine gl_arg (j := 4) hx hb hX hbl hbA hZ.2.2.2.1 rfl (by omega) hL (lv_at hl 1 rfl) (lv_at hl 5 rfl) dL_law_1644 dL_law_1645 dL_law_1647 dL_law_1648 dL_law_1649 ?_
  refine gl_arg (j := 5) hx hb hX hbl hbA hZ.2.2.2.1 rfl (by omega) hL (lv_at hl 1 rfl) (lv_at hl 5 rfl) dL_law_1650 dL_law_1651 dL_law_1653 dL_law_1654 dL_law_1655 ?_
  refine gl_ci (L := 1) (is := [0, 1]) (As := [.int (xs (i + 1)), .int (xs (i + 2)), .int (xs (i + 3)), .int (xs (i + 4)), .int (xs (i + 5))]) (rest := []) C0 hZ.re rfl rfl (kX8_gate l  rfl e2) mL8_gate vL8_gate rfl rfl hl.1 (Nat.zero_le _) ⟨Nat.le_of_ble_eq_true rfl, Nat.le_of_ble_eq_true rfl⟩ dL_law_1656 ⟨Nat.le_trans (by omega : cells + 1 ≤ cells + 2) hc.1, Nat.le_trans (by omega : slots + 6 ≤ slots + 12) hc.2⟩ (fun H1 locs1 hZ1 => ?_)
  exact gl_tail C0 hZ1.er hl hth (fun h => by rw [← hr (gk0 hk h)]; exact hf1 (gk0 hk h)) ⟨Nat.le_of_ble_eq_true rfl, Nat.le_of_ble_eq_true rfl⟩ ⟨Nat.le_trans (by omega : cells + 1 ≤ cells + 2) hc.1, Nat.le_trans (by omega : slots + 6 ≤ slots + 12) hc.2⟩ dL_law_1659 dL_law_1661 dL_law_1662 dL_law_1665 dL_law_1667 dL_law_1672 dL_law_1674 dL_law_1677 dL_law_1678 dL_law_1679 dL_law_1680 dL_law_1682 dL_law_1683 dL_law_1684 dL_law_1689 (by decide) (fun H2 locs2 ls2 hZ2 hl2 => W.widen (by omega) (by omega) (kk σ1 τ1 f1 H2 locs2 ls2 hR1 hZ2 hl2))
set_option maxHeartbeats 4000000 in
theorem gc_miss (X : gFx p l s m c args sb L xs) (hi : i + 6 ≤ L) (hRR : RR σ τ) (hZ : gZ V (gtL V cL) (fun q => s.heap.size ≤ q) (gwL V a0 a1 cL o σ τ f) s H locs) (hl : lv_has ls 7 (gLs sb a0 a1 o i)) (hc : cells + 2 ≤ 601024 ∧ slots + 12 ≤ 7293034) (kk : gNx p l e s m args below meth c Q V cL o a0 a1 sb i (cells + 2) (slots + 12)) : W p l e room_1 s m args below meth c H locs cells slots Q (F0 m 1692 ls []) := by
  obtain ⟨hfl, C0, hN, hX, hbl, hL⟩ := X
  have hx := C0.1
  have hb := C0.2.1
  have hbA : ¬ (fun q => s.heap.size ≤ q) sb := Nat.not_le.mpr hbl
  obtain ⟨r, σ1, τ1, e1, e2, hR1⟩ := rel_miss hRR (xs (i + 1)) (xs (i + 2))
  refine lv_aload_n hx hb dL_law_1692 rfl (lv_at hl 1 rfl) ?_
  refine gl_arg (j := 1) hx hb hX hbl hbA hZ.2.2.2.1 rfl (by omega) hL (lv_at hl 0 rfl) (lv_at hl 4 rfl) dL_law_1693 dL_law_1694 dL_law_1696 dL_law_1697 dL_law_1698 ?_
  refine gl_arg (j := 2) hx hb hX hbl hbA hZ.2.2.2.1 rfl (by omega) hL (lv_at hl 0 rfl) (lv_at hl 4 rfl) dL_law_1699 dL_law_1700 dL_law_1702 dL_law_1703 dL_law_1704 ?_
  refine gl_ci (L := 0) (is := [0]) (As := [.int (xs (i + 1)), .int (xs (i + 2))]) (rest := []) C0 hZ rfl rfl (kX7_miss l  rfl e1) mL7_miss vL7_miss rfl rfl hl.1 (Nat.zero_le _) ⟨Nat.le_of_ble_eq_true rfl, Nat.le_of_ble_eq_true rfl⟩ dL_law_1705 ⟨Nat.le_trans (by omega : cells ≤ cells + 2) hc.1, Nat.le_trans (by omega : slots ≤ slots + 12) hc.2⟩ (fun H1 locs1 hZ1 => ?_)
  replace hZ := hZ1
  clear hZ1
  refine lv_aload_n hx hb dL_law_1708 rfl (lv_at hl 2 rfl) ?_
  refine gl_arg (j := 1) hx hb hX hbl hbA hZ.2.2.2.1 rfl (by omega) hL (lv_at hl 0 rfl) (lv_at hl 4 rfl) dL_law_1709 dL_law_1710 dL_law_1712 dL_law_1713 dL_law_1714 ?_
  refine gl_arg (j := 2) hx hb hX hbl hbA hZ.2.2.2.1 rfl (by omega) hL (lv_at hl 0 rfl) (lv_at hl 4 rfl) dL_law_1715 dL_law_1716 dL_law_1718 dL_law_1719 dL_law_1720 ?_
  refine gl_ci (L := 1) (is := [0, 1]) (As := [.int (xs (i + 1)), .int (xs (i + 2))]) (rest := [.int r]) C0 hZ.re rfl rfl (kX8_miss l  rfl e2) mL8_miss vL8_miss rfl rfl hl.1 (Nat.le_of_ble_eq_true rfl) ⟨Nat.le_of_ble_eq_true rfl, Nat.le_of_ble_eq_true rfl⟩ dL_law_1721 ⟨Nat.le_trans (by omega : cells ≤ cells + 2) hc.1, Nat.le_trans (by omega : slots ≤ slots + 12) hc.2⟩ (fun H1 locs1 hZ1 => ?_)
  exact lv_icmp_eq (tgt := 1956) hx hb dL_law_1724 (by decide) (fun _ => W.widen (by omega) (by omega) (kk σ1 τ1 f H1 locs1 ls hR1 hZ1.er hl)) (fun h => absurd rfl h)
set_option maxHeartbeats 4000000 in
theorem gc_forget (X : gFx p l s m c args sb L xs) (hi : i + 6 ≤ L) (hRR : RR σ τ) (hZ : gZ V (gtL V cL) (fun q => s.heap.size ≤ q) (gwL V a0 a1 cL o σ τ f) s H locs) (hl : lv_has ls 7 (gLs sb a0 a1 o i)) (hc : cells + 2 ≤ 601024 ∧ slots + 12 ≤ 7293034) (kk : gNx p l e s m args below meth c Q V cL o a0 a1 sb i (cells + 2) (slots + 12)) : W p l e room_1 s m args below meth c H locs cells slots Q (F0 m 1729 ls []) := by
  obtain ⟨hfl, C0, hN, hX, hbl, hL⟩ := X
  have hx := C0.1
  have hb := C0.2.1
  have hbA : ¬ (fun q => s.heap.size ≤ q) sb := Nat.not_le.mpr hbl
  obtain ⟨r, σ1, τ1, e1, e2, hR1⟩ := rel_forget hRR 
  refine lv_aload_n hx hb dL_law_1729 rfl (lv_at hl 1 rfl) ?_
  refine gl_cv (L := 0) (is := [0]) (As := []) (rest := []) C0 hZ rfl rfl (kX7_forget l  rfl e1) mL7_forget vL7_forget rfl rfl hl.1 (Nat.zero_le _) ⟨Nat.le_of_ble_eq_true rfl, Nat.le_of_ble_eq_true rfl⟩ dL_law_1730 ⟨Nat.le_trans (by omega : cells ≤ cells + 2) hc.1, Nat.le_trans (by omega : slots ≤ slots + 12) hc.2⟩ (fun H1 locs1 hZ1 => ?_)
  replace hZ := hZ1
  clear hZ1
  refine lv_aload_n hx hb dL_law_1733 rfl (lv_at hl 2 rfl) ?_
  refine gl_cv (L := 1) (is := [0, 1]) (As := []) (rest := []) C0 hZ.re rfl rfl (kX8_forget l  rfl e2) mL8_forget vL8_forget rfl rfl hl.1 (Nat.le_of_ble_eq_true rfl) ⟨Nat.le_of_ble_eq_true rfl, Nat.le_of_ble_eq_true rfl⟩ dL_law_1734 ⟨Nat.le_trans (by omega : cells ≤ cells + 2) hc.1, Nat.le_trans (by omega : slots ≤ slots + 12) hc.2⟩ (fun H1 locs1 hZ1 => ?_)
  exact lv_goto (tgt := 1956) hx hb dL_law_1737 (by decide) (W.widen (by omega) (by omega) (kk σ1 τ1 f H1 locs1 ls hR1 hZ1.er hl))
set_option maxHeartbeats 4000000 in
theorem gc_who (X : gFx p l s m c args sb L xs) (hi : i + 6 ≤ L) (hRR : RR σ τ) (hZ : gZ V (gtL V cL) (fun q => s.heap.size ≤ q) (gwL V a0 a1 cL o σ τ f) s H locs) (hl : lv_has ls 7 (gLs sb a0 a1 o i)) (hc : cells + 2 ≤ 601024 ∧ slots + 12 ≤ 7293034) (kk : gNx p l e s m args below meth c Q V cL o a0 a1 sb i (cells + 2) (slots + 12)) : W p l e room_1 s m args below meth c H locs cells slots Q (F0 m 1740 ls []) := by
  obtain ⟨hfl, C0, hN, hX, hbl, hL⟩ := X
  have hx := C0.1
  have hb := C0.2.1
  have hbA : ¬ (fun q => s.heap.size ≤ q) sb := Nat.not_le.mpr hbl
  obtain ⟨k, r, σ1, b, τ1, e1, e2, hR1, hth, hk, hr⟩ := reN_who hRR (xs (i + 1))
  refine lv_aload_n hx hb dL_law_1740 rfl (lv_at hl 1 rfl) ?_
  refine gl_arg (j := 1) hx hb hX hbl hbA hZ.2.2.2.1 rfl (by omega) hL (lv_at hl 0 rfl) (lv_at hl 4 rfl) dL_law_1741 dL_law_1742 dL_law_1744 dL_law_1745 dL_law_1746 ?_
  refine lv_aload_n hx hb dL_law_1747 rfl (lv_at hl 3 rfl) ?_
  refine gl_w (code := (nI k)) (As := [.ref (a0 0), .int (xs (i + 1)), .ref o]) (rest := []) C0 hN hZ (gW_who l hfl e1 (gk1 hk)) wL_who rfl rfl hl.1 (Nat.zero_le _) ⟨Nat.le_of_ble_eq_true rfl, Nat.le_of_ble_eq_true rfl⟩ dL_law_1748 ⟨Nat.le_trans (by omega : cells + 1 ≤ cells + 2) hc.1, Nat.le_trans (by omega : slots + 6 ≤ slots + 12) hc.2⟩ (fun f1 H1 locs1 hf1 hZ1 => ?_)
  refine lv_istore (lv' := [(5, .int (nI k)), (0, .ref sb), (1, .ref (a0 0)), (2, .ref (a1 0)), (3, .ref o), (4, .int (nI i))]) hx hb dL_law_1751 hl (by decide) rfl (fun ls hl => ?_)
  replace hZ := hZ1
  clear hZ1
  refine lv_aload_n hx hb dL_law_1753 rfl (lv_at hl 3 rfl) ?_
  refine gl_arg (j := 1) hx hb hX hbl hbA hZ.2.2.2.1 rfl (by omega) hL (lv_at hl 1 rfl) (lv_at hl 5 rfl) dL_law_1754 dL_law_1755 dL_law_1757 dL_law_1758 dL_law_1759 ?_
  refine gl_ci (L := 1) (is := [0, 1]) (As := [.int (xs (i + 1))]) (rest := []) C0 hZ.re rfl rfl (kX8_who l  rfl e2) mL8_who vL8_who rfl rfl hl.1 (Nat.zero_le _) ⟨Nat.le_of_ble_eq_true rfl, Nat.le_of_ble_eq_true rfl⟩ dL_law_1760 ⟨Nat.le_trans (by omega : cells + 1 ≤ cells + 2) hc.1, Nat.le_trans (by omega : slots + 6 ≤ slots + 12) hc.2⟩ (fun H1 locs1 hZ1 => ?_)
  exact gl_tail C0 hZ1.er hl hth (fun h => by rw [← hr (gk0 (Nat.le_trans hk (by omega)) h)]; exact hf1 (gk0 (Nat.le_trans hk (by omega)) h)) ⟨Nat.le_of_ble_eq_true rfl, Nat.le_of_ble_eq_true rfl⟩ ⟨Nat.le_trans (by omega : cells + 1 ≤ cells + 2) hc.1, Nat.le_trans (by omega : slots + 6 ≤ slots + 12) hc.2⟩ dL_law_1763 dL_law_1765 dL_law_1766 dL_law_1769 dL_law_1771 dL_law_1776 dL_law_1778 dL_law_1781 dL_law_1782 dL_law_1783 dL_law_1784 dL_law_1786 dL_law_1787 dL_law_1788 dL_law_1793 (by decide) (fun H2 locs2 ls2 hZ2 hl2 => W.widen (by omega) (by omega) (kk σ1 τ1 f1 H2 locs2 ls2 hR1 hZ2 hl2))
set_option maxHeartbeats 4000000 in
theorem gc_game (X : gFx p l s m c args sb L xs) (hi : i + 6 ≤ L) (hRR : RR σ τ) (hZ : gZ V (gtL V cL) (fun q => s.heap.size ≤ q) (gwL V a0 a1 cL o σ τ f) s H locs) (hl : lv_has ls 7 (gLs sb a0 a1 o i)) (hc : cells + 2 ≤ 601024 ∧ slots + 12 ≤ 7293034) (kk : gNx p l e s m args below meth c Q V cL o a0 a1 sb i (cells + 2) (slots + 12)) : W p l e room_1 s m args below meth c H locs cells slots Q (F0 m 1796 ls []) := by
  obtain ⟨hfl, C0, hN, hX, hbl, hL⟩ := X
  have hx := C0.1
  have hb := C0.2.1
  have hbA : ¬ (fun q => s.heap.size ≤ q) sb := Nat.not_le.mpr hbl
  obtain ⟨k, r, σ1, b, τ1, e1, e2, hR1, hth, hk, hr⟩ := reN_game hRR (xs (i + 1))
  refine lv_aload_n hx hb dL_law_1796 rfl (lv_at hl 1 rfl) ?_
  refine gl_arg (j := 1) hx hb hX hbl hbA hZ.2.2.2.1 rfl (by omega) hL (lv_at hl 0 rfl) (lv_at hl 4 rfl) dL_law_1797 dL_law_1798 dL_law_1800 dL_law_1801 dL_law_1802 ?_
  refine lv_aload_n hx hb dL_law_1803 rfl (lv_at hl 3 rfl) ?_
  refine gl_w (code := (nI k)) (As := [.ref (a0 0), .int (xs (i + 1)), .ref o]) (rest := []) C0 hN hZ (gW_game l hfl e1 (gk1 hk)) wL_game rfl rfl hl.1 (Nat.zero_le _) ⟨Nat.le_of_ble_eq_true rfl, Nat.le_of_ble_eq_true rfl⟩ dL_law_1804 ⟨Nat.le_trans (by omega : cells + 1 ≤ cells + 2) hc.1, Nat.le_trans (by omega : slots + 6 ≤ slots + 12) hc.2⟩ (fun f1 H1 locs1 hf1 hZ1 => ?_)
  refine lv_istore (lv' := [(5, .int (nI k)), (0, .ref sb), (1, .ref (a0 0)), (2, .ref (a1 0)), (3, .ref o), (4, .int (nI i))]) hx hb dL_law_1807 hl (by decide) rfl (fun ls hl => ?_)
  replace hZ := hZ1
  clear hZ1
  refine lv_aload_n hx hb dL_law_1809 rfl (lv_at hl 3 rfl) ?_
  refine gl_arg (j := 1) hx hb hX hbl hbA hZ.2.2.2.1 rfl (by omega) hL (lv_at hl 1 rfl) (lv_at hl 5 rfl) dL_law_1810 dL_law_1811 dL_law_1813 dL_law_1814 dL_law_1815 ?_
  refine gl_ci (L := 1) (is := [0, 1]) (As := [.int (xs (i + 1))]) (rest := []) C0 hZ.re rfl rfl (kX8_game l  rfl e2) mL8_game vL8_game rfl rfl hl.1 (Nat.zero_le _) ⟨Nat.le_of_ble_eq_true rfl, Nat.le_of_ble_eq_true rfl⟩ dL_law_1816 ⟨Nat.le_trans (by omega : cells + 1 ≤ cells + 2) hc.1, Nat.le_trans (by omega : slots + 6 ≤ slots + 12) hc.2⟩ (fun H1 locs1 hZ1 => ?_)
  exact gl_tail C0 hZ1.er hl hth (fun h => by rw [← hr (gk0 (Nat.le_trans hk (by omega)) h)]; exact hf1 (gk0 (Nat.le_trans hk (by omega)) h)) ⟨Nat.le_of_ble_eq_true rfl, Nat.le_of_ble_eq_true rfl⟩ ⟨Nat.le_trans (by omega : cells + 1 ≤ cells + 2) hc.1, Nat.le_trans (by omega : slots + 6 ≤ slots + 12) hc.2⟩ dL_law_1819 dL_law_1821 dL_law_1822 dL_law_1825 dL_law_1827 dL_law_1832 dL_law_1834 dL_law_1837 dL_law_1838 dL_law_1839 dL_law_1840 dL_law_1842 dL_law_1843 dL_law_1844 dL_law_1849 (by decide) (fun H2 locs2 ls2 hZ2 hl2 => W.widen (by omega) (by omega) (kk σ1 τ1 f1 H2 locs2 ls2 hR1 hZ2 hl2))
set_option maxHeartbeats 4000000 in
theorem gc_weeks (X : gFx p l s m c args sb L xs) (hi : i + 6 ≤ L) (hRR : RR σ τ) (hZ : gZ V (gtL V cL) (fun q => s.heap.size ≤ q) (gwL V a0 a1 cL o σ τ f) s H locs) (hl : lv_has ls 7 (gLs sb a0 a1 o i)) (hc : cells + 2 ≤ 601024 ∧ slots + 12 ≤ 7293034) (kk : gNx p l e s m args below meth c Q V cL o a0 a1 sb i (cells + 2) (slots + 12)) : W p l e room_1 s m args below meth c H locs cells slots Q (F0 m 1852 ls []) := by
  obtain ⟨hfl, C0, hN, hX, hbl, hL⟩ := X
  have hx := C0.1
  have hb := C0.2.1
  have hbA : ¬ (fun q => s.heap.size ≤ q) sb := Nat.not_le.mpr hbl
  obtain ⟨k, r, σ1, b, τ1, e1, e2, hR1, hth, hk, hr⟩ := rel_weeks hRR (xs (i + 1)) (xs (i + 2)) (xs (i + 3))
  refine lv_aload_n hx hb dL_law_1852 rfl (lv_at hl 1 rfl) ?_
  refine gl_arg (j := 1) hx hb hX hbl hbA hZ.2.2.2.1 rfl (by omega) hL (lv_at hl 0 rfl) (lv_at hl 4 rfl) dL_law_1853 dL_law_1854 dL_law_1856 dL_law_1857 dL_law_1858 ?_
  refine gl_arg (j := 2) hx hb hX hbl hbA hZ.2.2.2.1 rfl (by omega) hL (lv_at hl 0 rfl) (lv_at hl 4 rfl) dL_law_1859 dL_law_1860 dL_law_1862 dL_law_1863 dL_law_1864 ?_
  refine gl_arg (j := 3) hx hb hX hbl hbA hZ.2.2.2.1 rfl (by omega) hL (lv_at hl 0 rfl) (lv_at hl 4 rfl) dL_law_1865 dL_law_1866 dL_law_1868 dL_law_1869 dL_law_1870 ?_
  refine lv_aload_n hx hb dL_law_1871 rfl (lv_at hl 3 rfl) ?_
  refine gl_w (code := (nI k)) (As := [.ref (a0 0), .int (xs (i + 1)), .int (xs (i + 2)), .int (xs (i + 3)), .ref o]) (rest := []) C0 hN hZ (gW_weeks l hfl e1 (gk2 hk)) wL_weeks rfl rfl hl.1 (Nat.zero_le _) ⟨Nat.le_of_ble_eq_true rfl, Nat.le_of_ble_eq_true rfl⟩ dL_law_1872 ⟨Nat.le_trans (by omega : cells + 1 ≤ cells + 2) hc.1, Nat.le_trans (by omega : slots + 6 ≤ slots + 12) hc.2⟩ (fun f1 H1 locs1 hf1 hZ1 => ?_)
  refine lv_istore (lv' := [(5, .int (nI k)), (0, .ref sb), (1, .ref (a0 0)), (2, .ref (a1 0)), (3, .ref o), (4, .int (nI i))]) hx hb dL_law_1875 hl (by decide) rfl (fun ls hl => ?_)
  replace hZ := hZ1
  clear hZ1
  refine lv_aload_n hx hb dL_law_1877 rfl (lv_at hl 3 rfl) ?_
  refine gl_arg (j := 1) hx hb hX hbl hbA hZ.2.2.2.1 rfl (by omega) hL (lv_at hl 1 rfl) (lv_at hl 5 rfl) dL_law_1878 dL_law_1879 dL_law_1881 dL_law_1882 dL_law_1883 ?_
  refine gl_arg (j := 2) hx hb hX hbl hbA hZ.2.2.2.1 rfl (by omega) hL (lv_at hl 1 rfl) (lv_at hl 5 rfl) dL_law_1884 dL_law_1885 dL_law_1887 dL_law_1888 dL_law_1889 ?_
  refine gl_arg (j := 3) hx hb hX hbl hbA hZ.2.2.2.1 rfl (by omega) hL (lv_at hl 1 rfl) (lv_at hl 5 rfl) dL_law_1890 dL_law_1891 dL_law_1893 dL_law_1894 dL_law_1895 ?_
  refine gl_ci (L := 1) (is := [0, 1]) (As := [.int (xs (i + 1)), .int (xs (i + 2)), .int (xs (i + 3))]) (rest := []) C0 hZ.re rfl rfl (kX8_weeks l  rfl e2) mL8_weeks vL8_weeks rfl rfl hl.1 (Nat.zero_le _) ⟨Nat.le_of_ble_eq_true rfl, Nat.le_of_ble_eq_true rfl⟩ dL_law_1896 ⟨Nat.le_trans (by omega : cells + 1 ≤ cells + 2) hc.1, Nat.le_trans (by omega : slots + 6 ≤ slots + 12) hc.2⟩ (fun H1 locs1 hZ1 => ?_)
  exact gl_tail C0 hZ1.er hl hth (fun h => by rw [← hr (gk0 hk h)]; exact hf1 (gk0 hk h)) ⟨Nat.le_of_ble_eq_true rfl, Nat.le_of_ble_eq_true rfl⟩ ⟨Nat.le_trans (by omega : cells + 1 ≤ cells + 2) hc.1, Nat.le_trans (by omega : slots + 6 ≤ slots + 12) hc.2⟩ dL_law_1899 dL_law_1901 dL_law_1902 dL_law_1905 dL_law_1907 dL_law_1912 dL_law_1914 dL_law_1917 dL_law_1918 dL_law_1919 dL_law_1920 dL_law_1922 dL_law_1923 dL_law_1924 dL_law_1929 (by decide) (fun H2 locs2 ls2 hZ2 hl2 => W.widen (by omega) (by omega) (kk σ1 τ1 f1 H2 locs2 ls2 hR1 hZ2 hl2))
set_option maxHeartbeats 4000000 in
theorem gc_image (X : gFx p l s m c args sb L xs) (hi : i + 6 ≤ L) (hRR : RR σ τ) (hZ : gZ V (gtL V cL) (fun q => s.heap.size ≤ q) (gwL V a0 a1 cL o σ τ f) s H locs) (hl : lv_has ls 7 (gLs sb a0 a1 o i)) (hc : cells + 2 ≤ 601024 ∧ slots + 12 ≤ 7293034) (kk : gNx p l e s m args below meth c Q V cL o a0 a1 sb i (cells + 2) (slots + 12)) : W p l e room_1 s m args below meth c H locs cells slots Q (F0 m 1932 ls []) := by
  obtain ⟨hfl, C0, hN, hX, hbl, hL⟩ := X
  have hx := C0.1
  have hb := C0.2.1
  have hbA : ¬ (fun q => s.heap.size ≤ q) sb := Nat.not_le.mpr hbl
  obtain ⟨r, σ1, τ1, e1, e2, hR1⟩ := rel_image hRR 
  refine lv_aload_n hx hb dL_law_1932 rfl (lv_at hl 1 rfl) ?_
  refine gl_cv (L := 0) (is := [0]) (As := []) (rest := []) C0 hZ rfl rfl (kX7_image l  rfl e1) mL7_image vL7_image rfl rfl hl.1 (Nat.zero_le _) ⟨Nat.le_of_ble_eq_true rfl, Nat.le_of_ble_eq_true rfl⟩ dL_law_1933 ⟨Nat.le_trans (by omega : cells ≤ cells + 2) hc.1, Nat.le_trans (by omega : slots ≤ slots + 12) hc.2⟩ (fun H1 locs1 hZ1 => ?_)
  replace hZ := hZ1
  clear hZ1
  refine lv_aload_n hx hb dL_law_1936 rfl (lv_at hl 2 rfl) ?_
  refine gl_cv (L := 1) (is := [0, 1]) (As := []) (rest := []) C0 hZ.re rfl rfl (kX8_image l  rfl e2) mL8_image vL8_image rfl rfl hl.1 (Nat.le_of_ble_eq_true rfl) ⟨Nat.le_of_ble_eq_true rfl, Nat.le_of_ble_eq_true rfl⟩ dL_law_1937 ⟨Nat.le_trans (by omega : cells ≤ cells + 2) hc.1, Nat.le_trans (by omega : slots ≤ slots + 12) hc.2⟩ (fun H1 locs1 hZ1 => ?_)
  exact lv_goto (tgt := 1956) hx hb dL_law_1940 (by decide) (W.widen (by omega) (by omega) (kk σ1 τ1 f H1 locs1 ls hR1 hZ1.er hl))
set_option maxHeartbeats 4000000 in
theorem gc_restore (X : gFx p l s m c args sb L xs) (hi : i + 6 ≤ L) (hRR : RR σ τ) (hZ : gZ V (gtL V cL) (fun q => s.heap.size ≤ q) (gwL V a0 a1 cL o σ τ f) s H locs) (hl : lv_has ls 7 (gLs sb a0 a1 o i)) (hc : cells + 2 ≤ 601024 ∧ slots + 12 ≤ 7293034) (kk : gNx p l e s m args below meth c Q V cL o a0 a1 sb i (cells + 2) (slots + 12)) : W p l e room_1 s m args below meth c H locs cells slots Q (F0 m 1943 ls []) := by
  obtain ⟨hfl, C0, hN, hX, hbl, hL⟩ := X
  have hx := C0.1
  have hb := C0.2.1
  have hbA : ¬ (fun q => s.heap.size ≤ q) sb := Nat.not_le.mpr hbl
  obtain ⟨r, σ1, τ1, e1, e2, hR1⟩ := rel_restore hRR 
  refine lv_aload_n hx hb dL_law_1943 rfl (lv_at hl 1 rfl) ?_
  refine gl_ci (L := 0) (is := [0]) (As := []) (rest := []) C0 hZ rfl rfl (kX7_restore l  rfl e1) mL7_restore vL7_restore rfl rfl hl.1 (Nat.zero_le _) ⟨Nat.le_of_ble_eq_true rfl, Nat.le_of_ble_eq_true rfl⟩ dL_law_1944 ⟨Nat.le_trans (by omega : cells ≤ cells + 2) hc.1, Nat.le_trans (by omega : slots ≤ slots + 12) hc.2⟩ (fun H1 locs1 hZ1 => ?_)
  replace hZ := hZ1
  clear hZ1
  refine lv_aload_n hx hb dL_law_1947 rfl (lv_at hl 2 rfl) ?_
  refine gl_ci (L := 1) (is := [0, 1]) (As := []) (rest := [.int r]) C0 hZ.re rfl rfl (kX8_restore l  rfl e2) mL8_restore vL8_restore rfl rfl hl.1 (Nat.le_of_ble_eq_true rfl) ⟨Nat.le_of_ble_eq_true rfl, Nat.le_of_ble_eq_true rfl⟩ dL_law_1948 ⟨Nat.le_trans (by omega : cells ≤ cells + 2) hc.1, Nat.le_trans (by omega : slots ≤ slots + 12) hc.2⟩ (fun H1 locs1 hZ1 => ?_)
  exact lv_icmp_eq (tgt := 1956) hx hb dL_law_1951 (by decide) (fun _ => W.widen (by omega) (by omega) (kk σ1 τ1 f H1 locs1 ls hR1 hZ1.er hl)) (fun h => absurd rfl h)
end GC
