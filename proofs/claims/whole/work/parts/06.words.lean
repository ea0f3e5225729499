theorem z_inp {ws : List Cond} (ps : List Nat) (hp : ws = ps.filterMap (fun i => lw_tbl[i]?)) (hk : ws.all zok = true) : ∀ w ∈ ws, w ∈ zT := by
  intro w hw
  have h1 := List.all_eq_true.mp hk w hw
  rw [hp] at hw
  obtain ⟨i, -, hi⟩ := List.mem_filterMap.mp hw
  exact zmem i hi h1
theorem zkd_lt {L q ck : Nat} (h : kd L q = ck) (hc : ck < 200 := by decide) : q < 2 ^ 31 := by
  have h1 := kd_lt (L := L) (k := q) (by omega)
  have h2 : nC L ≤ 82 := by cases L with | zero => decide | succ L => exact (by decide : zkd1.length ≤ 82)
  omega
theorem zin0 : ∀ w ∈ u_ws RX0 TX0 18, w ∈ zT := z_inp [496, 498, 500, 502, 504, 506, 508, 510, 512, 514, 516, 518, 520, 522, 524, 526, 528, 530] (by decide +kernel) (by decide +kernel)
theorem zin1 : ∀ w ∈ u_ws RX1 TX1 8, w ∈ zT := z_inp [211, 213, 215, 217, 219, 221, 223, 225] (by decide +kernel) (by decide +kernel)
theorem zin2 : ∀ w ∈ u_ws RX2 TX2 7, w ∈ zT := z_inp [260, 262, 264, 266, 268, 270, 272] (by decide +kernel) (by decide +kernel)
theorem zin3 : ∀ w ∈ u_ws RX3 TX3 10, w ∈ zT := z_inp [361, 363, 365, 367, 369, 371, 373, 375, 377, 379] (by decide +kernel) (by decide +kernel)
theorem zin4 : ∀ w ∈ u_ws RX4 TX4 6, w ∈ zT := z_inp [290, 292, 294, 296, 298, 300] (by decide +kernel) (by decide +kernel)
theorem zin5 : ∀ w ∈ u_ws RX5 TX5 6, w ∈ zT := z_inp [328, 330, 332, 334, 336, 338] (by decide +kernel) (by decide +kernel)
theorem zin6 : ∀ w ∈ u_ws RX6 TX6 17, w ∈ zT := z_inp [427, 429, 431, 433, 435, 437, 439, 441, 443, 445, 447, 449, 451, 453, 455, 457, 459] (by decide +kernel) (by decide +kernel)
theorem zin7 : ∀ w ∈ u_ws RX7 TX7 14, w ∈ zT := z_inp [547, 549, 551, 553, 555, 557, 559, 561, 563, 565, 567, 569, 571, 573] (by decide +kernel) (by decide +kernel)
theorem zin8 : ∀ w ∈ u_ws RX8 TX8 83, w ∈ zT := z_inp [1487, 1489, 1491, 1493, 1495, 1497, 1499, 1501, 1503, 1505, 1507, 1509, 1511, 1513, 1515, 1517, 1519, 1521, 1523, 1525, 1527, 1529, 1531, 1533, 1535, 1537, 1539, 1541, 1543, 1545, 1547, 1549, 1551, 1553, 1555, 1557, 1559, 1561, 1563, 1565, 1567, 1569, 1571, 1573, 1575, 1577, 1579, 1581, 1583, 1585, 1587, 1589, 1591, 1593, 1595, 1597, 1599, 1601, 1603, 1605, 1607, 1609, 1611, 1613, 1615, 1617, 1619, 1621, 1623, 1625, 1627, 1629, 1631, 1633, 1635, 1637, 1639, 1641, 1643, 1645, 1647, 1649, 1651] (by decide +kernel) (by decide +kernel)
theorem zkt0_6 {k : Nat} (h : kd 0 k = 0) : kd 0 (k + 1) = 100 := (by decide +kernel : ∀ k, k < nC 0 → kd 0 k = 0 → kd 0 (k + 1) = 100) k (kd_lt (by omega)) h
theorem zkt0_7 {k : Nat} (h : kd 0 k = 0) : kd 0 (k + 2) = 100 := (by decide +kernel : ∀ k, k < nC 0 → kd 0 k = 0 → kd 0 (k + 2) = 100) k (kd_lt (by omega)) h
theorem zkt0_8 {k : Nat} (h : kd 0 k = 0) : kd 0 (k + 3) = 100 := (by decide +kernel : ∀ k, k < nC 0 → kd 0 k = 0 → kd 0 (k + 3) = 100) k (kd_lt (by omega)) h
theorem zkt0_9 {k : Nat} (h : kd 0 k = 0) : kd 0 (k + 4) = 100 := (by decide +kernel : ∀ k, k < nC 0 → kd 0 k = 0 → kd 0 (k + 4) = 100) k (kd_lt (by omega)) h
theorem zkt0_10 {k : Nat} (h : kd 0 k = 0) : kd 0 (k + 5) = 100 := (by decide +kernel : ∀ k, k < nC 0 → kd 0 k = 0 → kd 0 (k + 5) = 100) k (kd_lt (by omega)) h
theorem zkt0_11 {k : Nat} (h : kd 0 k = 0) : kd 0 (k + 6) = 100 := (by decide +kernel : ∀ k, k < nC 0 → kd 0 k = 0 → kd 0 (k + 6) = 100) k (kd_lt (by omega)) h
theorem zkt0_14 {k : Nat} (h : kd 0 k = 0) : kd 0 (k + 7) = 100 := (by decide +kernel : ∀ k, k < nC 0 → kd 0 k = 0 → kd 0 (k + 7) = 100) k (kd_lt (by omega)) h
theorem zkt0_15 {k : Nat} (h : kd 0 k = 0) : kd 0 (k + 8) = 100 := (by decide +kernel : ∀ k, k < nC 0 → kd 0 k = 0 → kd 0 (k + 8) = 100) k (kd_lt (by omega)) h
theorem zkt0_16 {k : Nat} (h : kd 0 k = 0) : kd 0 (k + 9) = 100 := (by decide +kernel : ∀ k, k < nC 0 → kd 0 k = 0 → kd 0 (k + 9) = 100) k (kd_lt (by omega)) h
theorem zkt0_17 {k : Nat} (h : kd 0 k = 0) : kd 0 (k + 10) = 100 := (by decide +kernel : ∀ k, k < nC 0 → kd 0 k = 0 → kd 0 (k + 10) = 100) k (kd_lt (by omega)) h
theorem zkt1_3 {k : Nat} (h : kd 0 k = 1) : kd 0 (k + 1) = 100 := (by decide +kernel : ∀ k, k < nC 0 → kd 0 k = 1 → kd 0 (k + 1) = 100) k (kd_lt (by omega)) h
theorem zkt1_4 {k : Nat} (h : kd 0 k = 1) : kd 0 (k + 2) = 100 := (by decide +kernel : ∀ k, k < nC 0 → kd 0 k = 1 → kd 0 (k + 2) = 100) k (kd_lt (by omega)) h
theorem zkt1_5 {k : Nat} (h : kd 0 k = 1) : kd 0 (k + 3) = 100 := (by decide +kernel : ∀ k, k < nC 0 → kd 0 k = 1 → kd 0 (k + 3) = 100) k (kd_lt (by omega)) h
theorem zkt1_6 {k : Nat} (h : kd 0 k = 1) : kd 0 (k + 4) = 100 := (by decide +kernel : ∀ k, k < nC 0 → kd 0 k = 1 → kd 0 (k + 4) = 100) k (kd_lt (by omega)) h
theorem zkt1_7 {k : Nat} (h : kd 0 k = 1) : kd 0 (k + 5) = 100 := (by decide +kernel : ∀ k, k < nC 0 → kd 0 k = 1 → kd 0 (k + 5) = 100) k (kd_lt (by omega)) h
theorem zkt2_1 {k : Nat} (h : kd 0 k = 2) : kd 0 (k + 1) = 100 := (by decide +kernel : ∀ k, k < nC 0 → kd 0 k = 2 → kd 0 (k + 1) = 100) k (kd_lt (by omega)) h
theorem zkt2_2 {k : Nat} (h : kd 0 k = 2) : kd 0 (k + 2) = 100 := (by decide +kernel : ∀ k, k < nC 0 → kd 0 k = 2 → kd 0 (k + 2) = 100) k (kd_lt (by omega)) h
theorem zkt2_3 {k : Nat} (h : kd 0 k = 2) : kd 0 (k + 3) = 100 := (by decide +kernel : ∀ k, k < nC 0 → kd 0 k = 2 → kd 0 (k + 3) = 100) k (kd_lt (by omega)) h
theorem zkt2_4 {k : Nat} (h : kd 0 k = 2) : kd 0 (k + 4) = 100 := (by decide +kernel : ∀ k, k < nC 0 → kd 0 k = 2 → kd 0 (k + 4) = 100) k (kd_lt (by omega)) h
theorem zkt2_5 {k : Nat} (h : kd 0 k = 2) : kd 0 (k + 5) = 100 := (by decide +kernel : ∀ k, k < nC 0 → kd 0 k = 2 → kd 0 (k + 5) = 100) k (kd_lt (by omega)) h
theorem zkt2_6 {k : Nat} (h : kd 0 k = 2) : kd 0 (k + 6) = 100 := (by decide +kernel : ∀ k, k < nC 0 → kd 0 k = 2 → kd 0 (k + 6) = 100) k (kd_lt (by omega)) h
theorem zkt3_0 {k : Nat} (h : kd 0 k = 3) : kd 0 (k + 1) = 100 := (by decide +kernel : ∀ k, k < nC 0 → kd 0 k = 3 → kd 0 (k + 1) = 100) k (kd_lt (by omega)) h
theorem zkt4_2 {k : Nat} (h : kd 0 k = 4) : kd 0 (k + 1) = 100 := (by decide +kernel : ∀ k, k < nC 0 → kd 0 k = 4 → kd 0 (k + 1) = 100) k (kd_lt (by omega)) h
theorem zkt4_3 {k : Nat} (h : kd 0 k = 4) : kd 0 (k + 2) = 100 := (by decide +kernel : ∀ k, k < nC 0 → kd 0 k = 4 → kd 0 (k + 2) = 100) k (kd_lt (by omega)) h
theorem zkt4_4 {k : Nat} (h : kd 0 k = 4) : kd 0 (k + 3) = 100 := (by decide +kernel : ∀ k, k < nC 0 → kd 0 k = 4 → kd 0 (k + 3) = 100) k (kd_lt (by omega)) h
theorem zkt5_0 {k : Nat} (h : kd 0 k = 5) : kd 0 (k + 1) = 1 := (by decide +kernel : ∀ k, k < nC 0 → kd 0 k = 5 → kd 0 (k + 1) = 1) k (kd_lt (by omega)) h
theorem zkt5_1 {k : Nat} (h : kd 0 k = 5) : kd 0 (k + 7) = 2 := (by decide +kernel : ∀ k, k < nC 0 → kd 0 k = 5 → kd 0 (k + 7) = 2) k (kd_lt (by omega)) h
theorem zkt5_2 {k : Nat} (h : kd 0 k = 5) : kd 0 (k + 14) = 4 := (by decide +kernel : ∀ k, k < nC 0 → kd 0 k = 5 → kd 0 (k + 14) = 4) k (kd_lt (by omega)) h
theorem zkt6_6 {k : Nat} (h : kd 0 k = 6) : kd 0 (k + 1) = 100 := (by decide +kernel : ∀ k, k < nC 0 → kd 0 k = 6 → kd 0 (k + 1) = 100) k (kd_lt (by omega)) h
theorem zkt6_7 {k : Nat} (h : kd 0 k = 6) : kd 0 (k + 2) = 100 := (by decide +kernel : ∀ k, k < nC 0 → kd 0 k = 6 → kd 0 (k + 2) = 100) k (kd_lt (by omega)) h
theorem zkt6_9 {k : Nat} (h : kd 0 k = 6) : kd 0 (k + 3) = 100 := (by decide +kernel : ∀ k, k < nC 0 → kd 0 k = 6 → kd 0 (k + 3) = 100) k (kd_lt (by omega)) h
theorem zkt6_11 {k : Nat} (h : kd 0 k = 6) : kd 0 (k + 4) = 100 := (by decide +kernel : ∀ k, k < nC 0 → kd 0 k = 6 → kd 0 (k + 4) = 100) k (kd_lt (by omega)) h
theorem zkt6_12 {k : Nat} (h : kd 0 k = 6) : kd 0 (k + 5) = 100 := (by decide +kernel : ∀ k, k < nC 0 → kd 0 k = 6 → kd 0 (k + 5) = 100) k (kd_lt (by omega)) h
theorem zkt6_14 {k : Nat} (h : kd 0 k = 6) : kd 0 (k + 6) = 100 := (by decide +kernel : ∀ k, k < nC 0 → kd 0 k = 6 → kd 0 (k + 6) = 100) k (kd_lt (by omega)) h
theorem zkt6_15 {k : Nat} (h : kd 0 k = 6) : kd 0 (k + 7) = 100 := (by decide +kernel : ∀ k, k < nC 0 → kd 0 k = 6 → kd 0 (k + 7) = 100) k (kd_lt (by omega)) h
theorem zkt6_16 {k : Nat} (h : kd 0 k = 6) : kd 0 (k + 8) = 100 := (by decide +kernel : ∀ k, k < nC 0 → kd 0 k = 6 → kd 0 (k + 8) = 100) k (kd_lt (by omega)) h
theorem zkt7_3 {k : Nat} (h : kd 0 k = 7) : kd 0 (k + 4) = 3 := (by decide +kernel : ∀ k, k < nC 0 → kd 0 k = 7 → kd 0 (k + 4) = 3) k (kd_lt (by omega)) h
theorem zkt7_4 {k : Nat} (h : kd 0 k = 7) : kd 0 (k + 6) = 6 := (by decide +kernel : ∀ k, k < nC 0 → kd 0 k = 7 → kd 0 (k + 6) = 6) k (kd_lt (by omega)) h
theorem zkt7_5 {k : Nat} (h : kd 0 k = 7) : kd 0 (k + 15) = 6 := (by decide +kernel : ∀ k, k < nC 0 → kd 0 k = 7 → kd 0 (k + 15) = 6) k (kd_lt (by omega)) h
theorem zkt7_7 {k : Nat} (h : kd 0 k = 7) : kd 0 (k + 24) = 0 := (by decide +kernel : ∀ k, k < nC 0 → kd 0 k = 7 → kd 0 (k + 24) = 0) k (kd_lt (by omega)) h
theorem zkt7_8 {k : Nat} (h : kd 0 k = 7) : kd 0 (k + 35) = 0 := (by decide +kernel : ∀ k, k < nC 0 → kd 0 k = 7 → kd 0 (k + 35) = 0) k (kd_lt (by omega)) h
theorem zkt7_10 {k : Nat} (h : kd 0 k = 7) : kd 0 (k + 1) = 100 := (by decide +kernel : ∀ k, k < nC 0 → kd 0 k = 7 → kd 0 (k + 1) = 100) k (kd_lt (by omega)) h
theorem zkt7_11 {k : Nat} (h : kd 0 k = 7) : kd 0 (k + 2) = 100 := (by decide +kernel : ∀ k, k < nC 0 → kd 0 k = 7 → kd 0 (k + 2) = 100) k (kd_lt (by omega)) h
theorem zkt7_13 {k : Nat} (h : kd 0 k = 7) : kd 0 (k + 3) = 100 := (by decide +kernel : ∀ k, k < nC 0 → kd 0 k = 7 → kd 0 (k + 3) = 100) k (kd_lt (by omega)) h
theorem fRX1_9 : zfw RX1 9 1 0 8 RX1 TX1 := ⟨rfl, by decide, zin1, by decide, Or.inl (zmem 190 (by decide +kernel) (by decide +kernel))⟩
theorem fRX1_28 : zfw RX1 28 1 5 8 RX1 TX1 := ⟨rfl, by decide, zin1, by decide, Or.inl (zmem 205 (by decide +kernel) (by decide +kernel))⟩
theorem fRX1_34 : zfw RX1 34 1 7 8 RX1 TX1 := ⟨rfl, by decide, zin1, by decide, Or.inl (zmem 210 (by decide +kernel) (by decide +kernel))⟩
theorem mRX1_41 : zwM RX1 41 yX7_at cX7_at 2 (some .int) 2 := ⟨Or.inr ⟨"ShopEyes", zmem 728 (by decide +kernel) (by decide +kernel)⟩, zmem 149 (by decide +kernel) (by decide +kernel), zmem 613 (by decide +kernel) (by decide +kernel), by decide +kernel⟩
theorem mRX1_45 : zwM RX1 45 yX7_holds cX7_holds 2 (some .boolean) 2 := ⟨Or.inr ⟨"ShopEyes", zmem 755 (by decide +kernel) (by decide +kernel)⟩, zmem 149 (by decide +kernel) (by decide +kernel), zmem 645 (by decide +kernel) (by decide +kernel), by decide +kernel⟩
theorem mRX1_57 : zwM RX1 57 yX1_joins cX1_joins 3 (some .boolean) 2 := ⟨Or.inl (zmem 751 (by decide +kernel) (by decide +kernel)), zmem 151 (by decide +kernel) (by decide +kernel), zmem 754 (by decide +kernel) (by decide +kernel), by decide +kernel⟩
theorem mRX1_60 : zwM RX1 60 yX1_between cX1_between 3 (some .int) 2 := ⟨Or.inl (zmem 750 (by decide +kernel) (by decide +kernel)), zmem 151 (by decide +kernel) (by decide +kernel), zmem 727 (by decide +kernel) (by decide +kernel), by decide +kernel⟩
theorem sX7_at : Cond.static yX7_at ∈ zT := zmem 612 (by decide +kernel) (by decide +kernel)
theorem sX7_holds : Cond.static yX7_holds ∈ zT := zmem 644 (by decide +kernel) (by decide +kernel)
theorem vX1_between : zwV 1 yX1_between := ⟨zmem 726 (by decide +kernel) (by decide +kernel), zmem 22 (by decide +kernel) (by decide +kernel), by decide, _, _, rfl⟩
theorem vX1_joins : zwV 1 yX1_joins := ⟨zmem 753 (by decide +kernel) (by decide +kernel), zmem 27 (by decide +kernel) (by decide +kernel), by decide, _, _, rfl⟩
