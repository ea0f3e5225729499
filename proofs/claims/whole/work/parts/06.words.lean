theorem z_inp {ws : List Cond} (ps : List Nat) (hp : ws = ps.filterMap (fun i => lw_tbl[i]?)) (hk : ws.all zok = true) : ∀ w ∈ ws, w ∈ zT := by
  intro w hw
  have h1 := List.all_eq_true.mp hk w hw
  rw [hp] at hw
  obtain ⟨i, -, hi⟩ := List.mem_filterMap.mp hw
  exact zmem i hi h1
theorem zkd_lt {L q ck : Nat} (h : kd L q = ck) (hc : ck < 200 := by decide) : q < 2 ^ 31 := by
  have h1 := kd_lt (L := L) (k := q) (by omega)
  have h2 : nC L ≤ 82 := by cases L with | zero => decide | succ L => exact (by decide : zkd1.length ≤ 82)
  omega
theorem zin0 : ∀ w ∈ u_ws RX0 TX0 18, w ∈ zT := z_inp [496, 498, 500, 502, 504, 506, 508, 510, 512, 514, 516, 518, 520, 522, 524, 526, 528, 530] (by decide +kernel) (by decide +kernel)
theorem zin1 : ∀ w ∈ u_ws RX1 TX1 8, w ∈ zT := z_inp [211, 213, 215, 217, 219, 221, 223, 225] (by decide +kernel) (by decide +kernel)
theorem zin2 : ∀ w ∈ u_ws RX2 TX2 7, w ∈ zT := z_inp [260, 262, 264, 266, 268, 270, 272] (by decide +kernel) (by decide +kernel)
theorem zin3 : ∀ w ∈ u_ws RX3 TX3 10, w ∈ zT := z_inp [361, 363, 365, 367, 369, 371, 373, 375, 377, 379] (by decide +kernel) (by decide +kernel)
theorem zin4 : ∀ w ∈ u_ws RX4 TX4 6, w ∈ zT := z_inp [290, 292, 294, 296, 298, 300] (by decide +kernel) (by decide +kernel)
theorem zin5 : ∀ w ∈ u_ws RX5 TX5 6, w ∈ zT := z_inp [328, 330, 332, 334, 336, 338] (by decide +kernel) (by decide +kernel)
theorem zin6 : ∀ w ∈ u_ws RX6 TX6 17, w ∈ zT := z_inp [427, 429, 431, 433, 435, 437, 439, 441, 443, 445, 447, 449, 451, 453, 455, 457, 459] (by decide +kernel) (by decide +kernel)
theorem zin7 : ∀ w ∈ u_ws RX7 TX7 14, w ∈ zT := z_inp [547, 549, 551, 553, 555, 557, 559, 561, 563, 565, 567, 569, 571, 573] (by decide +kernel) (by decide +kernel)
theorem zin8 : ∀ w ∈ u_ws RX8 TX8 83, w ∈ zT := z_inp [1487, 1489, 1491, 1493, 1495, 1497, 1499, 1501, 1503, 1505, 1507, 1509, 1511, 1513, 1515, 1517, 1519, 1521, 1523, 1525, 1527, 1529, 1531, 1533, 1535, 1537, 1539, 1541, 1543, 1545, 1547, 1549, 1551, 1553, 1555, 1557, 1559, 1561, 1563, 1565, 1567, 1569, 1571, 1573, 1575, 1577, 1579, 1581, 1583, 1585, 1587, 1589, 1591, 1593, 1595, 1597, 1599, 1601, 1603, 1605, 1607, 1609, 1611, 1613, 1615, 1617, 1619, 1621, 1623, 1625, 1627, 1629, 1631, 1633, 1635, 1637, 1639, 1641, 1643, 1645, 1647, 1649, 1651] (by decide +kernel) (by decide +kernel)
theorem zkt0_6 {k : Nat} (h : kd 0 k = 0) : kd 0 (k + 1) = 100 := (by decide +kernel : ∀ k, k < nC 0 → kd 0 k = 0 → kd 0 (k + 1) = 100) k (kd_lt (by omega)) h
theorem zkt0_7 {k : Nat} (h : kd 0 k = 0) : kd 0 (k + 2) = 100 := (by decide +kernel : ∀ k, k < nC 0 → kd 0 k = 0 → kd 0 (k + 2) = 100) k (kd_lt (by omega)) h
theorem zkt0_8 {k : Nat} (h : kd 0 k = 0) : kd 0 (k + 3) = 100 := (by decide +kernel : ∀ k, k < nC 0 → kd 0 k = 0 → kd 0 (k + 3) = 100) k (kd_lt (by omega)) h
theorem zkt0_9 {k : Nat} (h : kd 0 k = 0) : kd 0 (k + 4) = 100 := (by decide +kernel : ∀ k, k < nC 0 → kd 0 k = 0 → kd 0 (k + 4) = 100) k (kd_lt (by omega)) h
theorem zkt0_10 {k : Nat} (h : kd 0 k = 0) : kd 0 (k + 5) = 100 := (by decide +kernel : ∀ k, k < nC 0 → kd 0 k = 0 → kd 0 (k + 5) = 100) k (kd_lt (by omega)) h
theorem zkt0_11 {k : Nat} (h : kd 0 k = 0) : kd 0 (k + 6) = 100 := (by decide +kernel : ∀ k, k < nC 0 → kd 0 k = 0 → kd 0 (k + 6) = 100) k (kd_lt (by omega)) h
theorem zkt0_14 {k : Nat} (h : kd 0 k = 0) : kd 0 (k + 7) = 100 := (by decide +kernel : ∀ k, k < nC 0 → kd 0 k = 0 → kd 0 (k + 7) = 100) k (kd_lt (by omega)) h
theorem zkt0_15 {k : Nat} (h : kd 0 k = 0) : kd 0 (k + 8) = 100 := (by decide +kernel : ∀ k, k < nC 0 → kd 0 k = 0 → kd 0 (k + 8) = 100) k (kd_lt (by omega)) h
theorem zkt0_16 {k : Nat} (h : kd 0 k = 0) : kd 0 (k + 9) = 100 := (by decide +kernel : ∀ k, k < nC 0 → kd 0 k = 0 → kd 0 (k + 9) = 100) k (kd_lt (by omega)) h
theorem zkt0_17 {k : Nat} (h : kd 0 k = 0) : kd 0 (k + 10) = 100 := (by decide +kernel : ∀ k, k < nC 0 → kd 0 k = 0 → kd 0 (k + 10) = 100) k (kd_lt (by omega)) h
theorem zkt1_3 {k : Nat} (h : kd 0 k = 1) : kd 0 (k + 1) = 100 := (by decide +kernel : ∀ k, k < nC 0 → kd 0 k = 1 → kd 0 (k + 1) = 100) k (kd_lt (by omega)) h
theorem zkt1_4 {k : Nat} (h : kd 0 k = 1) : kd 0 (k + 2) = 100 := (by decide +kernel : ∀ k, k < nC 0 → kd 0 k = 1 → kd 0 (k + 2) = 100) k (kd_lt (by omega)) h
theorem zkt1_5 {k : Nat} (h : kd 0 k = 1) : kd 0 (k + 3) = 100 := (by decide +kernel : ∀ k, k < nC 0 → kd 0 k = 1 → kd 0 (k + 3) = 100) k (kd_lt (by omega)) h
theorem zkt1_6 {k : Nat} (h : kd 0 k = 1) : kd 0 (k + 4) = 100 := (by decide +kernel : ∀ k, k < nC 0 → kd 0 k = 1 → kd 0 (k + 4) = 100) k (kd_lt (by omega)) h
theorem zkt1_7 {k : Nat} (h : kd 0 k = 1) : kd 0 (k + 5) = 100 := (by decide +kernel : ∀ k, k < nC 0 → kd 0 k = 1 → kd 0 (k + 5) = 100) k (kd_lt (by omega)) h
theorem zkt2_1 {k : Nat} (h : kd 0 k = 2) : kd 0 (k + 1) = 100 := (by decide +kernel : ∀ k, k < nC 0 → kd 0 k = 2 → kd 0 (k + 1) = 100) k (kd_lt (by omega)) h
theorem zkt2_2 {k : Nat} (h : kd 0 k = 2) : kd 0 (k + 2) = 100 := (by decide +kernel : ∀ k, k < nC 0 → kd 0 k = 2 → kd 0 (k + 2) = 100) k (kd_lt (by omega)) h
theorem zkt2_3 {k : Nat} (h : kd 0 k = 2) : kd 0 (k + 3) = 100 := (by decide +kernel : ∀ k, k < nC 0 → kd 0 k = 2 → kd 0 (k + 3) = 100) k (kd_lt (by omega)) h
theorem zkt2_4 {k : Nat} (h : kd 0 k = 2) : kd 0 (k + 4) = 100 := (by decide +kernel : ∀ k, k < nC 0 → kd 0 k = 2 → kd 0 (k + 4) = 100) k (kd_lt (by omega)) h
theorem zkt2_5 {k : Nat} (h : kd 0 k = 2) : kd 0 (k + 5) = 100 := (by decide +kernel : ∀ k, k < nC 0 → kd 0 k = 2 → kd 0 (k + 5) = 100) k (kd_lt (by omega)) h
theorem zkt2_6 {k : Nat} (h : kd 0 k = 2) : kd 0 (k + 6) = 100 := (by decide +kernel : ∀ k, k < nC 0 → kd 0 k = 2 → kd 0 (k + 6) = 100) k (kd_lt (by omega)) h
theorem zkt3_0 {k : Nat} (h : kd 0 k = 3) : kd 0 (k + 1) = 100 := (by decide +kernel : ∀ k, k < nC 0 → kd 0 k = 3 → kd 0 (k + 1) = 100) k (kd_lt (by omega)) h
theorem zkt4_2 {k : Nat} (h : kd 0 k = 4) : kd 0 (k + 1) = 100 := (by decide +kernel : ∀ k, k < nC 0 → kd 0 k = 4 → kd 0 (k + 1) = 100) k (kd_lt (by omega)) h
theorem zkt4_3 {k : Nat} (h : kd 0 k = 4) : kd 0 (k + 2) = 100 := (by decide +kernel : ∀ k, k < nC 0 → kd 0 k = 4 → kd 0 (k + 2) = 100) k (kd_lt (by omega)) h
theorem zkt4_4 {k : Nat} (h : kd 0 k = 4) : kd 0 (k + 3) = 100 := (by decide +kernel : ∀ k, k < nC 0 → kd 0 k = 4 → kd 0 (k + 3) = 100) k (kd_lt (by omega)) h
theorem zkt5_0 {k : Nat} (h : kd 0 k = 5) : kd 0 (k + 1) = 1 := (by decide +kernel : ∀ k, k < nC 0 → kd 0 k = 5 → kd 0 (k + 1) = 1) k (kd_lt (by omega)) h
theorem zkt5_1 {k : Nat} (h : kd 0 k = 5) : kd 0 (k + 7) = 2 := (by decide +kernel : ∀ k, k < nC 0 → kd 0 k = 5 → kd 0 (k + 7) = 2) k (kd_lt (by omega)) h
theorem zkt5_2 {k : Nat} (h : kd 0 k = 5) : kd 0 (k + 14) = 4 := (by decide +kernel : ∀ k, k < nC 0 → kd 0 k = 5 → kd 0 (k + 14) = 4) k (kd_lt (by omega)) h
theorem zkt6_6 {k : Nat} (h : kd 0 k = 6) : kd 0 (k + 1) = 100 := (by decide +kernel : ∀ k, k < nC 0 → kd 0 k = 6 → kd 0 (k + 1) = 100) k (kd_lt (by omega)) h
theorem zkt6_7 {k : Nat} (h : kd 0 k = 6) : kd 0 (k + 2) = 100 := (by decide +kernel : ∀ k, k < nC 0 → kd 0 k = 6 → kd 0 (k + 2) = 100) k (kd_lt (by omega)) h
theorem zkt6_9 {k : Nat} (h : kd 0 k = 6) : kd 0 (k + 3) = 100 := (by decide +kernel : ∀ k, k < nC 0 → kd 0 k = 6 → kd 0 (k + 3) = 100) k (kd_lt (by omega)) h
theorem zkt6_11 {k : Nat} (h : kd 0 k = 6) : kd 0 (k + 4) = 100 := (by decide +kernel : ∀ k, k < nC 0 → kd 0 k = 6 → kd 0 (k + 4) = 100) k (kd_lt (by omega)) h
theorem zkt6_12 {k : Nat} (h : kd 0 k = 6) : kd 0 (k + 5) = 100 := (by decide +kernel : ∀ k, k < nC 0 → kd 0 k = 6 → kd 0 (k + 5) = 100) k (kd_lt (by omega)) h
theorem zkt6_14 {k : Nat} (h : kd 0 k = 6) : kd 0 (k + 6) = 100 := (by decide +kernel : ∀ k, k < nC 0 → kd 0 k = 6 → kd 0 (k + 6) = 100) k (kd_lt (by omega)) h
theorem zkt6_15 {k : Nat} (h : kd 0 k = 6) : kd 0 (k + 7) = 100 := (by decide +kernel : ∀ k, k < nC 0 → kd 0 k = 6 → kd 0 (k + 7) = 100) k (kd_lt (by omega)) h
theorem zkt6_16 {k : Nat} (h : kd 0 k = 6) : kd 0 (k + 8) = 100 := (by decide +kernel : ∀ k, k < nC 0 → kd 0 k = 6 → kd 0 (k + 8) = 100) k (kd_lt (by omega)) h
theorem zkt7_3 {k : Nat} (h : kd 0 k = 7) : kd 0 (k + 4) = 3 := (by decide +kernel : ∀ k, k < nC 0 → kd 0 k = 7 → kd 0 (k + 4) = 3) k (kd_lt (by omega)) h
theorem zkt7_4 {k : Nat} (h : kd 0 k = 7) : kd 0 (k + 6) = 6 := (by decide +kernel : ∀ k, k < nC 0 → kd 0 k = 7 → kd 0 (k + 6) = 6) k (kd_lt (by omega)) h
theorem zkt7_5 {k : Nat} (h : kd 0 k = 7) : kd 0 (k + 15) = 6 := (by decide +kernel : ∀ k, k < nC 0 → kd 0 k = 7 → kd 0 (k + 15) = 6) k (kd_lt (by omega)) h
theorem zkt7_7 {k : Nat} (h : kd 0 k = 7) : kd 0 (k + 24) = 0 := (by decide +kernel : ∀ k, k < nC 0 → kd 0 k = 7 → kd 0 (k + 24) = 0) k (kd_lt (by omega)) h
theorem zkt7_8 {k : Nat} (h : kd 0 k = 7) : kd 0 (k + 35) = 0 := (by decide +kernel : ∀ k, k < nC 0 → kd 0 k = 7 → kd 0 (k + 35) = 0) k (kd_lt (by omega)) h
theorem zkt7_10 {k : Nat} (h : kd 0 k = 7) : kd 0 (k + 1) = 100 := (by decide +kernel : ∀ k, k < nC 0 → kd 0 k = 7 → kd 0 (k + 1) = 100) k (kd_lt (by omega)) h
theorem zkt7_11 {k : Nat} (h : kd 0 k = 7) : kd 0 (k + 2) = 100 := (by decide +kernel : ∀ k, k < nC 0 → kd 0 k = 7 → kd 0 (k + 2) = 100) k (kd_lt (by omega)) h
theorem zkt7_13 {k : Nat} (h : kd 0 k = 7) : kd 0 (k + 3) = 100 := (by decide +kernel : ∀ k, k < nC 0 → kd 0 k = 7 → kd 0 (k + 3) = 100) k (kd_lt (by omega)) h
theorem zkt8_0 {k : Nat} (h : kd 1 k = 8) : kd 1 (k + 1) = 101 := (by decide +kernel : ∀ k, k < nC 1 → kd 1 k = 8 → kd 1 (k + 1) = 101) k (kd_lt (by omega)) h
theorem zkt8_1 {k : Nat} (h : kd 1 k = 8) : kd 1 (k + 2) = 101 := (by decide +kernel : ∀ k, k < nC 1 → kd 1 k = 8 → kd 1 (k + 2) = 101) k (kd_lt (by omega)) h
theorem zkt8_3 {k : Nat} (h : kd 1 k = 8) : kd 1 (k + 3) = 100 := (by decide +kernel : ∀ k, k < nC 1 → kd 1 k = 8 → kd 1 (k + 3) = 100) k (kd_lt (by omega)) h
theorem zkt8_4 {k : Nat} (h : kd 1 k = 8) : kd 1 (k + 4) = 100 := (by decide +kernel : ∀ k, k < nC 1 → kd 1 k = 8 → kd 1 (k + 4) = 100) k (kd_lt (by omega)) h
theorem zkt8_5 {k : Nat} (h : kd 1 k = 8) : kd 1 (k + 5) = 100 := (by decide +kernel : ∀ k, k < nC 1 → kd 1 k = 8 → kd 1 (k + 5) = 100) k (kd_lt (by omega)) h
theorem zkt8_6 {k : Nat} (h : kd 1 k = 8) : kd 1 (k + 6) = 100 := (by decide +kernel : ∀ k, k < nC 1 → kd 1 k = 8 → kd 1 (k + 6) = 100) k (kd_lt (by omega)) h
theorem zkt8_7 {k : Nat} (h : kd 1 k = 8) : kd 1 (k + 7) = 100 := (by decide +kernel : ∀ k, k < nC 1 → kd 1 k = 8 → kd 1 (k + 7) = 100) k (kd_lt (by omega)) h
theorem zkt8_8 {k : Nat} (h : kd 1 k = 8) : kd 1 (k + 8) = 100 := (by decide +kernel : ∀ k, k < nC 1 → kd 1 k = 8 → kd 1 (k + 8) = 100) k (kd_lt (by omega)) h
theorem zkt8_9 {k : Nat} (h : kd 1 k = 8) : kd 1 (k + 9) = 100 := (by decide +kernel : ∀ k, k < nC 1 → kd 1 k = 8 → kd 1 (k + 9) = 100) k (kd_lt (by omega)) h
theorem zkt8_10 {k : Nat} (h : kd 1 k = 8) : kd 1 (k + 10) = 100 := (by decide +kernel : ∀ k, k < nC 1 → kd 1 k = 8 → kd 1 (k + 10) = 100) k (kd_lt (by omega)) h
theorem zkt8_11 {k : Nat} (h : kd 1 k = 8) : kd 1 (k + 11) = 100 := (by decide +kernel : ∀ k, k < nC 1 → kd 1 k = 8 → kd 1 (k + 11) = 100) k (kd_lt (by omega)) h
theorem zkt8_12 {k : Nat} (h : kd 1 k = 8) : kd 1 (k + 12) = 100 := (by decide +kernel : ∀ k, k < nC 1 → kd 1 k = 8 → kd 1 (k + 12) = 100) k (kd_lt (by omega)) h
theorem zkt8_13 {k : Nat} (h : kd 1 k = 8) : kd 1 (k + 13) = 100 := (by decide +kernel : ∀ k, k < nC 1 → kd 1 k = 8 → kd 1 (k + 13) = 100) k (kd_lt (by omega)) h
theorem zkt8_14 {k : Nat} (h : kd 1 k = 8) : kd 1 (k + 14) = 100 := (by decide +kernel : ∀ k, k < nC 1 → kd 1 k = 8 → kd 1 (k + 14) = 100) k (kd_lt (by omega)) h
theorem zkt8_15 {k : Nat} (h : kd 1 k = 8) : kd 1 (k + 15) = 100 := (by decide +kernel : ∀ k, k < nC 1 → kd 1 k = 8 → kd 1 (k + 15) = 100) k (kd_lt (by omega)) h
theorem zkt8_16 {k : Nat} (h : kd 1 k = 8) : kd 1 (k + 16) = 100 := (by decide +kernel : ∀ k, k < nC 1 → kd 1 k = 8 → kd 1 (k + 16) = 100) k (kd_lt (by omega)) h
theorem zkt8_17 {k : Nat} (h : kd 1 k = 8) : kd 1 (k + 17) = 100 := (by decide +kernel : ∀ k, k < nC 1 → kd 1 k = 8 → kd 1 (k + 17) = 100) k (kd_lt (by omega)) h
theorem zkt8_28 {k : Nat} (h : kd 1 k = 8) : kd 1 (k + 18) = 100 := (by decide +kernel : ∀ k, k < nC 1 → kd 1 k = 8 → kd 1 (k + 18) = 100) k (kd_lt (by omega)) h
theorem zkt8_38 {k : Nat} (h : kd 1 k = 8) : kd 1 (k + 19) = 100 := (by decide +kernel : ∀ k, k < nC 1 → kd 1 k = 8 → kd 1 (k + 19) = 100) k (kd_lt (by omega)) h
theorem zkt8_39 {k : Nat} (h : kd 1 k = 8) : kd 1 (k + 20) = 100 := (by decide +kernel : ∀ k, k < nC 1 → kd 1 k = 8 → kd 1 (k + 20) = 100) k (kd_lt (by omega)) h
theorem zkt8_40 {k : Nat} (h : kd 1 k = 8) : kd 1 (k + 21) = 100 := (by decide +kernel : ∀ k, k < nC 1 → kd 1 k = 8 → kd 1 (k + 21) = 100) k (kd_lt (by omega)) h
theorem zkt8_41 {k : Nat} (h : kd 1 k = 8) : kd 1 (k + 22) = 100 := (by decide +kernel : ∀ k, k < nC 1 → kd 1 k = 8 → kd 1 (k + 22) = 100) k (kd_lt (by omega)) h
theorem zkt8_42 {k : Nat} (h : kd 1 k = 8) : kd 1 (k + 23) = 100 := (by decide +kernel : ∀ k, k < nC 1 → kd 1 k = 8 → kd 1 (k + 23) = 100) k (kd_lt (by omega)) h
theorem zkt8_43 {k : Nat} (h : kd 1 k = 8) : kd 1 (k + 24) = 100 := (by decide +kernel : ∀ k, k < nC 1 → kd 1 k = 8 → kd 1 (k + 24) = 100) k (kd_lt (by omega)) h
theorem zkt8_44 {k : Nat} (h : kd 1 k = 8) : kd 1 (k + 25) = 100 := (by decide +kernel : ∀ k, k < nC 1 → kd 1 k = 8 → kd 1 (k + 25) = 100) k (kd_lt (by omega)) h
theorem zkt8_45 {k : Nat} (h : kd 1 k = 8) : kd 1 (k + 26) = 100 := (by decide +kernel : ∀ k, k < nC 1 → kd 1 k = 8 → kd 1 (k + 26) = 100) k (kd_lt (by omega)) h
theorem zkt8_63 {k : Nat} (h : kd 1 k = 8) : kd 1 (k + 27) = 100 := (by decide +kernel : ∀ k, k < nC 1 → kd 1 k = 8 → kd 1 (k + 27) = 100) k (kd_lt (by omega)) h
theorem zkt8_64 {k : Nat} (h : kd 1 k = 8) : kd 1 (k + 28) = 100 := (by decide +kernel : ∀ k, k < nC 1 → kd 1 k = 8 → kd 1 (k + 28) = 100) k (kd_lt (by omega)) h
theorem zkt8_66 {k : Nat} (h : kd 1 k = 8) : kd 1 (k + 29) = 100 := (by decide +kernel : ∀ k, k < nC 1 → kd 1 k = 8 → kd 1 (k + 29) = 100) k (kd_lt (by omega)) h
theorem zkt8_67 {k : Nat} (h : kd 1 k = 8) : kd 1 (k + 30) = 100 := (by decide +kernel : ∀ k, k < nC 1 → kd 1 k = 8 → kd 1 (k + 30) = 100) k (kd_lt (by omega)) h
theorem zkt8_68 {k : Nat} (h : kd 1 k = 8) : kd 1 (k + 31) = 100 := (by decide +kernel : ∀ k, k < nC 1 → kd 1 k = 8 → kd 1 (k + 31) = 100) k (kd_lt (by omega)) h
theorem zkt8_69 {k : Nat} (h : kd 1 k = 8) : kd 1 (k + 32) = 100 := (by decide +kernel : ∀ k, k < nC 1 → kd 1 k = 8 → kd 1 (k + 32) = 100) k (kd_lt (by omega)) h
theorem zkt8_70 {k : Nat} (h : kd 1 k = 8) : kd 1 (k + 33) = 100 := (by decide +kernel : ∀ k, k < nC 1 → kd 1 k = 8 → kd 1 (k + 33) = 100) k (kd_lt (by omega)) h
theorem zkt8_76 {k : Nat} (h : kd 1 k = 8) : kd 1 (k + 34) = 100 := (by decide +kernel : ∀ k, k < nC 1 → kd 1 k = 8 → kd 1 (k + 34) = 100) k (kd_lt (by omega)) h
theorem zkt8_77 {k : Nat} (h : kd 1 k = 8) : kd 1 (k + 35) = 100 := (by decide +kernel : ∀ k, k < nC 1 → kd 1 k = 8 → kd 1 (k + 35) = 100) k (kd_lt (by omega)) h
theorem zkt8_78 {k : Nat} (h : kd 1 k = 8) : kd 1 (k + 36) = 100 := (by decide +kernel : ∀ k, k < nC 1 → kd 1 k = 8 → kd 1 (k + 36) = 100) k (kd_lt (by omega)) h
theorem zkt8_79 {k : Nat} (h : kd 1 k = 8) : kd 1 (k + 37) = 100 := (by decide +kernel : ∀ k, k < nC 1 → kd 1 k = 8 → kd 1 (k + 37) = 100) k (kd_lt (by omega)) h
theorem zkt8_80 {k : Nat} (h : kd 1 k = 8) : kd 1 (k + 38) = 100 := (by decide +kernel : ∀ k, k < nC 1 → kd 1 k = 8 → kd 1 (k + 38) = 100) k (kd_lt (by omega)) h
theorem zkt8_81 {k : Nat} (h : kd 1 k = 8) : kd 1 (k + 39) = 100 := (by decide +kernel : ∀ k, k < nC 1 → kd 1 k = 8 → kd 1 (k + 39) = 100) k (kd_lt (by omega)) h
theorem zkt8_82 {k : Nat} (h : kd 1 k = 8) : kd 1 (k + 40) = 100 := (by decide +kernel : ∀ k, k < nC 1 → kd 1 k = 8 → kd 1 (k + 40) = 100) k (kd_lt (by omega)) h
theorem fRX7_7 : zfw RX7 7 7 0 14 RX7 TX7 := ⟨rfl, by decide, zin7, by decide, Or.inl (zmem 533 (by decide +kernel) (by decide +kernel))⟩
theorem fRX7_13 : zfw RX7 13 7 1 14 RX7 TX7 := ⟨rfl, by decide, zin7, by decide, Or.inl (zmem 534 (by decide +kernel) (by decide +kernel))⟩
theorem fRX7_19 : zfw RX7 19 7 2 14 RX7 TX7 := ⟨rfl, by decide, zin7, by decide, Or.inl (zmem 535 (by decide +kernel) (by decide +kernel))⟩
theorem fRX7_26 : zfw RX7 26 7 3 14 RX7 TX7 := ⟨rfl, by decide, zin7, by decide, Or.inl (zmem 536 (by decide +kernel) (by decide +kernel))⟩
theorem fRX7_33 : zfw RX7 33 7 4 14 RX7 TX7 := ⟨rfl, by decide, zin7, by decide, Or.inl (zmem 537 (by decide +kernel) (by decide +kernel))⟩
theorem fRX7_37 : zfw RX7 37 7 5 14 RX7 TX7 := ⟨rfl, by decide, zin7, by decide, Or.inl (zmem 538 (by decide +kernel) (by decide +kernel))⟩
theorem fRX7_40 : zfw RX7 40 7 6 14 RX7 TX7 := ⟨rfl, by decide, zin7, by decide, Or.inl (zmem 539 (by decide +kernel) (by decide +kernel))⟩
theorem fRX7_49 : zfw RX7 49 7 7 14 RX7 TX7 := ⟨rfl, by decide, zin7, by decide, Or.inl (zmem 540 (by decide +kernel) (by decide +kernel))⟩
theorem fRX7_53 : zfw RX7 53 7 8 14 RX7 TX7 := ⟨rfl, by decide, zin7, by decide, Or.inl (zmem 541 (by decide +kernel) (by decide +kernel))⟩
theorem fRX7_56 : zfw RX7 56 7 9 14 RX7 TX7 := ⟨rfl, by decide, zin7, by decide, Or.inl (zmem 542 (by decide +kernel) (by decide +kernel))⟩
theorem fRX7_59 : zfw RX7 59 7 10 14 RX7 TX7 := ⟨rfl, by decide, zin7, by decide, Or.inl (zmem 543 (by decide +kernel) (by decide +kernel))⟩
theorem fRX7_63 : zfw RX7 63 7 11 14 RX7 TX7 := ⟨rfl, by decide, zin7, by decide, Or.inl (zmem 544 (by decide +kernel) (by decide +kernel))⟩
theorem fRX7_66 : zfw RX7 66 7 12 14 RX7 TX7 := ⟨rfl, by decide, zin7, by decide, Or.inl (zmem 545 (by decide +kernel) (by decide +kernel))⟩
theorem fRX7_69 : zfw RX7 69 7 13 14 RX7 TX7 := ⟨rfl, by decide, zin7, by decide, Or.inl (zmem 546 (by decide +kernel) (by decide +kernel))⟩
theorem fRX7_76 : zfw RX7 76 3 0 10 RX3 TX3 := ⟨rfl, by decide, zin3, by decide, Or.inr ⟨"ShopEyes", zmem 350 (by decide +kernel) (by decide +kernel)⟩⟩
theorem fRX7_90 : zfw RX7 90 3 9 10 RX3 TX3 := ⟨rfl, by decide, zin3, by decide, Or.inr ⟨"ShopEyes", zmem 360 (by decide +kernel) (by decide +kernel)⟩⟩
theorem fRX7_103 : zfw RX7 103 5 0 6 RX5 TX5 := ⟨rfl, by decide, zin5, by decide, Or.inr ⟨"ShopEyes", zmem 307 (by decide +kernel) (by decide +kernel)⟩⟩
theorem fRX7_107 : zfw RX7 107 1 0 8 RX1 TX1 := ⟨rfl, by decide, zin1, by decide, Or.inr ⟨"ShopEyes", zmem 192 (by decide +kernel) (by decide +kernel)⟩⟩
theorem fRX7_112 : zfw RX7 112 1 1 8 RX1 TX1 := ⟨rfl, by decide, zin1, by decide, Or.inr ⟨"ShopEyes", zmem 195 (by decide +kernel) (by decide +kernel)⟩⟩
theorem fRX7_115 : zfw RX7 115 6 4 17 RX6 TX6 := ⟨rfl, by decide, zin6, by decide, Or.inr ⟨"ShopEyes", zmem 401 (by decide +kernel) (by decide +kernel)⟩⟩
theorem fRX7_118 : zfw RX7 118 5 1 6 RX5 TX5 := ⟨rfl, by decide, zin5, by decide, Or.inr ⟨"ShopEyes", zmem 310 (by decide +kernel) (by decide +kernel)⟩⟩
theorem fRX7_122 : zfw RX7 122 2 0 7 RX2 TX2 := ⟨rfl, by decide, zin2, by decide, Or.inr ⟨"ShopEyes", zmem 238 (by decide +kernel) (by decide +kernel)⟩⟩
theorem fRX7_127 : zfw RX7 127 5 2 6 RX5 TX5 := ⟨rfl, by decide, zin5, by decide, Or.inr ⟨"ShopEyes", zmem 314 (by decide +kernel) (by decide +kernel)⟩⟩
theorem fRX7_131 : zfw RX7 131 4 0 6 RX4 TX4 := ⟨rfl, by decide, zin4, by decide, Or.inr ⟨"ShopEyes", zmem 283 (by decide +kernel) (by decide +kernel)⟩⟩
theorem fRX7_134 : zfw RX7 134 5 3 6 RX5 TX5 := ⟨rfl, by decide, zin5, by decide, Or.inr ⟨"ShopEyes", zmem 318 (by decide +kernel) (by decide +kernel)⟩⟩
theorem fRX7_137 : zfw RX7 137 5 4 6 RX5 TX5 := ⟨rfl, by decide, zin5, by decide, Or.inr ⟨"ShopEyes", zmem 323 (by decide +kernel) (by decide +kernel)⟩⟩
theorem fRX7_140 : zfw RX7 140 6 3 17 RX6 TX6 := ⟨rfl, by decide, zin6, by decide, Or.inr ⟨"ShopEyes", zmem 399 (by decide +kernel) (by decide +kernel)⟩⟩
theorem fRX7_143 : zfw RX7 143 6 0 17 RX6 TX6 := ⟨rfl, by decide, zin6, by decide, Or.inr ⟨"ShopEyes", zmem 390 (by decide +kernel) (by decide +kernel)⟩⟩
theorem fRX7_146 : zfw RX7 146 6 1 17 RX6 TX6 := ⟨rfl, by decide, zin6, by decide, Or.inr ⟨"ShopEyes", zmem 393 (by decide +kernel) (by decide +kernel)⟩⟩
theorem fRX7_149 : zfw RX7 149 6 2 17 RX6 TX6 := ⟨rfl, by decide, zin6, by decide, Or.inr ⟨"ShopEyes", zmem 396 (by decide +kernel) (by decide +kernel)⟩⟩
theorem fRX7_152 : zfw RX7 152 6 5 17 RX6 TX6 := ⟨rfl, by decide, zin6, by decide, Or.inr ⟨"ShopEyes", zmem 403 (by decide +kernel) (by decide +kernel)⟩⟩
theorem fRX7_155 : zfw RX7 155 6 8 17 RX6 TX6 := ⟨rfl, by decide, zin6, by decide, Or.inr ⟨"ShopEyes", zmem 411 (by decide +kernel) (by decide +kernel)⟩⟩
theorem fRX7_158 : zfw RX7 158 6 10 17 RX6 TX6 := ⟨rfl, by decide, zin6, by decide, Or.inr ⟨"ShopEyes", zmem 414 (by decide +kernel) (by decide +kernel)⟩⟩
theorem fRX7_161 : zfw RX7 161 6 13 17 RX6 TX6 := ⟨rfl, by decide, zin6, by decide, Or.inr ⟨"ShopEyes", zmem 420 (by decide +kernel) (by decide +kernel)⟩⟩
theorem fRX7_164 : zfw RX7 164 6 16 17 RX6 TX6 := ⟨rfl, by decide, zin6, by decide, Or.inr ⟨"ShopEyes", zmem 426 (by decide +kernel) (by decide +kernel)⟩⟩
theorem fRX7_177 : zfw RX7 177 1 3 8 RX1 TX1 := ⟨rfl, by decide, zin1, by decide, Or.inr ⟨"ShopEyes", zmem 202 (by decide +kernel) (by decide +kernel)⟩⟩
theorem fRX7_180 : zfw RX7 180 6 7 17 RX6 TX6 := ⟨rfl, by decide, zin6, by decide, Or.inr ⟨"ShopEyes", zmem 409 (by decide +kernel) (by decide +kernel)⟩⟩
theorem fRX7_183 : zfw RX7 183 1 5 8 RX1 TX1 := ⟨rfl, by decide, zin1, by decide, Or.inr ⟨"ShopEyes", zmem 206 (by decide +kernel) (by decide +kernel)⟩⟩
theorem fRX7_186 : zfw RX7 186 6 6 17 RX6 TX6 := ⟨rfl, by decide, zin6, by decide, Or.inr ⟨"ShopEyes", zmem 406 (by decide +kernel) (by decide +kernel)⟩⟩
theorem fRX7_192 : zfw RX7 192 2 1 7 RX2 TX2 := ⟨rfl, by decide, zin2, by decide, Or.inr ⟨"ShopEyes", zmem 242 (by decide +kernel) (by decide +kernel)⟩⟩
theorem fRX7_195 : zfw RX7 195 2 2 7 RX2 TX2 := ⟨rfl, by decide, zin2, by decide, Or.inr ⟨"ShopEyes", zmem 245 (by decide +kernel) (by decide +kernel)⟩⟩
theorem fRX7_198 : zfw RX7 198 2 3 7 RX2 TX2 := ⟨rfl, by decide, zin2, by decide, Or.inr ⟨"ShopEyes", zmem 249 (by decide +kernel) (by decide +kernel)⟩⟩
theorem fRX7_201 : zfw RX7 201 2 4 7 RX2 TX2 := ⟨rfl, by decide, zin2, by decide, Or.inr ⟨"ShopEyes", zmem 252 (by decide +kernel) (by decide +kernel)⟩⟩
theorem fRX7_204 : zfw RX7 204 2 5 7 RX2 TX2 := ⟨rfl, by decide, zin2, by decide, Or.inr ⟨"ShopEyes", zmem 256 (by decide +kernel) (by decide +kernel)⟩⟩
theorem fRX7_245 : zfw RX7 245 0 8 18 RX0 TX0 := ⟨rfl, by decide, zin0, by decide, Or.inr ⟨"ShopEyes", zmem 483 (by decide +kernel) (by decide +kernel)⟩⟩
theorem fRX7_256 : zfw RX7 256 0 15 18 RX0 TX0 := ⟨rfl, by decide, zin0, by decide, Or.inr ⟨"ShopEyes", zmem 491 (by decide +kernel) (by decide +kernel)⟩⟩
theorem fRX7_265 : zfw RX7 265 0 16 18 RX0 TX0 := ⟨rfl, by decide, zin0, by decide, Or.inr ⟨"ShopEyes", zmem 493 (by decide +kernel) (by decide +kernel)⟩⟩
theorem fRX7_268 : zfw RX7 268 0 17 18 RX0 TX0 := ⟨rfl, by decide, zin0, by decide, Or.inr ⟨"ShopEyes", zmem 495 (by decide +kernel) (by decide +kernel)⟩⟩
theorem fRX7_274 : zfw RX7 274 0 1 18 RX0 TX0 := ⟨rfl, by decide, zin0, by decide, Or.inr ⟨"ShopEyes", zmem 470 (by decide +kernel) (by decide +kernel)⟩⟩
theorem fRX7_275 : zfw RX7 275 0 2 18 RX0 TX0 := ⟨rfl, by decide, zin0, by decide, Or.inr ⟨"ShopEyes", zmem 472 (by decide +kernel) (by decide +kernel)⟩⟩
theorem fRX7_276 : zfw RX7 276 0 3 18 RX0 TX0 := ⟨rfl, by decide, zin0, by decide, Or.inr ⟨"ShopEyes", zmem 474 (by decide +kernel) (by decide +kernel)⟩⟩
theorem fRX7_280 : zfw RX7 280 0 7 18 RX0 TX0 := ⟨rfl, by decide, zin0, by decide, Or.inr ⟨"ShopEyes", zmem 481 (by decide +kernel) (by decide +kernel)⟩⟩
theorem fRX7_288 : zfw RX7 288 0 6 18 RX0 TX0 := ⟨rfl, by decide, zin0, by decide, Or.inr ⟨"ShopEyes", zmem 479 (by decide +kernel) (by decide +kernel)⟩⟩
theorem fRX7_292 : zfw RX7 292 0 5 18 RX0 TX0 := ⟨rfl, by decide, zin0, by decide, Or.inr ⟨"ShopEyes", zmem 477 (by decide +kernel) (by decide +kernel)⟩⟩
theorem fRX7_295 : zfw RX7 295 6 11 17 RX6 TX6 := ⟨rfl, by decide, zin6, by decide, Or.inr ⟨"ShopEyes", zmem 416 (by decide +kernel) (by decide +kernel)⟩⟩
theorem fRX7_298 : zfw RX7 298 6 12 17 RX6 TX6 := ⟨rfl, by decide, zin6, by decide, Or.inr ⟨"ShopEyes", zmem 418 (by decide +kernel) (by decide +kernel)⟩⟩
theorem fRX7_314 : zfw RX7 314 6 14 17 RX6 TX6 := ⟨rfl, by decide, zin6, by decide, Or.inr ⟨"ShopEyes", zmem 422 (by decide +kernel) (by decide +kernel)⟩⟩
theorem fRX7_317 : zfw RX7 317 6 15 17 RX6 TX6 := ⟨rfl, by decide, zin6, by decide, Or.inr ⟨"ShopEyes", zmem 424 (by decide +kernel) (by decide +kernel)⟩⟩
theorem fRX0_9 : zfw RX0 9 0 1 18 RX0 TX0 := ⟨rfl, by decide, zin0, by decide, Or.inl (zmem 469 (by decide +kernel) (by decide +kernel))⟩
theorem fRX0_15 : zfw RX0 15 0 2 18 RX0 TX0 := ⟨rfl, by decide, zin0, by decide, Or.inl (zmem 471 (by decide +kernel) (by decide +kernel))⟩
theorem fRX0_18 : zfw RX0 18 0 3 18 RX0 TX0 := ⟨rfl, by decide, zin0, by decide, Or.inl (zmem 473 (by decide +kernel) (by decide +kernel))⟩
theorem fRX0_21 : zfw RX0 21 0 4 18 RX0 TX0 := ⟨rfl, by decide, zin0, by decide, Or.inl (zmem 475 (by decide +kernel) (by decide +kernel))⟩
theorem fRX0_24 : zfw RX0 24 0 5 18 RX0 TX0 := ⟨rfl, by decide, zin0, by decide, Or.inl (zmem 476 (by decide +kernel) (by decide +kernel))⟩
theorem fRX0_27 : zfw RX0 27 0 6 18 RX0 TX0 := ⟨rfl, by decide, zin0, by decide, Or.inl (zmem 478 (by decide +kernel) (by decide +kernel))⟩
theorem fRX0_31 : zfw RX0 31 0 7 18 RX0 TX0 := ⟨rfl, by decide, zin0, by decide, Or.inl (zmem 480 (by decide +kernel) (by decide +kernel))⟩
theorem fRX0_34 : zfw RX0 34 0 8 18 RX0 TX0 := ⟨rfl, by decide, zin0, by decide, Or.inl (zmem 482 (by decide +kernel) (by decide +kernel))⟩
theorem fRX0_37 : zfw RX0 37 0 9 18 RX0 TX0 := ⟨rfl, by decide, zin0, by decide, Or.inl (zmem 484 (by decide +kernel) (by decide +kernel))⟩
theorem fRX0_40 : zfw RX0 40 0 10 18 RX0 TX0 := ⟨rfl, by decide, zin0, by decide, Or.inl (zmem 485 (by decide +kernel) (by decide +kernel))⟩
theorem fRX0_43 : zfw RX0 43 0 11 18 RX0 TX0 := ⟨rfl, by decide, zin0, by decide, Or.inl (zmem 486 (by decide +kernel) (by decide +kernel))⟩
theorem fRX0_46 : zfw RX0 46 0 12 18 RX0 TX0 := ⟨rfl, by decide, zin0, by decide, Or.inl (zmem 487 (by decide +kernel) (by decide +kernel))⟩
theorem fRX0_49 : zfw RX0 49 0 13 18 RX0 TX0 := ⟨rfl, by decide, zin0, by decide, Or.inl (zmem 488 (by decide +kernel) (by decide +kernel))⟩
theorem fRX0_52 : zfw RX0 52 0 14 18 RX0 TX0 := ⟨rfl, by decide, zin0, by decide, Or.inl (zmem 489 (by decide +kernel) (by decide +kernel))⟩
theorem fRX0_55 : zfw RX0 55 0 15 18 RX0 TX0 := ⟨rfl, by decide, zin0, by decide, Or.inl (zmem 490 (by decide +kernel) (by decide +kernel))⟩
theorem fRX0_58 : zfw RX0 58 0 16 18 RX0 TX0 := ⟨rfl, by decide, zin0, by decide, Or.inl (zmem 492 (by decide +kernel) (by decide +kernel))⟩
theorem fRX0_61 : zfw RX0 61 0 17 18 RX0 TX0 := ⟨rfl, by decide, zin0, by decide, Or.inl (zmem 494 (by decide +kernel) (by decide +kernel))⟩
theorem fRX0_64 : zfw RX0 64 0 0 18 RX0 TX0 := ⟨rfl, by decide, zin0, by decide, Or.inl (zmem 468 (by decide +kernel) (by decide +kernel))⟩
theorem fRX0_68 : zfw RX0 68 6 0 17 RX6 TX6 := ⟨rfl, by decide, zin6, by decide, Or.inr ⟨"ShopEyes", zmem 389 (by decide +kernel) (by decide +kernel)⟩⟩
theorem fRX0_71 : zfw RX0 71 6 1 17 RX6 TX6 := ⟨rfl, by decide, zin6, by decide, Or.inr ⟨"ShopEyes", zmem 392 (by decide +kernel) (by decide +kernel)⟩⟩
theorem fRX0_72 : zfw RX0 72 6 2 17 RX6 TX6 := ⟨rfl, by decide, zin6, by decide, Or.inr ⟨"ShopEyes", zmem 395 (by decide +kernel) (by decide +kernel)⟩⟩
theorem fRX0_73 : zfw RX0 73 6 3 17 RX6 TX6 := ⟨rfl, by decide, zin6, by decide, Or.inr ⟨"ShopEyes", zmem 398 (by decide +kernel) (by decide +kernel)⟩⟩
theorem fRX0_74 : zfw RX0 74 5 0 6 RX5 TX5 := ⟨rfl, by decide, zin5, by decide, Or.inr ⟨"ShopEyes", zmem 305 (by decide +kernel) (by decide +kernel)⟩⟩
theorem fRX0_80 : zfw RX0 80 1 3 8 RX1 TX1 := ⟨rfl, by decide, zin1, by decide, Or.inr ⟨"ShopEyes", zmem 201 (by decide +kernel) (by decide +kernel)⟩⟩
theorem fRX0_87 : zfw RX0 87 6 6 17 RX6 TX6 := ⟨rfl, by decide, zin6, by decide, Or.inr ⟨"ShopEyes", zmem 405 (by decide +kernel) (by decide +kernel)⟩⟩
theorem fRX0_88 : zfw RX0 88 6 7 17 RX6 TX6 := ⟨rfl, by decide, zin6, by decide, Or.inr ⟨"ShopEyes", zmem 408 (by decide +kernel) (by decide +kernel)⟩⟩
theorem fRX0_93 : zfw RX0 93 1 0 8 RX1 TX1 := ⟨rfl, by decide, zin1, by decide, Or.inr ⟨"ShopEyes", zmem 191 (by decide +kernel) (by decide +kernel)⟩⟩
theorem fRX0_122 : zfw RX0 122 5 1 6 RX5 TX5 := ⟨rfl, by decide, zin5, by decide, Or.inr ⟨"ShopEyes", zmem 309 (by decide +kernel) (by decide +kernel)⟩⟩
theorem fRX0_126 : zfw RX0 126 2 0 7 RX2 TX2 := ⟨rfl, by decide, zin2, by decide, Or.inr ⟨"ShopEyes", zmem 237 (by decide +kernel) (by decide +kernel)⟩⟩
theorem fRX0_149 : zfw RX0 149 2 1 7 RX2 TX2 := ⟨rfl, by decide, zin2, by decide, Or.inr ⟨"ShopEyes", zmem 241 (by decide +kernel) (by decide +kernel)⟩⟩
theorem fRX0_156 : zfw RX0 156 5 4 6 RX5 TX5 := ⟨rfl, by decide, zin5, by decide, Or.inr ⟨"ShopEyes", zmem 322 (by decide +kernel) (by decide +kernel)⟩⟩
theorem fRX0_178 : zfw RX0 178 5 2 6 RX5 TX5 := ⟨rfl, by decide, zin5, by decide, Or.inr ⟨"ShopEyes", zmem 315 (by decide +kernel) (by decide +kernel)⟩⟩
theorem fRX0_188 : zfw RX0 188 2 4 7 RX2 TX2 := ⟨rfl, by decide, zin2, by decide, Or.inr ⟨"ShopEyes", zmem 253 (by decide +kernel) (by decide +kernel)⟩⟩
theorem fRX0_191 : zfw RX0 191 2 2 7 RX2 TX2 := ⟨rfl, by decide, zin2, by decide, Or.inr ⟨"ShopEyes", zmem 246 (by decide +kernel) (by decide +kernel)⟩⟩
theorem fRX0_197 : zfw RX0 197 5 3 6 RX5 TX5 := ⟨rfl, by decide, zin5, by decide, Or.inr ⟨"ShopEyes", zmem 320 (by decide +kernel) (by decide +kernel)⟩⟩
theorem fRX1_9 : zfw RX1 9 1 0 8 RX1 TX1 := ⟨rfl, by decide, zin1, by decide, Or.inl (zmem 190 (by decide +kernel) (by decide +kernel))⟩
theorem fRX1_15 : zfw RX1 15 1 1 8 RX1 TX1 := ⟨rfl, by decide, zin1, by decide, Or.inl (zmem 194 (by decide +kernel) (by decide +kernel))⟩
theorem fRX1_18 : zfw RX1 18 1 2 8 RX1 TX1 := ⟨rfl, by decide, zin1, by decide, Or.inl (zmem 197 (by decide +kernel) (by decide +kernel))⟩
theorem fRX1_21 : zfw RX1 21 1 3 8 RX1 TX1 := ⟨rfl, by decide, zin1, by decide, Or.inl (zmem 200 (by decide +kernel) (by decide +kernel))⟩
theorem fRX1_25 : zfw RX1 25 1 4 8 RX1 TX1 := ⟨rfl, by decide, zin1, by decide, Or.inl (zmem 203 (by decide +kernel) (by decide +kernel))⟩
theorem fRX1_28 : zfw RX1 28 1 5 8 RX1 TX1 := ⟨rfl, by decide, zin1, by decide, Or.inl (zmem 205 (by decide +kernel) (by decide +kernel))⟩
theorem fRX1_31 : zfw RX1 31 1 6 8 RX1 TX1 := ⟨rfl, by decide, zin1, by decide, Or.inl (zmem 207 (by decide +kernel) (by decide +kernel))⟩
theorem fRX1_34 : zfw RX1 34 1 7 8 RX1 TX1 := ⟨rfl, by decide, zin1, by decide, Or.inl (zmem 210 (by decide +kernel) (by decide +kernel))⟩
theorem fRX2_9 : zfw RX2 9 2 0 7 RX2 TX2 := ⟨rfl, by decide, zin2, by decide, Or.inl (zmem 235 (by decide +kernel) (by decide +kernel))⟩
theorem fRX2_19 : zfw RX2 19 2 2 7 RX2 TX2 := ⟨rfl, by decide, zin2, by decide, Or.inl (zmem 244 (by decide +kernel) (by decide +kernel))⟩
theorem fRX2_22 : zfw RX2 22 2 3 7 RX2 TX2 := ⟨rfl, by decide, zin2, by decide, Or.inl (zmem 248 (by decide +kernel) (by decide +kernel))⟩
theorem fRX2_28 : zfw RX2 28 2 5 7 RX2 TX2 := ⟨rfl, by decide, zin2, by decide, Or.inl (zmem 255 (by decide +kernel) (by decide +kernel))⟩
theorem fRX2_31 : zfw RX2 31 2 6 7 RX2 TX2 := ⟨rfl, by decide, zin2, by decide, Or.inl (zmem 258 (by decide +kernel) (by decide +kernel))⟩
theorem fRX3_9 : zfw RX3 9 3 0 10 RX3 TX3 := ⟨rfl, by decide, zin3, by decide, Or.inl (zmem 349 (by decide +kernel) (by decide +kernel))⟩
theorem fRX3_18 : zfw RX3 18 3 1 10 RX3 TX3 := ⟨rfl, by decide, zin3, by decide, Or.inl (zmem 351 (by decide +kernel) (by decide +kernel))⟩
theorem fRX3_22 : zfw RX3 22 3 2 10 RX3 TX3 := ⟨rfl, by decide, zin3, by decide, Or.inl (zmem 352 (by decide +kernel) (by decide +kernel))⟩
theorem fRX3_26 : zfw RX3 26 3 3 10 RX3 TX3 := ⟨rfl, by decide, zin3, by decide, Or.inl (zmem 353 (by decide +kernel) (by decide +kernel))⟩
theorem fRX3_29 : zfw RX3 29 3 4 10 RX3 TX3 := ⟨rfl, by decide, zin3, by decide, Or.inl (zmem 354 (by decide +kernel) (by decide +kernel))⟩
theorem fRX3_32 : zfw RX3 32 3 5 10 RX3 TX3 := ⟨rfl, by decide, zin3, by decide, Or.inl (zmem 355 (by decide +kernel) (by decide +kernel))⟩
theorem fRX3_35 : zfw RX3 35 3 6 10 RX3 TX3 := ⟨rfl, by decide, zin3, by decide, Or.inl (zmem 356 (by decide +kernel) (by decide +kernel))⟩
theorem fRX3_38 : zfw RX3 38 3 7 10 RX3 TX3 := ⟨rfl, by decide, zin3, by decide, Or.inl (zmem 357 (by decide +kernel) (by decide +kernel))⟩
theorem fRX3_41 : zfw RX3 41 3 8 10 RX3 TX3 := ⟨rfl, by decide, zin3, by decide, Or.inl (zmem 358 (by decide +kernel) (by decide +kernel))⟩
theorem fRX3_44 : zfw RX3 44 3 9 10 RX3 TX3 := ⟨rfl, by decide, zin3, by decide, Or.inl (zmem 359 (by decide +kernel) (by decide +kernel))⟩
theorem fRX3_56 : zfw RX3 56 5 0 6 RX5 TX5 := ⟨rfl, by decide, zin5, by decide, Or.inr ⟨"ShopEyes", zmem 306 (by decide +kernel) (by decide +kernel)⟩⟩
theorem fRX3_125 : zfw RX3 125 5 3 6 RX5 TX5 := ⟨rfl, by decide, zin5, by decide, Or.inr ⟨"ShopEyes", zmem 319 (by decide +kernel) (by decide +kernel)⟩⟩
theorem fRX3_129 : zfw RX3 129 5 4 6 RX5 TX5 := ⟨rfl, by decide, zin5, by decide, Or.inr ⟨"ShopEyes", zmem 324 (by decide +kernel) (by decide +kernel)⟩⟩
theorem fRX3_134 : zfw RX3 134 5 5 6 RX5 TX5 := ⟨rfl, by decide, zin5, by decide, Or.inr ⟨"ShopEyes", zmem 327 (by decide +kernel) (by decide +kernel)⟩⟩
theorem fRX3_156 : zfw RX3 156 1 0 8 RX1 TX1 := ⟨rfl, by decide, zin1, by decide, Or.inr ⟨"ShopEyes", zmem 193 (by decide +kernel) (by decide +kernel)⟩⟩
theorem fRX3_170 : zfw RX3 170 1 1 8 RX1 TX1 := ⟨rfl, by decide, zin1, by decide, Or.inr ⟨"ShopEyes", zmem 196 (by decide +kernel) (by decide +kernel)⟩⟩
theorem fRX3_183 : zfw RX3 183 1 2 8 RX1 TX1 := ⟨rfl, by decide, zin1, by decide, Or.inr ⟨"ShopEyes", zmem 199 (by decide +kernel) (by decide +kernel)⟩⟩
theorem fRX3_186 : zfw RX3 186 1 6 8 RX1 TX1 := ⟨rfl, by decide, zin1, by decide, Or.inr ⟨"ShopEyes", zmem 209 (by decide +kernel) (by decide +kernel)⟩⟩
theorem fRX3_195 : zfw RX3 195 5 1 6 RX5 TX5 := ⟨rfl, by decide, zin5, by decide, Or.inr ⟨"ShopEyes", zmem 311 (by decide +kernel) (by decide +kernel)⟩⟩
theorem fRX3_199 : zfw RX3 199 2 0 7 RX2 TX2 := ⟨rfl, by decide, zin2, by decide, Or.inr ⟨"ShopEyes", zmem 239 (by decide +kernel) (by decide +kernel)⟩⟩
theorem fRX3_204 : zfw RX3 204 2 1 7 RX2 TX2 := ⟨rfl, by decide, zin2, by decide, Or.inr ⟨"ShopEyes", zmem 243 (by decide +kernel) (by decide +kernel)⟩⟩
theorem fRX3_211 : zfw RX3 211 2 2 7 RX2 TX2 := ⟨rfl, by decide, zin2, by decide, Or.inr ⟨"ShopEyes", zmem 247 (by decide +kernel) (by decide +kernel)⟩⟩
theorem fRX3_214 : zfw RX3 214 2 3 7 RX2 TX2 := ⟨rfl, by decide, zin2, by decide, Or.inr ⟨"ShopEyes", zmem 250 (by decide +kernel) (by decide +kernel)⟩⟩
theorem fRX3_217 : zfw RX3 217 2 4 7 RX2 TX2 := ⟨rfl, by decide, zin2, by decide, Or.inr ⟨"ShopEyes", zmem 254 (by decide +kernel) (by decide +kernel)⟩⟩
theorem fRX3_224 : zfw RX3 224 2 5 7 RX2 TX2 := ⟨rfl, by decide, zin2, by decide, Or.inr ⟨"ShopEyes", zmem 257 (by decide +kernel) (by decide +kernel)⟩⟩
theorem fRX3_226 : zfw RX3 226 2 6 7 RX2 TX2 := ⟨rfl, by decide, zin2, by decide, Or.inr ⟨"ShopEyes", zmem 259 (by decide +kernel) (by decide +kernel)⟩⟩
theorem fRX3_229 : zfw RX3 229 5 2 6 RX5 TX5 := ⟨rfl, by decide, zin5, by decide, Or.inr ⟨"ShopEyes", zmem 316 (by decide +kernel) (by decide +kernel)⟩⟩
theorem fRX3_233 : zfw RX3 233 4 0 6 RX4 TX4 := ⟨rfl, by decide, zin4, by decide, Or.inr ⟨"ShopEyes", zmem 284 (by decide +kernel) (by decide +kernel)⟩⟩
theorem fRX4_9 : zfw RX4 9 4 0 6 RX4 TX4 := ⟨rfl, by decide, zin4, by decide, Or.inl (zmem 281 (by decide +kernel) (by decide +kernel))⟩
theorem fRX4_15 : zfw RX4 15 4 1 6 RX4 TX4 := ⟨rfl, by decide, zin4, by decide, Or.inl (zmem 285 (by decide +kernel) (by decide +kernel))⟩
theorem fRX4_18 : zfw RX4 18 4 2 6 RX4 TX4 := ⟨rfl, by decide, zin4, by decide, Or.inl (zmem 286 (by decide +kernel) (by decide +kernel))⟩
theorem fRX4_22 : zfw RX4 22 4 3 6 RX4 TX4 := ⟨rfl, by decide, zin4, by decide, Or.inl (zmem 287 (by decide +kernel) (by decide +kernel))⟩
theorem fRX4_25 : zfw RX4 25 4 4 6 RX4 TX4 := ⟨rfl, by decide, zin4, by decide, Or.inl (zmem 288 (by decide +kernel) (by decide +kernel))⟩
theorem fRX4_28 : zfw RX4 28 4 5 6 RX4 TX4 := ⟨rfl, by decide, zin4, by decide, Or.inl (zmem 289 (by decide +kernel) (by decide +kernel))⟩
theorem fRX5_12 : zfw RX5 12 5 0 6 RX5 TX5 := ⟨rfl, by decide, zin5, by decide, Or.inl (zmem 303 (by decide +kernel) (by decide +kernel))⟩
theorem fRX5_21 : zfw RX5 21 5 1 6 RX5 TX5 := ⟨rfl, by decide, zin5, by decide, Or.inl (zmem 308 (by decide +kernel) (by decide +kernel))⟩
theorem fRX5_28 : zfw RX5 28 5 2 6 RX5 TX5 := ⟨rfl, by decide, zin5, by decide, Or.inl (zmem 312 (by decide +kernel) (by decide +kernel))⟩
theorem fRX5_32 : zfw RX5 32 5 3 6 RX5 TX5 := ⟨rfl, by decide, zin5, by decide, Or.inl (zmem 317 (by decide +kernel) (by decide +kernel))⟩
theorem fRX5_36 : zfw RX5 36 5 4 6 RX5 TX5 := ⟨rfl, by decide, zin5, by decide, Or.inl (zmem 321 (by decide +kernel) (by decide +kernel))⟩
theorem fRX5_39 : zfw RX5 39 5 5 6 RX5 TX5 := ⟨rfl, by decide, zin5, by decide, Or.inl (zmem 325 (by decide +kernel) (by decide +kernel))⟩
theorem fRX5_45 : zfw RX5 45 2 0 7 RX2 TX2 := ⟨rfl, by decide, zin2, by decide, Or.inr ⟨"ShopEyes", zmem 236 (by decide +kernel) (by decide +kernel)⟩⟩
theorem fRX6_9 : zfw RX6 9 6 0 17 RX6 TX6 := ⟨rfl, by decide, zin6, by decide, Or.inl (zmem 388 (by decide +kernel) (by decide +kernel))⟩
theorem fRX6_15 : zfw RX6 15 6 1 17 RX6 TX6 := ⟨rfl, by decide, zin6, by decide, Or.inl (zmem 391 (by decide +kernel) (by decide +kernel))⟩
theorem fRX6_18 : zfw RX6 18 6 2 17 RX6 TX6 := ⟨rfl, by decide, zin6, by decide, Or.inl (zmem 394 (by decide +kernel) (by decide +kernel))⟩
theorem fRX6_21 : zfw RX6 21 6 3 17 RX6 TX6 := ⟨rfl, by decide, zin6, by decide, Or.inl (zmem 397 (by decide +kernel) (by decide +kernel))⟩
theorem fRX6_24 : zfw RX6 24 6 4 17 RX6 TX6 := ⟨rfl, by decide, zin6, by decide, Or.inl (zmem 400 (by decide +kernel) (by decide +kernel))⟩
theorem fRX6_27 : zfw RX6 27 6 5 17 RX6 TX6 := ⟨rfl, by decide, zin6, by decide, Or.inl (zmem 402 (by decide +kernel) (by decide +kernel))⟩
theorem fRX6_30 : zfw RX6 30 6 6 17 RX6 TX6 := ⟨rfl, by decide, zin6, by decide, Or.inl (zmem 404 (by decide +kernel) (by decide +kernel))⟩
theorem fRX6_34 : zfw RX6 34 6 7 17 RX6 TX6 := ⟨rfl, by decide, zin6, by decide, Or.inl (zmem 407 (by decide +kernel) (by decide +kernel))⟩
theorem fRX6_37 : zfw RX6 37 6 8 17 RX6 TX6 := ⟨rfl, by decide, zin6, by decide, Or.inl (zmem 410 (by decide +kernel) (by decide +kernel))⟩
theorem fRX6_40 : zfw RX6 40 6 9 17 RX6 TX6 := ⟨rfl, by decide, zin6, by decide, Or.inl (zmem 412 (by decide +kernel) (by decide +kernel))⟩
theorem fRX6_43 : zfw RX6 43 6 10 17 RX6 TX6 := ⟨rfl, by decide, zin6, by decide, Or.inl (zmem 413 (by decide +kernel) (by decide +kernel))⟩
theorem fRX6_46 : zfw RX6 46 6 11 17 RX6 TX6 := ⟨rfl, by decide, zin6, by decide, Or.inl (zmem 415 (by decide +kernel) (by decide +kernel))⟩
theorem fRX6_49 : zfw RX6 49 6 12 17 RX6 TX6 := ⟨rfl, by decide, zin6, by decide, Or.inl (zmem 417 (by decide +kernel) (by decide +kernel))⟩
theorem fRX6_52 : zfw RX6 52 6 13 17 RX6 TX6 := ⟨rfl, by decide, zin6, by decide, Or.inl (zmem 419 (by decide +kernel) (by decide +kernel))⟩
theorem fRX6_55 : zfw RX6 55 6 14 17 RX6 TX6 := ⟨rfl, by decide, zin6, by decide, Or.inl (zmem 421 (by decide +kernel) (by decide +kernel))⟩
theorem fRX6_58 : zfw RX6 58 6 15 17 RX6 TX6 := ⟨rfl, by decide, zin6, by decide, Or.inl (zmem 423 (by decide +kernel) (by decide +kernel))⟩
theorem fRX6_61 : zfw RX6 61 6 16 17 RX6 TX6 := ⟨rfl, by decide, zin6, by decide, Or.inl (zmem 425 (by decide +kernel) (by decide +kernel))⟩
theorem fRX6_64 : zfw RX6 64 5 2 6 RX5 TX5 := ⟨rfl, by decide, zin5, by decide, Or.inr ⟨"ShopEyes", zmem 313 (by decide +kernel) (by decide +kernel)⟩⟩
theorem fRX6_70 : zfw RX6 70 4 0 6 RX4 TX4 := ⟨rfl, by decide, zin4, by decide, Or.inr ⟨"ShopEyes", zmem 282 (by decide +kernel) (by decide +kernel)⟩⟩
theorem fRX6_75 : zfw RX6 75 5 5 6 RX5 TX5 := ⟨rfl, by decide, zin5, by decide, Or.inr ⟨"ShopEyes", zmem 326 (by decide +kernel) (by decide +kernel)⟩⟩
theorem fRX6_76 : zfw RX6 76 5 0 6 RX5 TX5 := ⟨rfl, by decide, zin5, by decide, Or.inr ⟨"ShopEyes", zmem 304 (by decide +kernel) (by decide +kernel)⟩⟩
theorem fRX6_80 : zfw RX6 80 1 2 8 RX1 TX1 := ⟨rfl, by decide, zin1, by decide, Or.inr ⟨"ShopEyes", zmem 198 (by decide +kernel) (by decide +kernel)⟩⟩
theorem fRX6_83 : zfw RX6 83 1 6 8 RX1 TX1 := ⟨rfl, by decide, zin1, by decide, Or.inr ⟨"ShopEyes", zmem 208 (by decide +kernel) (by decide +kernel)⟩⟩
theorem fRX6_88 : zfw RX6 88 1 4 8 RX1 TX1 := ⟨rfl, by decide, zin1, by decide, Or.inr ⟨"ShopEyes", zmem 204 (by decide +kernel) (by decide +kernel)⟩⟩
theorem fRX8_19 : zfw RX8 19 8 0 83 RX8 TX8 := ⟨rfl, by decide, zin8, by decide, Or.inl (zmem 1404 (by decide +kernel) (by decide +kernel))⟩
theorem fRX8_37 : zfw RX8 37 8 1 83 RX8 TX8 := ⟨rfl, by decide, zin8, by decide, Or.inl (zmem 1405 (by decide +kernel) (by decide +kernel))⟩
theorem fRX8_40 : zfw RX8 40 8 3 83 RX8 TX8 := ⟨rfl, by decide, zin8, by decide, Or.inl (zmem 1407 (by decide +kernel) (by decide +kernel))⟩
theorem fRX8_44 : zfw RX8 44 8 4 83 RX8 TX8 := ⟨rfl, by decide, zin8, by decide, Or.inl (zmem 1408 (by decide +kernel) (by decide +kernel))⟩
theorem fRX8_46 : zfw RX8 46 8 5 83 RX8 TX8 := ⟨rfl, by decide, zin8, by decide, Or.inl (zmem 1409 (by decide +kernel) (by decide +kernel))⟩
theorem fRX8_49 : zfw RX8 49 8 6 83 RX8 TX8 := ⟨rfl, by decide, zin8, by decide, Or.inl (zmem 1410 (by decide +kernel) (by decide +kernel))⟩
theorem fRX8_52 : zfw RX8 52 8 7 83 RX8 TX8 := ⟨rfl, by decide, zin8, by decide, Or.inl (zmem 1411 (by decide +kernel) (by decide +kernel))⟩
theorem fRX8_55 : zfw RX8 55 8 8 83 RX8 TX8 := ⟨rfl, by decide, zin8, by decide, Or.inl (zmem 1412 (by decide +kernel) (by decide +kernel))⟩
theorem fRX8_58 : zfw RX8 58 8 9 83 RX8 TX8 := ⟨rfl, by decide, zin8, by decide, Or.inl (zmem 1413 (by decide +kernel) (by decide +kernel))⟩
theorem fRX8_61 : zfw RX8 61 8 10 83 RX8 TX8 := ⟨rfl, by decide, zin8, by decide, Or.inl (zmem 1414 (by decide +kernel) (by decide +kernel))⟩
theorem fRX8_64 : zfw RX8 64 8 11 83 RX8 TX8 := ⟨rfl, by decide, zin8, by decide, Or.inl (zmem 1415 (by decide +kernel) (by decide +kernel))⟩
theorem fRX8_66 : zfw RX8 66 8 12 83 RX8 TX8 := ⟨rfl, by decide, zin8, by decide, Or.inl (zmem 1416 (by decide +kernel) (by decide +kernel))⟩
theorem fRX8_69 : zfw RX8 69 8 13 83 RX8 TX8 := ⟨rfl, by decide, zin8, by decide, Or.inl (zmem 1417 (by decide +kernel) (by decide +kernel))⟩
theorem fRX8_72 : zfw RX8 72 8 14 83 RX8 TX8 := ⟨rfl, by decide, zin8, by decide, Or.inl (zmem 1418 (by decide +kernel) (by decide +kernel))⟩
theorem fRX8_75 : zfw RX8 75 8 15 83 RX8 TX8 := ⟨rfl, by decide, zin8, by decide, Or.inl (zmem 1419 (by decide +kernel) (by decide +kernel))⟩
theorem fRX8_78 : zfw RX8 78 8 16 83 RX8 TX8 := ⟨rfl, by decide, zin8, by decide, Or.inl (zmem 1420 (by decide +kernel) (by decide +kernel))⟩
theorem fRX8_81 : zfw RX8 81 8 17 83 RX8 TX8 := ⟨rfl, by decide, zin8, by decide, Or.inl (zmem 1421 (by decide +kernel) (by decide +kernel))⟩
theorem fRX8_84 : zfw RX8 84 8 27 83 RX8 TX8 := ⟨rfl, by decide, zin8, by decide, Or.inl (zmem 1431 (by decide +kernel) (by decide +kernel))⟩
theorem fRX8_88 : zfw RX8 88 8 28 83 RX8 TX8 := ⟨rfl, by decide, zin8, by decide, Or.inl (zmem 1432 (by decide +kernel) (by decide +kernel))⟩
theorem fRX8_90 : zfw RX8 90 8 32 83 RX8 TX8 := ⟨rfl, by decide, zin8, by decide, Or.inl (zmem 1436 (by decide +kernel) (by decide +kernel))⟩
theorem fRX8_93 : zfw RX8 93 8 38 83 RX8 TX8 := ⟨rfl, by decide, zin8, by decide, Or.inl (zmem 1442 (by decide +kernel) (by decide +kernel))⟩
theorem fRX8_96 : zfw RX8 96 8 39 83 RX8 TX8 := ⟨rfl, by decide, zin8, by decide, Or.inl (zmem 1443 (by decide +kernel) (by decide +kernel))⟩
theorem fRX8_99 : zfw RX8 99 8 40 83 RX8 TX8 := ⟨rfl, by decide, zin8, by decide, Or.inl (zmem 1444 (by decide +kernel) (by decide +kernel))⟩
theorem fRX8_102 : zfw RX8 102 8 41 83 RX8 TX8 := ⟨rfl, by decide, zin8, by decide, Or.inl (zmem 1445 (by decide +kernel) (by decide +kernel))⟩
theorem fRX8_105 : zfw RX8 105 8 42 83 RX8 TX8 := ⟨rfl, by decide, zin8, by decide, Or.inl (zmem 1446 (by decide +kernel) (by decide +kernel))⟩
theorem fRX8_108 : zfw RX8 108 8 43 83 RX8 TX8 := ⟨rfl, by decide, zin8, by decide, Or.inl (zmem 1447 (by decide +kernel) (by decide +kernel))⟩
theorem fRX8_111 : zfw RX8 111 8 44 83 RX8 TX8 := ⟨rfl, by decide, zin8, by decide, Or.inl (zmem 1448 (by decide +kernel) (by decide +kernel))⟩
theorem fRX8_114 : zfw RX8 114 8 45 83 RX8 TX8 := ⟨rfl, by decide, zin8, by decide, Or.inl (zmem 1449 (by decide +kernel) (by decide +kernel))⟩
theorem fRX8_117 : zfw RX8 117 8 63 83 RX8 TX8 := ⟨rfl, by decide, zin8, by decide, Or.inl (zmem 1467 (by decide +kernel) (by decide +kernel))⟩
theorem fRX8_120 : zfw RX8 120 8 64 83 RX8 TX8 := ⟨rfl, by decide, zin8, by decide, Or.inl (zmem 1468 (by decide +kernel) (by decide +kernel))⟩
theorem fRX8_123 : zfw RX8 123 8 66 83 RX8 TX8 := ⟨rfl, by decide, zin8, by decide, Or.inl (zmem 1470 (by decide +kernel) (by decide +kernel))⟩
theorem fRX8_126 : zfw RX8 126 8 67 83 RX8 TX8 := ⟨rfl, by decide, zin8, by decide, Or.inl (zmem 1471 (by decide +kernel) (by decide +kernel))⟩
theorem fRX8_129 : zfw RX8 129 8 68 83 RX8 TX8 := ⟨rfl, by decide, zin8, by decide, Or.inl (zmem 1472 (by decide +kernel) (by decide +kernel))⟩
theorem fRX8_132 : zfw RX8 132 8 69 83 RX8 TX8 := ⟨rfl, by decide, zin8, by decide, Or.inl (zmem 1473 (by decide +kernel) (by decide +kernel))⟩
theorem fRX8_135 : zfw RX8 135 8 70 83 RX8 TX8 := ⟨rfl, by decide, zin8, by decide, Or.inl (zmem 1474 (by decide +kernel) (by decide +kernel))⟩
theorem fRX8_138 : zfw RX8 138 8 76 83 RX8 TX8 := ⟨rfl, by decide, zin8, by decide, Or.inl (zmem 1480 (by decide +kernel) (by decide +kernel))⟩
theorem fRX8_141 : zfw RX8 141 8 77 83 RX8 TX8 := ⟨rfl, by decide, zin8, by decide, Or.inl (zmem 1481 (by decide +kernel) (by decide +kernel))⟩
theorem fRX8_144 : zfw RX8 144 8 78 83 RX8 TX8 := ⟨rfl, by decide, zin8, by decide, Or.inl (zmem 1482 (by decide +kernel) (by decide +kernel))⟩
theorem fRX8_147 : zfw RX8 147 8 79 83 RX8 TX8 := ⟨rfl, by decide, zin8, by decide, Or.inl (zmem 1483 (by decide +kernel) (by decide +kernel))⟩
theorem fRX8_150 : zfw RX8 150 8 80 83 RX8 TX8 := ⟨rfl, by decide, zin8, by decide, Or.inl (zmem 1484 (by decide +kernel) (by decide +kernel))⟩
theorem fRX8_153 : zfw RX8 153 8 81 83 RX8 TX8 := ⟨rfl, by decide, zin8, by decide, Or.inl (zmem 1485 (by decide +kernel) (by decide +kernel))⟩
theorem fRX8_156 : zfw RX8 156 8 82 83 RX8 TX8 := ⟨rfl, by decide, zin8, by decide, Or.inl (zmem 1486 (by decide +kernel) (by decide +kernel))⟩
theorem fRX8_159 : zfw RX8 159 8 2 83 RX8 TX8 := ⟨rfl, by decide, zin8, by decide, Or.inl (zmem 1406 (by decide +kernel) (by decide +kernel))⟩
theorem fRX8_168 : zfw RX8 168 8 18 83 RX8 TX8 := ⟨rfl, by decide, zin8, by decide, Or.inl (zmem 1422 (by decide +kernel) (by decide +kernel))⟩
theorem fRX8_171 : zfw RX8 171 8 20 83 RX8 TX8 := ⟨rfl, by decide, zin8, by decide, Or.inl (zmem 1424 (by decide +kernel) (by decide +kernel))⟩
theorem fRX8_174 : zfw RX8 174 8 19 83 RX8 TX8 := ⟨rfl, by decide, zin8, by decide, Or.inl (zmem 1423 (by decide +kernel) (by decide +kernel))⟩
theorem fRX8_181 : zfw RX8 181 8 23 83 RX8 TX8 := ⟨rfl, by decide, zin8, by decide, Or.inl (zmem 1427 (by decide +kernel) (by decide +kernel))⟩
theorem fRX8_184 : zfw RX8 184 8 21 83 RX8 TX8 := ⟨rfl, by decide, zin8, by decide, Or.inl (zmem 1425 (by decide +kernel) (by decide +kernel))⟩
theorem fRX8_194 : zfw RX8 194 8 22 83 RX8 TX8 := ⟨rfl, by decide, zin8, by decide, Or.inl (zmem 1426 (by decide +kernel) (by decide +kernel))⟩
theorem fRX8_207 : zfw RX8 207 8 24 83 RX8 TX8 := ⟨rfl, by decide, zin8, by decide, Or.inl (zmem 1428 (by decide +kernel) (by decide +kernel))⟩
theorem fRX8_210 : zfw RX8 210 8 25 83 RX8 TX8 := ⟨rfl, by decide, zin8, by decide, Or.inl (zmem 1429 (by decide +kernel) (by decide +kernel))⟩
theorem fRX8_213 : zfw RX8 213 8 26 83 RX8 TX8 := ⟨rfl, by decide, zin8, by decide, Or.inl (zmem 1430 (by decide +kernel) (by decide +kernel))⟩
theorem fRX8_323 : zfw RX8 323 8 29 83 RX8 TX8 := ⟨rfl, by decide, zin8, by decide, Or.inl (zmem 1433 (by decide +kernel) (by decide +kernel))⟩
theorem fRX8_326 : zfw RX8 326 8 30 83 RX8 TX8 := ⟨rfl, by decide, zin8, by decide, Or.inl (zmem 1434 (by decide +kernel) (by decide +kernel))⟩
theorem fRX8_329 : zfw RX8 329 8 31 83 RX8 TX8 := ⟨rfl, by decide, zin8, by decide, Or.inl (zmem 1435 (by decide +kernel) (by decide +kernel))⟩
theorem fRX8_332 : zfw RX8 332 8 33 83 RX8 TX8 := ⟨rfl, by decide, zin8, by decide, Or.inl (zmem 1437 (by decide +kernel) (by decide +kernel))⟩
theorem fRX8_335 : zfw RX8 335 8 34 83 RX8 TX8 := ⟨rfl, by decide, zin8, by decide, Or.inl (zmem 1438 (by decide +kernel) (by decide +kernel))⟩
theorem fRX8_338 : zfw RX8 338 8 35 83 RX8 TX8 := ⟨rfl, by decide, zin8, by decide, Or.inl (zmem 1439 (by decide +kernel) (by decide +kernel))⟩
theorem fRX8_341 : zfw RX8 341 8 36 83 RX8 TX8 := ⟨rfl, by decide, zin8, by decide, Or.inl (zmem 1440 (by decide +kernel) (by decide +kernel))⟩
theorem fRX8_344 : zfw RX8 344 8 37 83 RX8 TX8 := ⟨rfl, by decide, zin8, by decide, Or.inl (zmem 1441 (by decide +kernel) (by decide +kernel))⟩
theorem fRX8_347 : zfw RX8 347 8 65 83 RX8 TX8 := ⟨rfl, by decide, zin8, by decide, Or.inl (zmem 1469 (by decide +kernel) (by decide +kernel))⟩
theorem fRX8_351 : zfw RX8 351 8 72 83 RX8 TX8 := ⟨rfl, by decide, zin8, by decide, Or.inl (zmem 1476 (by decide +kernel) (by decide +kernel))⟩
theorem fRX8_364 : zfw RX8 364 8 46 83 RX8 TX8 := ⟨rfl, by decide, zin8, by decide, Or.inl (zmem 1450 (by decide +kernel) (by decide +kernel))⟩
theorem fRX8_367 : zfw RX8 367 8 47 83 RX8 TX8 := ⟨rfl, by decide, zin8, by decide, Or.inl (zmem 1451 (by decide +kernel) (by decide +kernel))⟩
theorem fRX8_369 : zfw RX8 369 8 48 83 RX8 TX8 := ⟨rfl, by decide, zin8, by decide, Or.inl (zmem 1452 (by decide +kernel) (by decide +kernel))⟩
theorem fRX8_372 : zfw RX8 372 8 49 83 RX8 TX8 := ⟨rfl, by decide, zin8, by decide, Or.inl (zmem 1453 (by decide +kernel) (by decide +kernel))⟩
theorem fRX8_375 : zfw RX8 375 8 50 83 RX8 TX8 := ⟨rfl, by decide, zin8, by decide, Or.inl (zmem 1454 (by decide +kernel) (by decide +kernel))⟩
theorem fRX8_378 : zfw RX8 378 8 51 83 RX8 TX8 := ⟨rfl, by decide, zin8, by decide, Or.inl (zmem 1455 (by decide +kernel) (by decide +kernel))⟩
theorem fRX8_381 : zfw RX8 381 8 52 83 RX8 TX8 := ⟨rfl, by decide, zin8, by decide, Or.inl (zmem 1456 (by decide +kernel) (by decide +kernel))⟩
theorem fRX8_386 : zfw RX8 386 8 53 83 RX8 TX8 := ⟨rfl, by decide, zin8, by decide, Or.inl (zmem 1457 (by decide +kernel) (by decide +kernel))⟩
theorem fRX8_389 : zfw RX8 389 8 59 83 RX8 TX8 := ⟨rfl, by decide, zin8, by decide, Or.inl (zmem 1463 (by decide +kernel) (by decide +kernel))⟩
theorem fRX8_392 : zfw RX8 392 8 58 83 RX8 TX8 := ⟨rfl, by decide, zin8, by decide, Or.inl (zmem 1462 (by decide +kernel) (by decide +kernel))⟩
theorem fRX8_395 : zfw RX8 395 8 55 83 RX8 TX8 := ⟨rfl, by decide, zin8, by decide, Or.inl (zmem 1459 (by decide +kernel) (by decide +kernel))⟩
theorem fRX8_398 : zfw RX8 398 8 56 83 RX8 TX8 := ⟨rfl, by decide, zin8, by decide, Or.inl (zmem 1460 (by decide +kernel) (by decide +kernel))⟩
theorem fRX8_401 : zfw RX8 401 8 57 83 RX8 TX8 := ⟨rfl, by decide, zin8, by decide, Or.inl (zmem 1461 (by decide +kernel) (by decide +kernel))⟩
theorem fRX8_428 : zfw RX8 428 8 54 83 RX8 TX8 := ⟨rfl, by decide, zin8, by decide, Or.inl (zmem 1458 (by decide +kernel) (by decide +kernel))⟩
theorem fRX8_486 : zfw RX8 486 8 62 83 RX8 TX8 := ⟨rfl, by decide, zin8, by decide, Or.inl (zmem 1466 (by decide +kernel) (by decide +kernel))⟩
theorem fRX8_489 : zfw RX8 489 8 61 83 RX8 TX8 := ⟨rfl, by decide, zin8, by decide, Or.inl (zmem 1465 (by decide +kernel) (by decide +kernel))⟩
theorem fRX8_492 : zfw RX8 492 8 60 83 RX8 TX8 := ⟨rfl, by decide, zin8, by decide, Or.inl (zmem 1464 (by decide +kernel) (by decide +kernel))⟩
theorem fRX8_533 : zfw RX8 533 8 71 83 RX8 TX8 := ⟨rfl, by decide, zin8, by decide, Or.inl (zmem 1475 (by decide +kernel) (by decide +kernel))⟩
theorem fRX8_540 : zfw RX8 540 8 73 83 RX8 TX8 := ⟨rfl, by decide, zin8, by decide, Or.inl (zmem 1477 (by decide +kernel) (by decide +kernel))⟩
theorem fRX8_543 : zfw RX8 543 8 74 83 RX8 TX8 := ⟨rfl, by decide, zin8, by decide, Or.inl (zmem 1478 (by decide +kernel) (by decide +kernel))⟩
theorem fRX8_546 : zfw RX8 546 8 75 83 RX8 TX8 := ⟨rfl, by decide, zin8, by decide, Or.inl (zmem 1479 (by decide +kernel) (by decide +kernel))⟩
theorem cpRX6_97 : zcw RX6 97 := ⟨zmem 623 (by decide +kernel) (by decide +kernel), zmem 625 (by decide +kernel) (by decide +kernel), zmem 624 (by decide +kernel) (by decide +kernel), zmem 167 (by decide +kernel) (by decide +kernel)⟩
theorem cpRX7_365 : zcw RX7 365 := ⟨zmem 663 (by decide +kernel) (by decide +kernel), zmem 625 (by decide +kernel) (by decide +kernel), zmem 624 (by decide +kernel) (by decide +kernel), zmem 167 (by decide +kernel) (by decide +kernel)⟩
theorem mRX0_100 : zwM RX0 100 yX0_follow cX0_follow 3 none 1 := ⟨Or.inl (zmem 712 (by decide +kernel) (by decide +kernel)), zmem 156 (by decide +kernel) (by decide +kernel), zmem 715 (by decide +kernel) (by decide +kernel), by decide +kernel⟩
theorem mRX0_103 : zwM RX0 103 yX0_notice cX0_notice 5 none 0 := ⟨Or.inl (zmem 756 (by decide +kernel) (by decide +kernel)), zmem 156 (by decide +kernel) (by decide +kernel), zmem 759 (by decide +kernel) (by decide +kernel), by decide +kernel⟩
theorem mRX0_106 : zwM RX0 106 yX0_take cX0_take 5 none 1 := ⟨Or.inl (zmem 764 (by decide +kernel) (by decide +kernel)), zmem 156 (by decide +kernel) (by decide +kernel), zmem 767 (by decide +kernel) (by decide +kernel), by decide +kernel⟩
theorem mRX0_109 : zwM RX0 109 yX0_loseSight cX0_loseSight 2 none 0 := ⟨Or.inl (zmem 776 (by decide +kernel) (by decide +kernel)), zmem 156 (by decide +kernel) (by decide +kernel), zmem 779 (by decide +kernel) (by decide +kernel), by decide +kernel⟩
theorem mRX0_112 : zwM RX0 112 yX0_note cX0_note 3 none 1 := ⟨Or.inl (zmem 780 (by decide +kernel) (by decide +kernel)), zmem 156 (by decide +kernel) (by decide +kernel), zmem 783 (by decide +kernel) (by decide +kernel), by decide +kernel⟩
theorem mRX0_115 : zwM RX0 115 yX0_close cX0_close 3 none 0 := ⟨Or.inl (zmem 784 (by decide +kernel) (by decide +kernel)), zmem 156 (by decide +kernel) (by decide +kernel), zmem 787 (by decide +kernel) (by decide +kernel), by decide +kernel⟩
theorem mRX0_118 : zwM RX0 118 yX7_at cX7_at 2 (some .int) 2 := ⟨Or.inr ⟨"ShopEyes", zmem 690 (by decide +kernel) (by decide +kernel)⟩, zmem 149 (by decide +kernel) (by decide +kernel), zmem 613 (by decide +kernel) (by decide +kernel), by decide +kernel⟩
theorem mRX0_131 : zwM RX0 131 yX7_holds cX7_holds 2 (some .boolean) 2 := ⟨Or.inr ⟨"ShopEyes", zmem 675 (by decide +kernel) (by decide +kernel)⟩, zmem 149 (by decide +kernel) (by decide +kernel), zmem 645 (by decide +kernel) (by decide +kernel), by decide +kernel⟩
theorem mRX0_135 : zwM RX0 135 yX2_placeIn cX2_placeIn 4 (some .int) 2 := ⟨Or.inr ⟨"ShopEyes", zmem 676 (by decide +kernel) (by decide +kernel)⟩, zmem 152 (by decide +kernel) (by decide +kernel), zmem 679 (by decide +kernel) (by decide +kernel), by decide +kernel⟩
theorem mRX0_139 : zwM RX0 139 yX7_put cX7_put 3 none 3 := ⟨Or.inr ⟨"ShopEyes", zmem 689 (by decide +kernel) (by decide +kernel)⟩, zmem 149 (by decide +kernel) (by decide +kernel), zmem 586 (by decide +kernel) (by decide +kernel), by decide +kernel⟩
theorem mRX0_143 : zwM RX0 143 yX2_leavesIn cX2_leavesIn 3 (some .boolean) 2 := ⟨Or.inr ⟨"ShopEyes", zmem 691 (by decide +kernel) (by decide +kernel)⟩, zmem 152 (by decide +kernel) (by decide +kernel), zmem 694 (by decide +kernel) (by decide +kernel), by decide +kernel⟩
theorem mRX0_146 : zwM RX0 146 yX0_leave cX0_leave 5 none 1 := ⟨Or.inl (zmem 695 (by decide +kernel) (by decide +kernel)), zmem 156 (by decide +kernel) (by decide +kernel), zmem 698 (by decide +kernel) (by decide +kernel), by decide +kernel⟩
theorem mRX0_152 : zwM RX0 152 yX0_tally cX0_tally 3 none 2 := ⟨Or.inl (zmem 699 (by decide +kernel) (by decide +kernel)), zmem 156 (by decide +kernel) (by decide +kernel), zmem 702 (by decide +kernel) (by decide +kernel), by decide +kernel⟩
theorem mRX0_159 : zwM RX0 159 yX0_mark cX0_mark 3 none 2 := ⟨Or.inl (zmem 703 (by decide +kernel) (by decide +kernel)), zmem 156 (by decide +kernel) (by decide +kernel), zmem 706 (by decide +kernel) (by decide +kernel), by decide +kernel⟩
theorem mRX0_162 : zwM RX0 162 yX0_putBack cX0_putBack 2 none 1 := ⟨Or.inl (zmem 708 (by decide +kernel) (by decide +kernel)), zmem 156 (by decide +kernel) (by decide +kernel), zmem 711 (by decide +kernel) (by decide +kernel), by decide +kernel⟩
theorem mRX0_165 : zwM RX0 165 yX7_bit cX7_bit 1 (some .int) 1 := ⟨Or.inr ⟨"ShopEyes", zmem 707 (by decide +kernel) (by decide +kernel)⟩, zmem 149 (by decide +kernel) (by decide +kernel), zmem 648 (by decide +kernel) (by decide +kernel), by decide +kernel⟩
theorem mRX0_169 : zwM RX0 169 yX0_chosen cX0_chosen 6 (some .int) 1 := ⟨Or.inl (zmem 716 (by decide +kernel) (by decide +kernel)), zmem 156 (by decide +kernel) (by decide +kernel), zmem 719 (by decide +kernel) (by decide +kernel), by decide +kernel⟩
theorem mRX0_172 : zwM RX0 172 yX1_nearer cX1_nearer 5 (some .int) 2 := ⟨Or.inr ⟨"ShopEyes", zmem 746 (by decide +kernel) (by decide +kernel)⟩, zmem 151 (by decide +kernel) (by decide +kernel), zmem 749 (by decide +kernel) (by decide +kernel), by decide +kernel⟩
theorem mRX0_175 : zwM RX0 175 yX0_tellValues cX0_tellValues 6 none 2 := ⟨Or.inl (zmem 720 (by decide +kernel) (by decide +kernel)), zmem 156 (by decide +kernel) (by decide +kernel), zmem 723 (by decide +kernel) (by decide +kernel), by decide +kernel⟩
theorem mRX0_182 : zwM RX0 182 yX4_valueOf cX4_valueOf 8 (some .int) 2 := ⟨Or.inr ⟨"ShopEyes", zmem 729 (by decide +kernel) (by decide +kernel)⟩, zmem 153 (by decide +kernel) (by decide +kernel), zmem 732 (by decide +kernel) (by decide +kernel), by decide +kernel⟩
theorem mRX0_194 : zwM RX0 194 yX1_between cX1_between 3 (some .int) 2 := ⟨Or.inr ⟨"ShopEyes", zmem 724 (by decide +kernel) (by decide +kernel)⟩, zmem 151 (by decide +kernel) (by decide +kernel), zmem 727 (by decide +kernel) (by decide +kernel), by decide +kernel⟩
theorem mRX0_199 : zwM RX0 199 yX0_noticeHim cX0_noticeHim 2 none 1 := ⟨Or.inl (zmem 760 (by decide +kernel) (by decide +kernel)), zmem 156 (by decide +kernel) (by decide +kernel), zmem 763 (by decide +kernel) (by decide +kernel), by decide +kernel⟩
theorem mRX0_202 : zwM RX0 202 yX2_comesToTake cX2_comesToTake 3 (some .boolean) 2 := ⟨Or.inr ⟨"ShopEyes", zmem 768 (by decide +kernel) (by decide +kernel)⟩, zmem 152 (by decide +kernel) (by decide +kernel), zmem 771 (by decide +kernel) (by decide +kernel), by decide +kernel⟩
theorem mRX0_205 : zwM RX0 205 yX0_sees cX0_sees 2 (some .boolean) 1 := ⟨Or.inl (zmem 772 (by decide +kernel) (by decide +kernel)), zmem 156 (by decide +kernel) (by decide +kernel), zmem 775 (by decide +kernel) (by decide +kernel), by decide +kernel⟩
theorem mRX0_83 : zwM RX0 83 yX7_copyRow cX7_copyRow 2 none 2 := ⟨Or.inr ⟨"ShopEyes", zmem 657 (by decide +kernel) (by decide +kernel)⟩, zmem 149 (by decide +kernel) (by decide +kernel), zmem 659 (by decide +kernel) (by decide +kernel), by decide +kernel⟩
theorem mRX0_89 : zwM RX0 89 yX7_fillRow cX7_fillRow 3 none 2 := ⟨Or.inr ⟨"ShopEyes", zmem 668 (by decide +kernel) (by decide +kernel)⟩, zmem 149 (by decide +kernel) (by decide +kernel), zmem 670 (by decide +kernel) (by decide +kernel), by decide +kernel⟩
theorem mRX0_96 : zwM RX0 96 yX0_walk cX0_walk 3 none 1 := ⟨Or.inl (zmem 671 (by decide +kernel) (by decide +kernel)), zmem 156 (by decide +kernel) (by decide +kernel), zmem 674 (by decide +kernel) (by decide +kernel), by decide +kernel⟩
theorem mRX1_37 : zwM RX1 37 yX7_fillRow cX7_fillRow 3 none 2 := ⟨Or.inr ⟨"ShopEyes", zmem 937 (by decide +kernel) (by decide +kernel)⟩, zmem 149 (by decide +kernel) (by decide +kernel), zmem 670 (by decide +kernel) (by decide +kernel), by decide +kernel⟩
theorem mRX1_41 : zwM RX1 41 yX7_at cX7_at 2 (some .int) 2 := ⟨Or.inr ⟨"ShopEyes", zmem 728 (by decide +kernel) (by decide +kernel)⟩, zmem 149 (by decide +kernel) (by decide +kernel), zmem 613 (by decide +kernel) (by decide +kernel), by decide +kernel⟩
theorem mRX1_45 : zwM RX1 45 yX7_holds cX7_holds 2 (some .boolean) 2 := ⟨Or.inr ⟨"ShopEyes", zmem 755 (by decide +kernel) (by decide +kernel)⟩, zmem 149 (by decide +kernel) (by decide +kernel), zmem 645 (by decide +kernel) (by decide +kernel), by decide +kernel⟩
theorem mRX1_49 : zwM RX1 49 yX7_put cX7_put 3 none 3 := ⟨Or.inr ⟨"ShopEyes", zmem 1056 (by decide +kernel) (by decide +kernel)⟩, zmem 149 (by decide +kernel) (by decide +kernel), zmem 586 (by decide +kernel) (by decide +kernel), by decide +kernel⟩
theorem mRX1_53 : zwM RX1 53 yX7_bit cX7_bit 1 (some .int) 1 := ⟨Or.inr ⟨"ShopEyes", zmem 1066 (by decide +kernel) (by decide +kernel)⟩, zmem 149 (by decide +kernel) (by decide +kernel), zmem 648 (by decide +kernel) (by decide +kernel), by decide +kernel⟩
theorem mRX1_57 : zwM RX1 57 yX1_joins cX1_joins 3 (some .boolean) 2 := ⟨Or.inl (zmem 751 (by decide +kernel) (by decide +kernel)), zmem 151 (by decide +kernel) (by decide +kernel), zmem 754 (by decide +kernel) (by decide +kernel), by decide +kernel⟩
theorem mRX1_60 : zwM RX1 60 yX1_between cX1_between 3 (some .int) 2 := ⟨Or.inl (zmem 750 (by decide +kernel) (by decide +kernel)), zmem 151 (by decide +kernel) (by decide +kernel), zmem 727 (by decide +kernel) (by decide +kernel), by decide +kernel⟩
theorem mRX2_34 : zwM RX2 34 yX7_at cX7_at 2 (some .int) 2 := ⟨Or.inr ⟨"ShopEyes", zmem 680 (by decide +kernel) (by decide +kernel)⟩, zmem 149 (by decide +kernel) (by decide +kernel), zmem 613 (by decide +kernel) (by decide +kernel), by decide +kernel⟩
theorem mRX2_38 : zwM RX2 38 yX2_stepOf cX2_stepOf 3 (some .int) 2 := ⟨Or.inl (zmem 681 (by decide +kernel) (by decide +kernel)), zmem 152 (by decide +kernel) (by decide +kernel), zmem 684 (by decide +kernel) (by decide +kernel), by decide +kernel⟩
theorem mRX2_42 : zwM RX2 42 yX2_lastStep cX2_lastStep 2 (some .int) 1 := ⟨Or.inl (zmem 685 (by decide +kernel) (by decide +kernel)), zmem 152 (by decide +kernel) (by decide +kernel), zmem 688 (by decide +kernel) (by decide +kernel), by decide +kernel⟩
theorem mRX3_101 : zwM RX3 101 yX3_readAisle cX3_readAisle 3 none 0 := ⟨Or.inl (zmem 1048 (by decide +kernel) (by decide +kernel)), zmem 154 (by decide +kernel) (by decide +kernel), zmem 1051 (by decide +kernel) (by decide +kernel), by decide +kernel⟩
theorem mRX3_106 : zwM RX3 106 yX3_readWay cX3_readWay 3 none 0 := ⟨Or.inl (zmem 1058 (by decide +kernel) (by decide +kernel)), zmem 154 (by decide +kernel) (by decide +kernel), zmem 1061 (by decide +kernel) (by decide +kernel), by decide +kernel⟩
theorem mRX3_111 : zwM RX3 111 yX3_readMirror cX3_readMirror 3 none 0 := ⟨Or.inl (zmem 1068 (by decide +kernel) (by decide +kernel)), zmem 154 (by decide +kernel) (by decide +kernel), zmem 1071 (by decide +kernel) (by decide +kernel), by decide +kernel⟩
theorem mRX3_116 : zwM RX3 116 yX3_readRule cX3_readRule 1 none 0 := ⟨Or.inl (zmem 1078 (by decide +kernel) (by decide +kernel)), zmem 154 (by decide +kernel) (by decide +kernel), zmem 1081 (by decide +kernel) (by decide +kernel), by decide +kernel⟩
theorem mRX3_121 : zwM RX3 121 yX3_readSetting cX3_readSetting 4 (some .int) 3 := ⟨Or.inl (zmem 1145 (by decide +kernel) (by decide +kernel)), zmem 154 (by decide +kernel) (by decide +kernel), zmem 1148 (by decide +kernel) (by decide +kernel), by decide +kernel⟩
theorem mRX3_136 : zwM RX3 136 yX3_fail cX3_fail 2 none 1 := ⟨Or.inl (zmem 1028 (by decide +kernel) (by decide +kernel)), zmem 154 (by decide +kernel) (by decide +kernel), zmem 1031 (by decide +kernel) (by decide +kernel), by decide +kernel⟩
theorem mRX3_139 : zwM RX3 139 yX3_readSign cX3_readSign 2 none 1 := ⟨Or.inl (zmem 1134 (by decide +kernel) (by decide +kernel)), zmem 154 (by decide +kernel) (by decide +kernel), zmem 1137 (by decide +kernel) (by decide +kernel), by decide +kernel⟩
theorem mRX3_150 : zwM RX3 150 yX3_isSign cX3_isSign 2 (some .boolean) 1 := ⟨Or.inl (zmem 1086 (by decide +kernel) (by decide +kernel)), zmem 154 (by decide +kernel) (by decide +kernel), zmem 1089 (by decide +kernel) (by decide +kernel), by decide +kernel⟩
theorem mRX3_153 : zwM RX3 153 yX1_hasAisle cX1_hasAisle 2 (some .boolean) 1 := ⟨Or.inr ⟨"ShopEyes", zmem 1045 (by decide +kernel) (by decide +kernel)⟩, zmem 151 (by decide +kernel) (by decide +kernel), zmem 606 (by decide +kernel) (by decide +kernel), by decide +kernel⟩
theorem mRX3_159 : zwM RX3 159 yX3_readFirst cX3_readFirst 3 none 2 := ⟨Or.inl (zmem 1024 (by decide +kernel) (by decide +kernel)), zmem 154 (by decide +kernel) (by decide +kernel), zmem 1027 (by decide +kernel) (by decide +kernel), by decide +kernel⟩
theorem mRX3_163 : zwM RX3 163 yX3_readNumber cX3_readNumber 4 (some .int) 2 := ⟨Or.inl (zmem 1033 (by decide +kernel) (by decide +kernel)), zmem 154 (by decide +kernel) (by decide +kernel), zmem 1036 (by decide +kernel) (by decide +kernel), by decide +kernel⟩
theorem mRX3_167 : zwM RX3 167 yX1_addAisle cX1_addAisle 3 none 2 := ⟨Or.inr ⟨"ShopEyes", zmem 1052 (by decide +kernel) (by decide +kernel)⟩, zmem 151 (by decide +kernel) (by decide +kernel), zmem 1055 (by decide +kernel) (by decide +kernel), by decide +kernel⟩
theorem mRX3_173 : zwM RX3 173 yX3_aisleHere cX3_aisleHere 1 (some .int) 0 := ⟨Or.inl (zmem 1041 (by decide +kernel) (by decide +kernel)), zmem 154 (by decide +kernel) (by decide +kernel), zmem 1044 (by decide +kernel) (by decide +kernel), by decide +kernel⟩
theorem mRX3_176 : zwM RX3 176 yX1_joins cX1_joins 3 (some .boolean) 2 := ⟨Or.inr ⟨"ShopEyes", zmem 1046 (by decide +kernel) (by decide +kernel)⟩, zmem 151 (by decide +kernel) (by decide +kernel), zmem 754 (by decide +kernel) (by decide +kernel), by decide +kernel⟩
theorem mRX3_180 : zwM RX3 180 yX1_addWay cX1_addWay 3 none 2 := ⟨Or.inr ⟨"ShopEyes", zmem 1062 (by decide +kernel) (by decide +kernel)⟩, zmem 151 (by decide +kernel) (by decide +kernel), zmem 1065 (by decide +kernel) (by decide +kernel), by decide +kernel⟩
theorem mRX3_189 : zwM RX3 189 yX7_holds cX7_holds 2 (some .boolean) 2 := ⟨Or.inr ⟨"ShopEyes", zmem 1072 (by decide +kernel) (by decide +kernel)⟩, zmem 149 (by decide +kernel) (by decide +kernel), zmem 645 (by decide +kernel) (by decide +kernel), by decide +kernel⟩
theorem mRX3_192 : zwM RX3 192 yX1_addMirror cX1_addMirror 3 none 2 := ⟨Or.inr ⟨"ShopEyes", zmem 1073 (by decide +kernel) (by decide +kernel)⟩, zmem 151 (by decide +kernel) (by decide +kernel), zmem 1076 (by decide +kernel) (by decide +kernel), by decide +kernel⟩
theorem mRX3_207 : zwM RX3 207 yX7_put cX7_put 3 none 3 := ⟨Or.inr ⟨"ShopEyes", zmem 1032 (by decide +kernel) (by decide +kernel)⟩, zmem 149 (by decide +kernel) (by decide +kernel), zmem 586 (by decide +kernel) (by decide +kernel), by decide +kernel⟩
theorem mRX3_220 : zwM RX3 220 yX3_readRoute cX3_readRoute 7 (some .int) 1 := ⟨Or.inl (zmem 1037 (by decide +kernel) (by decide +kernel)), zmem 154 (by decide +kernel) (by decide +kernel), zmem 1040 (by decide +kernel) (by decide +kernel), by decide +kernel⟩
theorem mRX3_236 : zwM RX3 236 yX3_readExpr cX3_readExpr 3 none 1 := ⟨Or.inl (zmem 1082 (by decide +kernel) (by decide +kernel)), zmem 154 (by decide +kernel) (by decide +kernel), zmem 1085 (by decide +kernel) (by decide +kernel), by decide +kernel⟩
theorem mRX3_239 : zwM RX3 239 yX4_endRule cX4_endRule 1 none 0 := ⟨Or.inr ⟨"ShopEyes", zmem 1140 (by decide +kernel) (by decide +kernel)⟩, zmem 153 (by decide +kernel) (by decide +kernel), zmem 1143 (by decide +kernel) (by decide +kernel), by decide +kernel⟩
theorem mRX3_242 : zwM RX3 242 yX3_readAnd cX3_readAnd 3 none 1 := ⟨Or.inl (zmem 1090 (by decide +kernel) (by decide +kernel)), zmem 154 (by decide +kernel) (by decide +kernel), zmem 1093 (by decide +kernel) (by decide +kernel), by decide +kernel⟩
theorem mRX3_247 : zwM RX3 247 yX4_add cX4_add 2 none 1 := ⟨Or.inr ⟨"ShopEyes", zmem 1115 (by decide +kernel) (by decide +kernel)⟩, zmem 153 (by decide +kernel) (by decide +kernel), zmem 1118 (by decide +kernel) (by decide +kernel), by decide +kernel⟩
theorem mRX3_250 : zwM RX3 250 yX3_readNot cX3_readNot 3 none 2 := ⟨Or.inl (zmem 1094 (by decide +kernel) (by decide +kernel)), zmem 154 (by decide +kernel) (by decide +kernel), zmem 1097 (by decide +kernel) (by decide +kernel), by decide +kernel⟩
theorem mRX3_257 : zwM RX3 257 yX3_readTest cX3_readTest 3 none 1 := ⟨Or.inl (zmem 1099 (by decide +kernel) (by decide +kernel)), zmem 154 (by decide +kernel) (by decide +kernel), zmem 1102 (by decide +kernel) (by decide +kernel), by decide +kernel⟩
theorem mRX3_260 : zwM RX3 260 yX3_readSum cX3_readSum 4 none 1 := ⟨Or.inl (zmem 1103 (by decide +kernel) (by decide +kernel)), zmem 154 (by decide +kernel) (by decide +kernel), zmem 1106 (by decide +kernel) (by decide +kernel), by decide +kernel⟩
theorem mRX3_263 : zwM RX3 263 yX3_readProduct cX3_readProduct 4 none 1 := ⟨Or.inl (zmem 1107 (by decide +kernel) (by decide +kernel)), zmem 154 (by decide +kernel) (by decide +kernel), zmem 1110 (by decide +kernel) (by decide +kernel), by decide +kernel⟩
theorem mRX3_266 : zwM RX3 266 yX3_readPart cX3_readPart 2 none 1 := ⟨Or.inl (zmem 1111 (by decide +kernel) (by decide +kernel)), zmem 154 (by decide +kernel) (by decide +kernel), zmem 1114 (by decide +kernel) (by decide +kernel), by decide +kernel⟩
theorem mRX3_269 : zwM RX3 269 yX3_valueTold cX3_valueTold 1 (some .int) 0 := ⟨Or.inl (zmem 1119 (by decide +kernel) (by decide +kernel)), zmem 154 (by decide +kernel) (by decide +kernel), zmem 1122 (by decide +kernel) (by decide +kernel), by decide +kernel⟩
theorem mRX3_272 : zwM RX3 272 yX3_readValue cX3_readValue 2 none 1 := ⟨Or.inl (zmem 1130 (by decide +kernel) (by decide +kernel)), zmem 154 (by decide +kernel) (by decide +kernel), zmem 1133 (by decide +kernel) (by decide +kernel), by decide +kernel⟩
theorem mRX3_47 : zwM RX3 47 yX5_clear cX5_clear 1 none 0 := ⟨Or.inr ⟨"ShopEyes", zmem 929 (by decide +kernel) (by decide +kernel)⟩, zmem 150 (by decide +kernel) (by decide +kernel), zmem 932 (by decide +kernel) (by decide +kernel), by decide +kernel⟩
theorem mRX3_50 : zwM RX3 50 yX3_readToken cX3_readToken 3 none 0 := ⟨Or.inl (zmem 942 (by decide +kernel) (by decide +kernel)), zmem 154 (by decide +kernel) (by decide +kernel), zmem 945 (by decide +kernel) (by decide +kernel), by decide +kernel⟩
theorem mRX3_53 : zwM RX3 53 yX3_readLine cX3_readLine 2 none 0 := ⟨Or.inl (zmem 956 (by decide +kernel) (by decide +kernel)), zmem 154 (by decide +kernel) (by decide +kernel), zmem 959 (by decide +kernel) (by decide +kernel), by decide +kernel⟩
theorem mRX3_60 : zwM RX3 60 yX1_measure cX1_measure 5 none 0 := ⟨Or.inr ⟨"ShopEyes", zmem 1151 (by decide +kernel) (by decide +kernel)⟩, zmem 151 (by decide +kernel) (by decide +kernel), zmem 1154 (by decide +kernel) (by decide +kernel), by decide +kernel⟩
theorem mRX3_65 : zwM RX3 65 yX7_at cX7_at 2 (some .int) 2 := ⟨Or.inr ⟨"ShopEyes", zmem 946 (by decide +kernel) (by decide +kernel)⟩, zmem 149 (by decide +kernel) (by decide +kernel), zmem 613 (by decide +kernel) (by decide +kernel), by decide +kernel⟩
theorem mRX3_69 : zwM RX3 69 yX3_isBlank cX3_isBlank 1 (some .boolean) 1 := ⟨Or.inl (zmem 947 (by decide +kernel) (by decide +kernel)), zmem 154 (by decide +kernel) (by decide +kernel), zmem 949 (by decide +kernel) (by decide +kernel), by decide +kernel⟩
theorem mRX3_73 : zwM RX3 73 yX3_isLetter cX3_isLetter 1 (some .boolean) 1 := ⟨Or.inl (zmem 950 (by decide +kernel) (by decide +kernel)), zmem 154 (by decide +kernel) (by decide +kernel), zmem 952 (by decide +kernel) (by decide +kernel), by decide +kernel⟩
theorem mRX3_76 : zwM RX3 76 yX3_isDigit cX3_isDigit 1 (some .boolean) 1 := ⟨Or.inl (zmem 953 (by decide +kernel) (by decide +kernel)), zmem 154 (by decide +kernel) (by decide +kernel), zmem 955 (by decide +kernel) (by decide +kernel), by decide +kernel⟩
theorem mRX3_79 : zwM RX3 79 yJ0_length_8abf5 cJ0_length_8abf5 1 (some .int) 0 := ⟨Or.inl (zmem 969 (by decide +kernel) (by decide +kernel)), zmem 162 (by decide +kernel) (by decide +kernel), zmem 972 (by decide +kernel) (by decide +kernel), by decide +kernel⟩
theorem mRX3_84 : zwM RX3 84 yJ0_charAt_5068e cJ0_charAt_5068e 2 (some .char) 1 := ⟨Or.inl (zmem 979 (by decide +kernel) (by decide +kernel)), zmem 162 (by decide +kernel) (by decide +kernel), zmem 982 (by decide +kernel) (by decide +kernel), by decide +kernel⟩
theorem mRX3_88 : zwM RX3 88 yX3_sortTold cX3_sortTold 1 (some .int) 0 := ⟨Or.inl (zmem 960 (by decide +kernel) (by decide +kernel)), zmem 154 (by decide +kernel) (by decide +kernel), zmem 963 (by decide +kernel) (by decide +kernel), by decide +kernel⟩
theorem mRX3_91 : zwM RX3 91 yX3_readPerson cX3_readPerson 6 none 1 := ⟨Or.inl (zmem 1020 (by decide +kernel) (by decide +kernel)), zmem 154 (by decide +kernel) (by decide +kernel), zmem 1023 (by decide +kernel) (by decide +kernel), by decide +kernel⟩
theorem mRX3_97 : zwM RX3 97 yX3_isWord cX3_isWord 3 (some .boolean) 1 := ⟨Or.inl (zmem 965 (by decide +kernel) (by decide +kernel)), zmem 154 (by decide +kernel) (by decide +kernel), zmem 968 (by decide +kernel) (by decide +kernel), by decide +kernel⟩
theorem mRX4_31 : zwM RX4 31 yX7_put cX7_put 3 none 3 := ⟨Or.inr ⟨"ShopEyes", zmem 738 (by decide +kernel) (by decide +kernel)⟩, zmem 149 (by decide +kernel) (by decide +kernel), zmem 586 (by decide +kernel) (by decide +kernel), by decide +kernel⟩
theorem mRX4_35 : zwM RX4 35 yX7_at cX7_at 2 (some .int) 2 := ⟨Or.inr ⟨"ShopEyes", zmem 733 (by decide +kernel) (by decide +kernel)⟩, zmem 149 (by decide +kernel) (by decide +kernel), zmem 613 (by decide +kernel) (by decide +kernel), by decide +kernel⟩
theorem mRX4_39 : zwM RX4 39 yX4_push cX4_push 2 none 1 := ⟨Or.inl (zmem 734 (by decide +kernel) (by decide +kernel)), zmem 153 (by decide +kernel) (by decide +kernel), zmem 737 (by decide +kernel) (by decide +kernel), by decide +kernel⟩
theorem mRX4_43 : zwM RX4 43 yX4_pop cX4_pop 1 (some .int) 0 := ⟨Or.inl (zmem 739 (by decide +kernel) (by decide +kernel)), zmem 153 (by decide +kernel) (by decide +kernel), zmem 742 (by decide +kernel) (by decide +kernel), by decide +kernel⟩
theorem mRX4_47 : zwM RX4 47 yX4_join cX4_join 3 (some .int) 3 := ⟨Or.inl (zmem 743 (by decide +kernel) (by decide +kernel)), zmem 153 (by decide +kernel) (by decide +kernel), zmem 745 (by decide +kernel) (by decide +kernel), by decide +kernel⟩
theorem mRX5_42 : zwM RX5 42 yX1_clear cX1_clear 1 none 0 := ⟨Or.inr ⟨"ShopEyes", zmem 933 (by decide +kernel) (by decide +kernel)⟩, zmem 151 (by decide +kernel) (by decide +kernel), zmem 936 (by decide +kernel) (by decide +kernel), by decide +kernel⟩
theorem mRX5_48 : zwM RX5 48 yX4_clear cX4_clear 1 none 0 := ⟨Or.inr ⟨"ShopEyes", zmem 938 (by decide +kernel) (by decide +kernel)⟩, zmem 153 (by decide +kernel) (by decide +kernel), zmem 941 (by decide +kernel) (by decide +kernel), by decide +kernel⟩
theorem mRX6_84 : zwM RX6 84 yX7_copyRow cX7_copyRow 2 none 2 := ⟨Or.inr ⟨"ShopEyes", zmem 850 (by decide +kernel) (by decide +kernel)⟩, zmem 149 (by decide +kernel) (by decide +kernel), zmem 659 (by decide +kernel) (by decide +kernel), by decide +kernel⟩
theorem mRX6_89 : zwM RX6 89 yX7_at cX7_at 2 (some .int) 2 := ⟨Or.inr ⟨"ShopEyes", zmem 611 (by decide +kernel) (by decide +kernel)⟩, zmem 149 (by decide +kernel) (by decide +kernel), zmem 613 (by decide +kernel) (by decide +kernel), by decide +kernel⟩
theorem mRX6_93 : zwM RX6 93 yX7_put cX7_put 3 none 3 := ⟨Or.inr ⟨"ShopEyes", zmem 614 (by decide +kernel) (by decide +kernel)⟩, zmem 149 (by decide +kernel) (by decide +kernel), zmem 586 (by decide +kernel) (by decide +kernel), by decide +kernel⟩
theorem mRX7_100 : zwM RX7 100 yX6_begin cX6_begin 2 none 1 := ⟨Or.inr ⟨"ShopEyes", zmem 1160 (by decide +kernel) (by decide +kernel)⟩, zmem 155 (by decide +kernel) (by decide +kernel), zmem 1163 (by decide +kernel) (by decide +kernel), by decide +kernel⟩
theorem mRX7_167 : zwM RX7 167 yX7_at cX7_at 2 (some .int) 2 := ⟨Or.inl (zmem 642 (by decide +kernel) (by decide +kernel)), zmem 149 (by decide +kernel) (by decide +kernel), zmem 613 (by decide +kernel) (by decide +kernel), by decide +kernel⟩
theorem mRX7_174 : zwM RX7 174 yX7_needAisle cX7_needAisle 2 none 1 := ⟨Or.inl (zmem 1195 (by decide +kernel) (by decide +kernel)), zmem 149 (by decide +kernel) (by decide +kernel), zmem 1198 (by decide +kernel) (by decide +kernel), by decide +kernel⟩
theorem mRX7_189 : zwM RX7 189 yX7_needPerson cX7_needPerson 2 none 1 := ⟨Or.inl (zmem 1206 (by decide +kernel) (by decide +kernel)), zmem 149 (by decide +kernel) (by decide +kernel), zmem 1209 (by decide +kernel) (by decide +kernel), by decide +kernel⟩
theorem mRX7_207 : zwM RX7 207 yX2_stepOf cX2_stepOf 3 (some .int) 2 := ⟨Or.inr ⟨"ShopEyes", zmem 1217 (by decide +kernel) (by decide +kernel)⟩, zmem 152 (by decide +kernel) (by decide +kernel), zmem 684 (by decide +kernel) (by decide +kernel), by decide +kernel⟩
theorem mRX7_211 : zwM RX7 211 yX1_between cX1_between 3 (some .int) 2 := ⟨Or.inr ⟨"ShopEyes", zmem 1225 (by decide +kernel) (by decide +kernel)⟩, zmem 151 (by decide +kernel) (by decide +kernel), zmem 727 (by decide +kernel) (by decide +kernel), by decide +kernel⟩
theorem mRX7_214 : zwM RX7 214 yX7_canWatch cX7_canWatch 3 (some .boolean) 2 := ⟨Or.inl (zmem 595 (by decide +kernel) (by decide +kernel)), zmem 149 (by decide +kernel) (by decide +kernel), zmem 598 (by decide +kernel) (by decide +kernel), by decide +kernel⟩
theorem mRX7_218 : zwM RX7 218 yX7_beginAct cX7_beginAct 1 none 0 := ⟨Or.inl (zmem 615 (by decide +kernel) (by decide +kernel)), zmem 149 (by decide +kernel) (by decide +kernel), zmem 618 (by decide +kernel) (by decide +kernel), by decide +kernel⟩
theorem mRX7_221 : zwM RX7 221 yX2_hasPerson cX2_hasPerson 2 (some .boolean) 1 := ⟨Or.inr ⟨"ShopEyes", zmem 599 (by decide +kernel) (by decide +kernel)⟩, zmem 152 (by decide +kernel) (by decide +kernel), zmem 602 (by decide +kernel) (by decide +kernel), by decide +kernel⟩
theorem mRX7_225 : zwM RX7 225 yX1_hasAisle cX1_hasAisle 2 (some .boolean) 1 := ⟨Or.inr ⟨"ShopEyes", zmem 603 (by decide +kernel) (by decide +kernel)⟩, zmem 151 (by decide +kernel) (by decide +kernel), zmem 606 (by decide +kernel) (by decide +kernel), by decide +kernel⟩
theorem mRX7_228 : zwM RX7 228 yX7_canHang cX7_canHang 3 (some .boolean) 2 := ⟨Or.inl (zmem 638 (by decide +kernel) (by decide +kernel)), zmem 149 (by decide +kernel) (by decide +kernel), zmem 641 (by decide +kernel) (by decide +kernel), by decide +kernel⟩
theorem mRX7_231 : zwM RX7 231 yX7_bit cX7_bit 1 (some .int) 1 := ⟨Or.inl (zmem 646 (by decide +kernel) (by decide +kernel)), zmem 149 (by decide +kernel) (by decide +kernel), zmem 648 (by decide +kernel) (by decide +kernel), by decide +kernel⟩
theorem mRX7_234 : zwM RX7 234 yX7_holds cX7_holds 2 (some .boolean) 2 := ⟨Or.inl (zmem 643 (by decide +kernel) (by decide +kernel)), zmem 149 (by decide +kernel) (by decide +kernel), zmem 645 (by decide +kernel) (by decide +kernel), by decide +kernel⟩
theorem mRX7_237 : zwM RX7 237 yX0_prepare cX0_prepare 3 none 2 := ⟨Or.inr ⟨"ShopEyes", zmem 653 (by decide +kernel) (by decide +kernel)⟩, zmem 156 (by decide +kernel) (by decide +kernel), zmem 656 (by decide +kernel) (by decide +kernel), by decide +kernel⟩
theorem mRX7_241 : zwM RX7 241 yX0_run cX0_run 3 (some .int) 0 := ⟨Or.inr ⟨"ShopEyes", zmem 664 (by decide +kernel) (by decide +kernel)⟩, zmem 156 (by decide +kernel) (by decide +kernel), zmem 667 (by decide +kernel) (by decide +kernel), by decide +kernel⟩
theorem mRX7_246 : zwM RX7 246 yX7_copyRow cX7_copyRow 2 none 2 := ⟨Or.inl (zmem 788 (by decide +kernel) (by decide +kernel)), zmem 149 (by decide +kernel) (by decide +kernel), zmem 659 (by decide +kernel) (by decide +kernel), by decide +kernel⟩
theorem mRX7_250 : zwM RX7 250 yX6_undoLast cX6_undoLast 3 none 0 := ⟨Or.inr ⟨"ShopEyes", zmem 793 (by decide +kernel) (by decide +kernel)⟩, zmem 155 (by decide +kernel) (by decide +kernel), zmem 796 (by decide +kernel) (by decide +kernel), by decide +kernel⟩
theorem mRX7_253 : zwM RX7 253 yX7_knowToday cX7_knowToday 1 none 0 := ⟨Or.inl (zmem 1240 (by decide +kernel) (by decide +kernel)), zmem 149 (by decide +kernel) (by decide +kernel), zmem 1243 (by decide +kernel) (by decide +kernel), by decide +kernel⟩
theorem mRX7_259 : zwM RX7 259 yX7_needMinute cX7_needMinute 1 none 1 := ⟨Or.inl (zmem 1251 (by decide +kernel) (by decide +kernel)), zmem 149 (by decide +kernel) (by decide +kernel), zmem 1253 (by decide +kernel) (by decide +kernel), by decide +kernel⟩
theorem mRX7_262 : zwM RX7 262 yX2_placeIn cX2_placeIn 4 (some .int) 2 := ⟨Or.inr ⟨"ShopEyes", zmem 1254 (by decide +kernel) (by decide +kernel)⟩, zmem 152 (by decide +kernel) (by decide +kernel), zmem 679 (by decide +kernel) (by decide +kernel), by decide +kernel⟩
theorem mRX7_271 : zwM RX7 271 yX7_costWatched cX7_costWatched 3 (some .int) 2 := ⟨Or.inl (zmem 1276 (by decide +kernel) (by decide +kernel)), zmem 149 (by decide +kernel) (by decide +kernel), zmem 1279 (by decide +kernel) (by decide +kernel), by decide +kernel⟩
theorem mRX7_277 : zwM RX7 277 yX7_costMirrored cX7_costMirrored 3 (some .int) 2 := ⟨Or.inl (zmem 1287 (by decide +kernel) (by decide +kernel)), zmem 149 (by decide +kernel) (by decide +kernel), zmem 1290 (by decide +kernel) (by decide +kernel), by decide +kernel⟩
theorem mRX7_281 : zwM RX7 281 yX7_costLaid cX7_costLaid 3 (some .int) 1 := ⟨Or.inl (zmem 805 (by decide +kernel) (by decide +kernel)), zmem 149 (by decide +kernel) (by decide +kernel), zmem 808 (by decide +kernel) (by decide +kernel), by decide +kernel⟩
theorem mRX7_284 : zwM RX7 284 yX7_nextOrder cX7_nextOrder 6 (some .boolean) 2 := ⟨Or.inl (zmem 809 (by decide +kernel) (by decide +kernel)), zmem 149 (by decide +kernel) (by decide +kernel), zmem 811 (by decide +kernel) (by decide +kernel), by decide +kernel⟩
theorem mRX7_289 : zwM RX7 289 yX7_swap cX7_swap 4 none 3 := ⟨Or.inl (zmem 812 (by decide +kernel) (by decide +kernel)), zmem 149 (by decide +kernel) (by decide +kernel), zmem 814 (by decide +kernel) (by decide +kernel), by decide +kernel⟩
theorem mRX7_301 : zwM RX7 301 yX6_hadFrom cX6_hadFrom 4 (some .int) 1 := ⟨Or.inr ⟨"ShopEyes", zmem 823 (by decide +kernel) (by decide +kernel)⟩, zmem 155 (by decide +kernel) (by decide +kernel), zmem 826 (by decide +kernel) (by decide +kernel), by decide +kernel⟩
theorem mRX7_304 : zwM RX7 304 yX6_toldFrom cX6_toldFrom 4 (some .int) 1 := ⟨Or.inr ⟨"ShopEyes", zmem 827 (by decide +kernel) (by decide +kernel)⟩, zmem 155 (by decide +kernel) (by decide +kernel), zmem 830 (by decide +kernel) (by decide +kernel), by decide +kernel⟩
theorem mRX7_307 : zwM RX7 307 yX7_fraction cX7_fraction 7 (some .int) 3 := ⟨Or.inl (zmem 1312 (by decide +kernel) (by decide +kernel)), zmem 149 (by decide +kernel) (by decide +kernel), zmem 1314 (by decide +kernel) (by decide +kernel), by decide +kernel⟩
theorem mRX7_311 : zwM RX7 311 yX7_isMinute cX7_isMinute 1 (some .boolean) 1 := ⟨Or.inl (zmem 835 (by decide +kernel) (by decide +kernel)), zmem 149 (by decide +kernel) (by decide +kernel), zmem 837 (by decide +kernel) (by decide +kernel), by decide +kernel⟩
theorem mRX7_320 : zwM RX7 320 yX7_fewest cX7_fewest 4 (some .int) 0 := ⟨Or.inl (zmem 1329 (by decide +kernel) (by decide +kernel)), zmem 149 (by decide +kernel) (by decide +kernel), zmem 1332 (by decide +kernel) (by decide +kernel), by decide +kernel⟩
theorem mRX7_323 : zwM RX7 323 yX7_canHave cX7_canHave 7 (some .int) 1 := ⟨Or.inl (zmem 1333 (by decide +kernel) (by decide +kernel)), zmem 149 (by decide +kernel) (by decide +kernel), zmem 1336 (by decide +kernel) (by decide +kernel), by decide +kernel⟩
theorem mRX7_326 : zwM RX7 326 yJ6_bitCount_0f7a4 cJ6_bitCount_0f7a4 1 (some .int) 1 := ⟨Or.inl (zmem 1337 (by decide +kernel) (by decide +kernel)), zmem 169 (by decide +kernel) (by decide +kernel), zmem 1339 (by decide +kernel) (by decide +kernel), by decide +kernel⟩
theorem mRX7_331 : zwM RX7 331 yX7_explains cX7_explains 3 (some .boolean) 1 := ⟨Or.inl (zmem 1343 (by decide +kernel) (by decide +kernel)), zmem 149 (by decide +kernel) (by decide +kernel), zmem 1346 (by decide +kernel) (by decide +kernel), by decide +kernel⟩
theorem mRX7_334 : zwM RX7 334 yX7_resting cX7_resting 6 (some .int) 1 := ⟨Or.inl (zmem 1354 (by decide +kernel) (by decide +kernel)), zmem 149 (by decide +kernel) (by decide +kernel), zmem 1357 (by decide +kernel) (by decide +kernel), by decide +kernel⟩
theorem mRX7_337 : zwM RX7 337 yX7_safest cX7_safest 6 (some .int) 1 := ⟨Or.inl (zmem 1366 (by decide +kernel) (by decide +kernel)), zmem 149 (by decide +kernel) (by decide +kernel), zmem 1369 (by decide +kernel) (by decide +kernel), by decide +kernel⟩
theorem mRX7_340 : zwM RX7 340 yX7_rests cX7_rests 5 (some .boolean) 2 := ⟨Or.inl (zmem 1358 (by decide +kernel) (by decide +kernel)), zmem 149 (by decide +kernel) (by decide +kernel), zmem 1361 (by decide +kernel) (by decide +kernel), by decide +kernel⟩
theorem mRX7_343 : zwM RX7 343 yX7_gain cX7_gain 4 (some .int) 2 := ⟨Or.inl (zmem 1362 (by decide +kernel) (by decide +kernel)), zmem 149 (by decide +kernel) (by decide +kernel), zmem 1365 (by decide +kernel) (by decide +kernel), by decide +kernel⟩
theorem mRX7_346 : zwM RX7 346 yX7_mostGain cX7_mostGain 4 (some .int) 1 := ⟨Or.inl (zmem 1370 (by decide +kernel) (by decide +kernel)), zmem 149 (by decide +kernel) (by decide +kernel), zmem 1373 (by decide +kernel) (by decide +kernel), by decide +kernel⟩
theorem mRX7_355 : zwM RX7 355 yX6_copy cX6_copy 2 none 1 := ⟨Or.inr ⟨"ShopEyes", zmem 846 (by decide +kernel) (by decide +kernel)⟩, zmem 155 (by decide +kernel) (by decide +kernel), zmem 849 (by decide +kernel) (by decide +kernel), by decide +kernel⟩
theorem mRX7_359 : zwM RX7 359 yX6_keepAct cX6_keepAct 3 none 0 := ⟨Or.inr ⟨"ShopEyes", zmem 619 (by decide +kernel) (by decide +kernel)⟩, zmem 155 (by decide +kernel) (by decide +kernel), zmem 622 (by decide +kernel) (by decide +kernel), by decide +kernel⟩
theorem mRX7_72 : zwM RX7 72 yX7_tellBytes cX7_tellBytes 3 none 1 := ⟨Or.inl (zmem 580 (by decide +kernel) (by decide +kernel)), zmem 149 (by decide +kernel) (by decide +kernel), zmem 583 (by decide +kernel) (by decide +kernel), by decide +kernel⟩
theorem mRX7_79 : zwM RX7 79 yX7_put cX7_put 3 none 3 := ⟨Or.inl (zmem 584 (by decide +kernel) (by decide +kernel)), zmem 149 (by decide +kernel) (by decide +kernel), zmem 586 (by decide +kernel) (by decide +kernel), by decide +kernel⟩
theorem mRX7_86 : zwM RX7 86 yX3_read cX3_read 3 (some .int) 1 := ⟨Or.inr ⟨"ShopEyes", zmem 925 (by decide +kernel) (by decide +kernel)⟩, zmem 154 (by decide +kernel) (by decide +kernel), zmem 928 (by decide +kernel) (by decide +kernel), by decide +kernel⟩
theorem mRX7_93 : zwM RX7 93 yX6_refuse cX6_refuse 2 none 1 := ⟨Or.inr ⟨"ShopEyes", zmem 607 (by decide +kernel) (by decide +kernel)⟩, zmem 155 (by decide +kernel) (by decide +kernel), zmem 610 (by decide +kernel) (by decide +kernel), by decide +kernel⟩
theorem mRX7_96 : zwM RX7 96 yX3_changeFor cX3_changeFor 3 (some (.object "ShopEyes$Shop")) 1 := ⟨Or.inr ⟨"ShopEyes", zmem 1156 (by decide +kernel) (by decide +kernel)⟩, zmem 154 (by decide +kernel) (by decide +kernel), zmem 1159 (by decide +kernel) (by decide +kernel), by decide +kernel⟩
theorem mRX8_162 : zwM RX8 162 yX8_isIn cX8_isIn 6 (some .boolean) 3 := ⟨Or.inl (zmem 1808 (by decide +kernel) (by decide +kernel)), zmem 157 (by decide +kernel) (by decide +kernel), zmem 1810 (by decide +kernel) (by decide +kernel), by decide +kernel⟩
theorem mRX8_177 : zwM RX8 177 yX8_byteAt cX8_byteAt 2 (some .int) 1 := ⟨Or.inl (zmem 1674 (by decide +kernel) (by decide +kernel)), zmem 157 (by decide +kernel) (by decide +kernel), zmem 1677 (by decide +kernel) (by decide +kernel), by decide +kernel⟩
theorem mRX8_187 : zwM RX8 187 yX8_isLetter cX8_isLetter 1 (some .boolean) 1 := ⟨Or.inl (zmem 1678 (by decide +kernel) (by decide +kernel)), zmem 157 (by decide +kernel) (by decide +kernel), zmem 1680 (by decide +kernel) (by decide +kernel), by decide +kernel⟩
theorem mRX8_191 : zwM RX8 191 yX8_isDigit cX8_isDigit 1 (some .boolean) 1 := ⟨Or.inl (zmem 1681 (by decide +kernel) (by decide +kernel)), zmem 157 (by decide +kernel) (by decide +kernel), zmem 1683 (by decide +kernel) (by decide +kernel), by decide +kernel⟩
theorem mRX8_204 : zwM RX8 204 yX8_isMark cX8_isMark 1 (some .boolean) 1 := ⟨Or.inl (zmem 1686 (by decide +kernel) (by decide +kernel)), zmem 157 (by decide +kernel) (by decide +kernel), zmem 1688 (by decide +kernel) (by decide +kernel), by decide +kernel⟩
theorem mRX8_216 : zwM RX8 216 yJ0_length_8abf5 cJ0_length_8abf5 1 (some .int) 0 := ⟨Or.inl (zmem 1698 (by decide +kernel) (by decide +kernel)), zmem 162 (by decide +kernel) (by decide +kernel), zmem 972 (by decide +kernel) (by decide +kernel), by decide +kernel⟩
theorem mRX8_220 : zwM RX8 220 yJ0_charAt_5068e cJ0_charAt_5068e 2 (some .char) 1 := ⟨Or.inl (zmem 1699 (by decide +kernel) (by decide +kernel)), zmem 162 (by decide +kernel) (by decide +kernel), zmem 982 (by decide +kernel) (by decide +kernel), by decide +kernel⟩
theorem mRX8_224 : zwM RX8 224 yX8_is cX8_is 4 (some .boolean) 1 := ⟨Or.inl (zmem 1694 (by decide +kernel) (by decide +kernel)), zmem 157 (by decide +kernel) (by decide +kernel), zmem 1697 (by decide +kernel) (by decide +kernel), by decide +kernel⟩
theorem mRX8_228 : zwM RX8 228 yX8_isMarked cX8_isMarked 2 (some .boolean) 1 := ⟨Or.inl (zmem 1750 (by decide +kernel) (by decide +kernel)), zmem 157 (by decide +kernel) (by decide +kernel), zmem 1753 (by decide +kernel) (by decide +kernel), by decide +kernel⟩
theorem mRX8_231 : zwM RX8 231 yX8_wrong cX8_wrong 2 none 1 := ⟨Or.inl (zmem 1706 (by decide +kernel) (by decide +kernel)), zmem 157 (by decide +kernel) (by decide +kernel), zmem 1709 (by decide +kernel) (by decide +kernel), by decide +kernel⟩
theorem mRX8_235 : zwM RX8 235 yX8_stepOn cX8_stepOn 2 none 0 := ⟨Or.inl (zmem 1670 (by decide +kernel) (by decide +kernel)), zmem 157 (by decide +kernel) (by decide +kernel), zmem 1673 (by decide +kernel) (by decide +kernel), by decide +kernel⟩
theorem mRX8_238 : zwM RX8 238 yX8_numberNow cX8_numberNow 3 (some .int) 2 := ⟨Or.inl (zmem 1714 (by decide +kernel) (by decide +kernel)), zmem 157 (by decide +kernel) (by decide +kernel), zmem 1717 (by decide +kernel) (by decide +kernel), by decide +kernel⟩
theorem mRX8_241 : zwM RX8 241 yX8_readNumber cX8_readNumber 4 (some .int) 2 := ⟨Or.inl (zmem 1710 (by decide +kernel) (by decide +kernel)), zmem 157 (by decide +kernel) (by decide +kernel), zmem 1713 (by decide +kernel) (by decide +kernel), by decide +kernel⟩
theorem mRX8_244 : zwM RX8 244 yX8_putSign cX8_putSign 2 none 1 := ⟨Or.inl (zmem 1775 (by decide +kernel) (by decide +kernel)), zmem 157 (by decide +kernel) (by decide +kernel), zmem 1778 (by decide +kernel) (by decide +kernel), by decide +kernel⟩
theorem mRX8_247 : zwM RX8 247 yX8_which cX8_which 3 (some .int) 1 := ⟨Or.inl (zmem 1702 (by decide +kernel) (by decide +kernel)), zmem 157 (by decide +kernel) (by decide +kernel), zmem 1705 (by decide +kernel) (by decide +kernel), by decide +kernel⟩
theorem mRX8_251 : zwM RX8 251 yX8_mark cX8_mark 2 none 1 := ⟨Or.inl (zmem 1779 (by decide +kernel) (by decide +kernel)), zmem 157 (by decide +kernel) (by decide +kernel), zmem 1782 (by decide +kernel) (by decide +kernel), by decide +kernel⟩
theorem mRX8_254 : zwM RX8 254 yX8_readExpression cX8_readExpression 3 none 1 := ⟨Or.inl (zmem 1746 (by decide +kernel) (by decide +kernel)), zmem 157 (by decide +kernel) (by decide +kernel), zmem 1749 (by decide +kernel) (by decide +kernel), by decide +kernel⟩
theorem mRX8_257 : zwM RX8 257 yX8_readPart cX8_readPart 3 none 1 := ⟨Or.inl (zmem 1771 (by decide +kernel) (by decide +kernel)), zmem 157 (by decide +kernel) (by decide +kernel), zmem 1774 (by decide +kernel) (by decide +kernel), by decide +kernel⟩
theorem mRX8_260 : zwM RX8 260 yX8_readProduct cX8_readProduct 3 none 1 := ⟨Or.inl (zmem 1767 (by decide +kernel) (by decide +kernel)), zmem 157 (by decide +kernel) (by decide +kernel), zmem 1770 (by decide +kernel) (by decide +kernel), by decide +kernel⟩
theorem mRX8_265 : zwM RX8 265 yX8_readSum cX8_readSum 3 none 1 := ⟨Or.inl (zmem 1763 (by decide +kernel) (by decide +kernel)), zmem 157 (by decide +kernel) (by decide +kernel), zmem 1766 (by decide +kernel) (by decide +kernel), by decide +kernel⟩
theorem mRX8_268 : zwM RX8 268 yX8_readNot cX8_readNot 4 none 1 := ⟨Or.inl (zmem 1758 (by decide +kernel) (by decide +kernel)), zmem 157 (by decide +kernel) (by decide +kernel), zmem 1761 (by decide +kernel) (by decide +kernel), by decide +kernel⟩
theorem mRX8_273 : zwM RX8 273 yX8_readAnd cX8_readAnd 2 none 1 := ⟨Or.inl (zmem 1754 (by decide +kernel) (by decide +kernel)), zmem 157 (by decide +kernel) (by decide +kernel), zmem 1757 (by decide +kernel) (by decide +kernel), by decide +kernel⟩
theorem mRX8_278 : zwM RX8 278 yX8_another cX8_another 3 (some .boolean) 2 := ⟨Or.inl (zmem 1722 (by decide +kernel) (by decide +kernel)), zmem 157 (by decide +kernel) (by decide +kernel), zmem 1725 (by decide +kernel) (by decide +kernel), by decide +kernel⟩
theorem mRX8_282 : zwM RX8 282 yX8_aisleNow cX8_aisleNow 2 (some .int) 0 := ⟨Or.inl (zmem 1726 (by decide +kernel) (by decide +kernel)), zmem 157 (by decide +kernel) (by decide +kernel), zmem 1729 (by decide +kernel) (by decide +kernel), by decide +kernel⟩
theorem mRX8_290 : zwM RX8 290 yX8_readPerson cX8_readPerson 6 none 1 := ⟨Or.inl (zmem 1718 (by decide +kernel) (by decide +kernel)), zmem 157 (by decide +kernel) (by decide +kernel), zmem 1721 (by decide +kernel) (by decide +kernel), by decide +kernel⟩
theorem mRX8_295 : zwM RX8 295 yX8_readAisle cX8_readAisle 2 none 0 := ⟨Or.inl (zmem 1731 (by decide +kernel) (by decide +kernel)), zmem 157 (by decide +kernel) (by decide +kernel), zmem 1734 (by decide +kernel) (by decide +kernel), by decide +kernel⟩
theorem mRX8_300 : zwM RX8 300 yX8_readTwo cX8_readTwo 5 none 1 := ⟨Or.inl (zmem 1736 (by decide +kernel) (by decide +kernel)), zmem 157 (by decide +kernel) (by decide +kernel), zmem 1739 (by decide +kernel) (by decide +kernel), by decide +kernel⟩
theorem mRX8_307 : zwM RX8 307 yX8_readRule cX8_readRule 1 none 0 := ⟨Or.inl (zmem 1742 (by decide +kernel) (by decide +kernel)), zmem 157 (by decide +kernel) (by decide +kernel), zmem 1745 (by decide +kernel) (by decide +kernel), by decide +kernel⟩
theorem mRX8_310 : zwM RX8 310 yX8_fail cX8_fail 2 (some .int) 1 := ⟨Or.inl (zmem 1666 (by decide +kernel) (by decide +kernel)), zmem 157 (by decide +kernel) (by decide +kernel), zmem 1669 (by decide +kernel) (by decide +kernel), by decide +kernel⟩
theorem mRX8_313 : zwM RX8 313 yX8_readLine cX8_readLine 4 (some .int) 1 := ⟨Or.inl (zmem 1689 (by decide +kernel) (by decide +kernel)), zmem 157 (by decide +kernel) (by decide +kernel), zmem 1692 (by decide +kernel) (by decide +kernel), by decide +kernel⟩
theorem mRX8_316 : zwM RX8 316 yX8_takeOver cX8_takeOver 1 none 0 := ⟨Or.inl (zmem 1785 (by decide +kernel) (by decide +kernel)), zmem 157 (by decide +kernel) (by decide +kernel), zmem 1788 (by decide +kernel) (by decide +kernel), by decide +kernel⟩
theorem mRX8_319 : zwM RX8 319 yX8_takeHalf cX8_takeHalf 2 none 1 := ⟨Or.inl (zmem 1789 (by decide +kernel) (by decide +kernel)), zmem 157 (by decide +kernel) (by decide +kernel), zmem 1791 (by decide +kernel) (by decide +kernel), by decide +kernel⟩
theorem mRX8_354 : zwM RX8 354 yX8_tellFar cX8_tellFar 5 none 0 := ⟨Or.inl (zmem 1792 (by decide +kernel) (by decide +kernel)), zmem 157 (by decide +kernel) (by decide +kernel), zmem 1795 (by decide +kernel) (by decide +kernel), by decide +kernel⟩
theorem mRX8_357 : zwM RX8 357 yX8_isAisle cX8_isAisle 2 (some .boolean) 1 := ⟨Or.inl (zmem 1804 (by decide +kernel) (by decide +kernel)), zmem 157 (by decide +kernel) (by decide +kernel), zmem 1807 (by decide +kernel) (by decide +kernel), by decide +kernel⟩
theorem mRX8_360 : zwM RX8 360 yX8_reckon cX8_reckon 3 (some .int) 3 := ⟨Or.inl (zmem 1923 (by decide +kernel) (by decide +kernel)), zmem 157 (by decide +kernel) (by decide +kernel), zmem 1925 (by decide +kernel) (by decide +kernel), by decide +kernel⟩
theorem mRX8_383 : zwM RX8 383 yX8_isOf cX8_isOf 2 (some .boolean) 2 := ⟨Or.inl (zmem 1862 (by decide +kernel) (by decide +kernel)), zmem 157 (by decide +kernel) (by decide +kernel), zmem 1864 (by decide +kernel) (by decide +kernel), by decide +kernel⟩
theorem mRX8_404 : zwM RX8 404 yX8_isInside cX8_isInside 2 (some .boolean) 1 := ⟨Or.inl (zmem 1895 (by decide +kernel) (by decide +kernel)), zmem 157 (by decide +kernel) (by decide +kernel), zmem 1898 (by decide +kernel) (by decide +kernel), by decide +kernel⟩
theorem mRX8_407 : zwM RX8 407 yX8_aisleOf cX8_aisleOf 2 (some .int) 1 := ⟨Or.inl (zmem 1899 (by decide +kernel) (by decide +kernel)), zmem 157 (by decide +kernel) (by decide +kernel), zmem 1902 (by decide +kernel) (by decide +kernel), by decide +kernel⟩
theorem mRX8_410 : zwM RX8 410 yX8_seconds cX8_seconds 3 (some .int) 2 := ⟨Or.inl (zmem 1911 (by decide +kernel) (by decide +kernel)), zmem 157 (by decide +kernel) (by decide +kernel), zmem 1914 (by decide +kernel) (by decide +kernel), by decide +kernel⟩
theorem mRX8_413 : zwM RX8 413 yX8_crowdAt cX8_crowdAt 4 (some .int) 1 := ⟨Or.inl (zmem 1915 (by decide +kernel) (by decide +kernel)), zmem 157 (by decide +kernel) (by decide +kernel), zmem 1918 (by decide +kernel) (by decide +kernel), by decide +kernel⟩
theorem mRX8_416 : zwM RX8 416 yX8_valueBy cX8_valueBy 5 (some .int) 1 := ⟨Or.inl (zmem 1919 (by decide +kernel) (by decide +kernel)), zmem 157 (by decide +kernel) (by decide +kernel), zmem 1922 (by decide +kernel) (by decide +kernel), by decide +kernel⟩
theorem mRX8_419 : zwM RX8 419 yX8_leave cX8_leave 4 none 1 := ⟨Or.inl (zmem 1903 (by decide +kernel) (by decide +kernel)), zmem 157 (by decide +kernel) (by decide +kernel), zmem 1906 (by decide +kernel) (by decide +kernel), by decide +kernel⟩
theorem mRX8_422 : zwM RX8 422 yX8_followed cX8_followed 7 (some .int) 1 := ⟨Or.inl (zmem 1907 (by decide +kernel) (by decide +kernel)), zmem 157 (by decide +kernel) (by decide +kernel), zmem 1910 (by decide +kernel) (by decide +kernel), by decide +kernel⟩
theorem mRX8_425 : zwM RX8 425 yX8_goNearer cX8_goNearer 4 none 1 := ⟨Or.inl (zmem 1926 (by decide +kernel) (by decide +kernel)), zmem 157 (by decide +kernel) (by decide +kernel), zmem 1929 (by decide +kernel) (by decide +kernel), by decide +kernel⟩
theorem mRX8_431 : zwM RX8 431 yX8_putBack cX8_putBack 2 none 1 := ⟨Or.inl (zmem 1930 (by decide +kernel) (by decide +kernel)), zmem 157 (by decide +kernel) (by decide +kernel), zmem 1933 (by decide +kernel) (by decide +kernel), by decide +kernel⟩
theorem mRX8_434 : zwM RX8 434 yX8_isSeen cX8_isSeen 2 (some .boolean) 1 := ⟨Or.inl (zmem 1934 (by decide +kernel) (by decide +kernel)), zmem 157 (by decide +kernel) (by decide +kernel), zmem 1937 (by decide +kernel) (by decide +kernel), by decide +kernel⟩
theorem mRX8_437 : zwM RX8 437 yX8_minuteNow cX8_minuteNow 5 none 1 := ⟨Or.inl (zmem 1891 (by decide +kernel) (by decide +kernel)), zmem 157 (by decide +kernel) (by decide +kernel), zmem 1894 (by decide +kernel) (by decide +kernel), by decide +kernel⟩
theorem mRX8_440 : zwM RX8 440 yX8_go cX8_go 3 none 1 := ⟨Or.inl (zmem 1887 (by decide +kernel) (by decide +kernel)), zmem 157 (by decide +kernel) (by decide +kernel), zmem 1890 (by decide +kernel) (by decide +kernel), by decide +kernel⟩
theorem mRX8_443 : zwM RX8 443 yX8_dayNow cX8_dayNow 2 none 0 := ⟨Or.inl (zmem 1883 (by decide +kernel) (by decide +kernel)), zmem 157 (by decide +kernel) (by decide +kernel), zmem 1886 (by decide +kernel) (by decide +kernel), by decide +kernel⟩
theorem mRX8_448 : zwM RX8 448 yX8_isPerson cX8_isPerson 2 (some .boolean) 1 := ⟨Or.inl (zmem 1824 (by decide +kernel) (by decide +kernel)), zmem 157 (by decide +kernel) (by decide +kernel), zmem 1827 (by decide +kernel) (by decide +kernel), by decide +kernel⟩
theorem mRX8_453 : zwM RX8 453 yX8_pack cX8_pack 4 none 2 := ⟨Or.inl (zmem 1841 (by decide +kernel) (by decide +kernel)), zmem 157 (by decide +kernel) (by decide +kernel), zmem 1844 (by decide +kernel) (by decide +kernel), by decide +kernel⟩
theorem mRX8_457 : zwM RX8 457 yX8_keep cX8_keep 2 none 0 := ⟨Or.inl (zmem 1837 (by decide +kernel) (by decide +kernel)), zmem 157 (by decide +kernel) (by decide +kernel), zmem 1840 (by decide +kernel) (by decide +kernel), by decide +kernel⟩
theorem mRX8_462 : zwM RX8 462 yX8_refuse cX8_refuse 2 (some .int) 1 := ⟨Or.inl (zmem 1854 (by decide +kernel) (by decide +kernel)), zmem 157 (by decide +kernel) (by decide +kernel), zmem 1857 (by decide +kernel) (by decide +kernel), by decide +kernel⟩
theorem mRX8_469 : zwM RX8 469 yX8_set cX8_set 2 none 0 := ⟨Or.inl (zmem 1875 (by decide +kernel) (by decide +kernel)), zmem 157 (by decide +kernel) (by decide +kernel), zmem 1878 (by decide +kernel) (by decide +kernel), by decide +kernel⟩
theorem mRX8_472 : zwM RX8 472 yX8_costNow cX8_costNow 1 (some .int) 0 := ⟨Or.inl (zmem 1879 (by decide +kernel) (by decide +kernel)), zmem 157 (by decide +kernel) (by decide +kernel), zmem 1882 (by decide +kernel) (by decide +kernel), by decide +kernel⟩
theorem mRX8_475 : zwM RX8 475 yX8_unpack cX8_unpack 4 none 2 := ⟨Or.inl (zmem 1942 (by decide +kernel) (by decide +kernel)), zmem 157 (by decide +kernel) (by decide +kernel), zmem 1945 (by decide +kernel) (by decide +kernel), by decide +kernel⟩
theorem mRX8_480 : zwM RX8 480 yX8_bitsOf cX8_bitsOf 3 (some .int) 1 := ⟨Or.inl (zmem 1951 (by decide +kernel) (by decide +kernel)), zmem 157 (by decide +kernel) (by decide +kernel), zmem 1953 (by decide +kernel) (by decide +kernel), by decide +kernel⟩
theorem mRX8_483 : zwM RX8 483 yX8_isMinute cX8_isMinute 1 (some .boolean) 1 := ⟨Or.inl (zmem 1958 (by decide +kernel) (by decide +kernel)), zmem 157 (by decide +kernel) (by decide +kernel), zmem 1960 (by decide +kernel) (by decide +kernel), by decide +kernel⟩
theorem mRX8_495 : zwM RX8 495 yX8_ask cX8_ask 3 none 1 := ⟨Or.inl (zmem 1974 (by decide +kernel) (by decide +kernel)), zmem 157 (by decide +kernel) (by decide +kernel), zmem 1977 (by decide +kernel) (by decide +kernel), by decide +kernel⟩
theorem mRX8_498 : zwM RX8 498 yX8_layOn cX8_layOn 6 none 2 := ⟨Or.inl (zmem 1990 (by decide +kernel) (by decide +kernel)), zmem 157 (by decide +kernel) (by decide +kernel), zmem 1993 (by decide +kernel) (by decide +kernel), by decide +kernel⟩
theorem mRX8_504 : zwM RX8 504 yX8_common cX8_common 5 (some .int) 2 := ⟨Or.inl (zmem 2018 (by decide +kernel) (by decide +kernel)), zmem 157 (by decide +kernel) (by decide +kernel), zmem 2020 (by decide +kernel) (by decide +kernel), by decide +kernel⟩
theorem mRX8_507 : zwM RX8 507 yX8_signed cX8_signed 5 (some .int) 2 := ⟨Or.inl (zmem 2011 (by decide +kernel) (by decide +kernel)), zmem 157 (by decide +kernel) (by decide +kernel), zmem 2014 (by decide +kernel) (by decide +kernel), by decide +kernel⟩
theorem mRX8_511 : zwM RX8 511 yX8_part cX8_part 4 (some .int) 3 := ⟨Or.inl (zmem 2015 (by decide +kernel) (by decide +kernel)), zmem 157 (by decide +kernel) (by decide +kernel), zmem 2017 (by decide +kernel) (by decide +kernel), by decide +kernel⟩
theorem mRX8_518 : zwM RX8 518 yX8_tellCanHave cX8_tellCanHave 5 none 0 := ⟨Or.inl (zmem 2043 (by decide +kernel) (by decide +kernel)), zmem 157 (by decide +kernel) (by decide +kernel), zmem 2046 (by decide +kernel) (by decide +kernel), by decide +kernel⟩
theorem mRX8_521 : zwM RX8 521 yX8_gain cX8_gain 3 (some .int) 2 := ⟨Or.inl (zmem 2055 (by decide +kernel) (by decide +kernel)), zmem 157 (by decide +kernel) (by decide +kernel), zmem 2058 (by decide +kernel) (by decide +kernel), by decide +kernel⟩
theorem mRX8_527 : zwM RX8 527 yX8_rests cX8_rests 4 (some .boolean) 2 := ⟨Or.inl (zmem 2051 (by decide +kernel) (by decide +kernel)), zmem 157 (by decide +kernel) (by decide +kernel), zmem 2054 (by decide +kernel) (by decide +kernel), by decide +kernel⟩
theorem mRX8_530 : zwM RX8 530 yX8_mostBy cX8_mostBy 4 (some .int) 1 := ⟨Or.inl (zmem 2059 (by decide +kernel) (by decide +kernel)), zmem 157 (by decide +kernel) (by decide +kernel), zmem 2062 (by decide +kernel) (by decide +kernel), by decide +kernel⟩
theorem mRX8_537 : zwM RX8 537 yX8_drawOf cX8_drawOf 2 (some .int) 1 := ⟨Or.inl (zmem 2068 (by decide +kernel) (by decide +kernel)), zmem 157 (by decide +kernel) (by decide +kernel), zmem 2071 (by decide +kernel) (by decide +kernel), by decide +kernel⟩
theorem mRX8_549 : zwM RX8 549 yX8_be cX8_be 3 none 2 := ⟨Or.inl (zmem 2077 (by decide +kernel) (by decide +kernel)), zmem 157 (by decide +kernel) (by decide +kernel), zmem 2079 (by decide +kernel) (by decide +kernel), by decide +kernel⟩
theorem mmRX1_64 : zmm RX1 64 Lib.Math.min.name Lib.Math.min.code := ⟨zmem 1155 (by decide +kernel) (by decide +kernel), zmem 661 (by decide +kernel) (by decide +kernel), zmem 166 (by decide +kernel) (by decide +kernel), zmem 662 (by decide +kernel) (by decide +kernel)⟩
theorem mmRX7_349 : zmm RX7 349 Lib.Math.max.name Lib.Math.max.code := ⟨zmem 1374 (by decide +kernel) (by decide +kernel), zmem 1375 (by decide +kernel) (by decide +kernel), zmem 166 (by decide +kernel) (by decide +kernel), zmem 1376 (by decide +kernel) (by decide +kernel)⟩
theorem mmRX7_362 : zmm RX7 362 Lib.Math.min.name Lib.Math.min.code := ⟨zmem 660 (by decide +kernel) (by decide +kernel), zmem 661 (by decide +kernel) (by decide +kernel), zmem 166 (by decide +kernel) (by decide +kernel), zmem 662 (by decide +kernel) (by decide +kernel)⟩
theorem mmRX8_198 : zmm RX8 198 Lib.Math.min.name Lib.Math.min.code := ⟨zmem 1685 (by decide +kernel) (by decide +kernel), zmem 661 (by decide +kernel) (by decide +kernel), zmem 166 (by decide +kernel) (by decide +kernel), zmem 662 (by decide +kernel) (by decide +kernel)⟩
theorem mmRX8_524 : zmm RX8 524 Lib.Math.max.name Lib.Math.max.code := ⟨zmem 2063 (by decide +kernel) (by decide +kernel), zmem 1375 (by decide +kernel) (by decide +kernel), zmem 166 (by decide +kernel) (by decide +kernel), zmem 1376 (by decide +kernel) (by decide +kernel)⟩
theorem wJ0_charAt_5068e : zwR yJ0_charAt_5068e := ⟨zmem 980 (by decide +kernel) (by decide +kernel), zmem 981 (by decide +kernel) (by decide +kernel)⟩
theorem wJ0_length_8abf5 : zwR yJ0_length_8abf5 := ⟨zmem 970 (by decide +kernel) (by decide +kernel), zmem 971 (by decide +kernel) (by decide +kernel)⟩
theorem sX3_isBlank : Cond.static yX3_isBlank ∈ zT := zmem 948 (by decide +kernel) (by decide +kernel)
theorem sX3_isDigit : Cond.static yX3_isDigit ∈ zT := zmem 954 (by decide +kernel) (by decide +kernel)
theorem sX3_isLetter : Cond.static yX3_isLetter ∈ zT := zmem 951 (by decide +kernel) (by decide +kernel)
theorem sX4_join : Cond.static yX4_join ∈ zT := zmem 744 (by decide +kernel) (by decide +kernel)
theorem sX7_at : Cond.static yX7_at ∈ zT := zmem 612 (by decide +kernel) (by decide +kernel)
theorem sX7_bit : Cond.static yX7_bit ∈ zT := zmem 647 (by decide +kernel) (by decide +kernel)
theorem sX7_copyRow : Cond.static yX7_copyRow ∈ zT := zmem 658 (by decide +kernel) (by decide +kernel)
theorem sX7_fillRow : Cond.static yX7_fillRow ∈ zT := zmem 669 (by decide +kernel) (by decide +kernel)
theorem sX7_fraction : Cond.static yX7_fraction ∈ zT := zmem 1313 (by decide +kernel) (by decide +kernel)
theorem sX7_holds : Cond.static yX7_holds ∈ zT := zmem 644 (by decide +kernel) (by decide +kernel)
theorem sX7_isMinute : Cond.static yX7_isMinute ∈ zT := zmem 836 (by decide +kernel) (by decide +kernel)
theorem sX7_needMinute : Cond.static yX7_needMinute ∈ zT := zmem 1252 (by decide +kernel) (by decide +kernel)
theorem sX7_nextOrder : Cond.static yX7_nextOrder ∈ zT := zmem 810 (by decide +kernel) (by decide +kernel)
theorem sX7_put : Cond.static yX7_put ∈ zT := zmem 585 (by decide +kernel) (by decide +kernel)
theorem sX7_swap : Cond.static yX7_swap ∈ zT := zmem 813 (by decide +kernel) (by decide +kernel)
theorem sX8_be : Cond.static yX8_be ∈ zT := zmem 2078 (by decide +kernel) (by decide +kernel)
theorem sX8_bitsOf : Cond.static yX8_bitsOf ∈ zT := zmem 1952 (by decide +kernel) (by decide +kernel)
theorem sX8_common : Cond.static yX8_common ∈ zT := zmem 2019 (by decide +kernel) (by decide +kernel)
theorem sX8_isDigit : Cond.static yX8_isDigit ∈ zT := zmem 1682 (by decide +kernel) (by decide +kernel)
theorem sX8_isIn : Cond.static yX8_isIn ∈ zT := zmem 1809 (by decide +kernel) (by decide +kernel)
theorem sX8_isLetter : Cond.static yX8_isLetter ∈ zT := zmem 1679 (by decide +kernel) (by decide +kernel)
theorem sX8_isMark : Cond.static yX8_isMark ∈ zT := zmem 1687 (by decide +kernel) (by decide +kernel)
theorem sX8_isMinute : Cond.static yX8_isMinute ∈ zT := zmem 1959 (by decide +kernel) (by decide +kernel)
theorem sX8_isOf : Cond.static yX8_isOf ∈ zT := zmem 1863 (by decide +kernel) (by decide +kernel)
theorem sX8_part : Cond.static yX8_part ∈ zT := zmem 2016 (by decide +kernel) (by decide +kernel)
theorem sX8_reckon : Cond.static yX8_reckon ∈ zT := zmem 1924 (by decide +kernel) (by decide +kernel)
theorem sX8_takeHalf : Cond.static yX8_takeHalf ∈ zT := zmem 1790 (by decide +kernel) (by decide +kernel)
theorem sJ6_bitCount_0f7a4 : Cond.static yJ6_bitCount_0f7a4 ∈ zT := zmem 1338 (by decide +kernel) (by decide +kernel)
theorem vX0_chosen : zwV 0 yX0_chosen := ⟨zmem 718 (by decide +kernel) (by decide +kernel), zmem 20 (by decide +kernel) (by decide +kernel), by decide, _, _, rfl⟩
theorem vX0_close : zwV 0 yX0_close := ⟨zmem 786 (by decide +kernel) (by decide +kernel), zmem 35 (by decide +kernel) (by decide +kernel), by decide, _, _, rfl⟩
theorem vX0_follow : zwV 0 yX0_follow := ⟨zmem 714 (by decide +kernel) (by decide +kernel), zmem 19 (by decide +kernel) (by decide +kernel), by decide, _, _, rfl⟩
theorem vX0_leave : zwV 0 yX0_leave := ⟨zmem 697 (by decide +kernel) (by decide +kernel), zmem 15 (by decide +kernel) (by decide +kernel), by decide, _, _, rfl⟩
theorem vX0_loseSight : zwV 0 yX0_loseSight := ⟨zmem 778 (by decide +kernel) (by decide +kernel), zmem 33 (by decide +kernel) (by decide +kernel), by decide, _, _, rfl⟩
theorem vX0_mark : zwV 0 yX0_mark := ⟨zmem 705 (by decide +kernel) (by decide +kernel), zmem 17 (by decide +kernel) (by decide +kernel), by decide, _, _, rfl⟩
theorem vX0_note : zwV 0 yX0_note := ⟨zmem 782 (by decide +kernel) (by decide +kernel), zmem 34 (by decide +kernel) (by decide +kernel), by decide, _, _, rfl⟩
theorem vX0_notice : zwV 0 yX0_notice := ⟨zmem 758 (by decide +kernel) (by decide +kernel), zmem 28 (by decide +kernel) (by decide +kernel), by decide, _, _, rfl⟩
theorem vX0_noticeHim : zwV 0 yX0_noticeHim := ⟨zmem 762 (by decide +kernel) (by decide +kernel), zmem 29 (by decide +kernel) (by decide +kernel), by decide, _, _, rfl⟩
theorem vX0_prepare : zwV 0 yX0_prepare := ⟨zmem 655 (by decide +kernel) (by decide +kernel), zmem 8 (by decide +kernel) (by decide +kernel), by decide, _, _, rfl⟩
theorem vX0_putBack : zwV 0 yX0_putBack := ⟨zmem 710 (by decide +kernel) (by decide +kernel), zmem 18 (by decide +kernel) (by decide +kernel), by decide, _, _, rfl⟩
theorem vX0_run : zwV 0 yX0_run := ⟨zmem 666 (by decide +kernel) (by decide +kernel), zmem 9 (by decide +kernel) (by decide +kernel), by decide, _, _, rfl⟩
theorem vX0_sees : zwV 0 yX0_sees := ⟨zmem 774 (by decide +kernel) (by decide +kernel), zmem 32 (by decide +kernel) (by decide +kernel), by decide, _, _, rfl⟩
theorem vX0_take : zwV 0 yX0_take := ⟨zmem 766 (by decide +kernel) (by decide +kernel), zmem 30 (by decide +kernel) (by decide +kernel), by decide, _, _, rfl⟩
theorem vX0_tally : zwV 0 yX0_tally := ⟨zmem 701 (by decide +kernel) (by decide +kernel), zmem 16 (by decide +kernel) (by decide +kernel), by decide, _, _, rfl⟩
theorem vX0_tellValues : zwV 0 yX0_tellValues := ⟨zmem 722 (by decide +kernel) (by decide +kernel), zmem 21 (by decide +kernel) (by decide +kernel), by decide, _, _, rfl⟩
theorem vX0_walk : zwV 0 yX0_walk := ⟨zmem 673 (by decide +kernel) (by decide +kernel), zmem 10 (by decide +kernel) (by decide +kernel), by decide, _, _, rfl⟩
theorem vX1_addAisle : zwV 1 yX1_addAisle := ⟨zmem 1054 (by decide +kernel) (by decide +kernel), zmem 57 (by decide +kernel) (by decide +kernel), by decide, _, _, rfl⟩
theorem vX1_addMirror : zwV 1 yX1_addMirror := ⟨zmem 1075 (by decide +kernel) (by decide +kernel), zmem 61 (by decide +kernel) (by decide +kernel), by decide, _, _, rfl⟩
theorem vX1_addWay : zwV 1 yX1_addWay := ⟨zmem 1064 (by decide +kernel) (by decide +kernel), zmem 59 (by decide +kernel) (by decide +kernel), by decide, _, _, rfl⟩
theorem vX1_between : zwV 1 yX1_between := ⟨zmem 726 (by decide +kernel) (by decide +kernel), zmem 22 (by decide +kernel) (by decide +kernel), by decide, _, _, rfl⟩
theorem vX1_clear : zwV 1 yX1_clear := ⟨zmem 935 (by decide +kernel) (by decide +kernel), zmem 44 (by decide +kernel) (by decide +kernel), by decide, _, _, rfl⟩
theorem vX1_hasAisle : zwV 1 yX1_hasAisle := ⟨zmem 605 (by decide +kernel) (by decide +kernel), zmem 3 (by decide +kernel) (by decide +kernel), by decide, _, _, rfl⟩
theorem vX1_joins : zwV 1 yX1_joins := ⟨zmem 753 (by decide +kernel) (by decide +kernel), zmem 27 (by decide +kernel) (by decide +kernel), by decide, _, _, rfl⟩
theorem vX1_measure : zwV 1 yX1_measure := ⟨zmem 1153 (by decide +kernel) (by decide +kernel), zmem 77 (by decide +kernel) (by decide +kernel), by decide, _, _, rfl⟩
theorem vX1_nearer : zwV 1 yX1_nearer := ⟨zmem 748 (by decide +kernel) (by decide +kernel), zmem 26 (by decide +kernel) (by decide +kernel), by decide, _, _, rfl⟩
theorem vX2_comesToTake : zwV 2 yX2_comesToTake := ⟨zmem 770 (by decide +kernel) (by decide +kernel), zmem 31 (by decide +kernel) (by decide +kernel), by decide, _, _, rfl⟩
theorem vX2_hasPerson : zwV 2 yX2_hasPerson := ⟨zmem 601 (by decide +kernel) (by decide +kernel), zmem 2 (by decide +kernel) (by decide +kernel), by decide, _, _, rfl⟩
theorem vX2_lastStep : zwV 2 yX2_lastStep := ⟨zmem 687 (by decide +kernel) (by decide +kernel), zmem 13 (by decide +kernel) (by decide +kernel), by decide, _, _, rfl⟩
theorem vX2_leavesIn : zwV 2 yX2_leavesIn := ⟨zmem 693 (by decide +kernel) (by decide +kernel), zmem 14 (by decide +kernel) (by decide +kernel), by decide, _, _, rfl⟩
theorem vX2_placeIn : zwV 2 yX2_placeIn := ⟨zmem 678 (by decide +kernel) (by decide +kernel), zmem 11 (by decide +kernel) (by decide +kernel), by decide, _, _, rfl⟩
theorem vX2_stepOf : zwV 2 yX2_stepOf := ⟨zmem 683 (by decide +kernel) (by decide +kernel), zmem 12 (by decide +kernel) (by decide +kernel), by decide, _, _, rfl⟩
theorem vX3_aisleHere : zwV 3 yX3_aisleHere := ⟨zmem 1043 (by decide +kernel) (by decide +kernel), zmem 55 (by decide +kernel) (by decide +kernel), by decide, _, _, rfl⟩
theorem vX3_changeFor : zwV 3 yX3_changeFor := ⟨zmem 1158 (by decide +kernel) (by decide +kernel), zmem 78 (by decide +kernel) (by decide +kernel), by decide, _, _, rfl⟩
theorem vX3_fail : zwV 3 yX3_fail := ⟨zmem 1030 (by decide +kernel) (by decide +kernel), zmem 52 (by decide +kernel) (by decide +kernel), by decide, _, _, rfl⟩
theorem vX3_isSign : zwV 3 yX3_isSign := ⟨zmem 1088 (by decide +kernel) (by decide +kernel), zmem 64 (by decide +kernel) (by decide +kernel), by decide, _, _, rfl⟩
theorem vX3_isWord : zwV 3 yX3_isWord := ⟨zmem 967 (by decide +kernel) (by decide +kernel), zmem 49 (by decide +kernel) (by decide +kernel), by decide, _, _, rfl⟩
theorem vX3_read : zwV 3 yX3_read := ⟨zmem 927 (by decide +kernel) (by decide +kernel), zmem 42 (by decide +kernel) (by decide +kernel), by decide, _, _, rfl⟩
theorem vX3_readAisle : zwV 3 yX3_readAisle := ⟨zmem 1050 (by decide +kernel) (by decide +kernel), zmem 56 (by decide +kernel) (by decide +kernel), by decide, _, _, rfl⟩
theorem vX3_readAnd : zwV 3 yX3_readAnd := ⟨zmem 1092 (by decide +kernel) (by decide +kernel), zmem 65 (by decide +kernel) (by decide +kernel), by decide, _, _, rfl⟩
theorem vX3_readExpr : zwV 3 yX3_readExpr := ⟨zmem 1084 (by decide +kernel) (by decide +kernel), zmem 63 (by decide +kernel) (by decide +kernel), by decide, _, _, rfl⟩
theorem vX3_readFirst : zwV 3 yX3_readFirst := ⟨zmem 1026 (by decide +kernel) (by decide +kernel), zmem 51 (by decide +kernel) (by decide +kernel), by decide, _, _, rfl⟩
theorem vX3_readLine : zwV 3 yX3_readLine := ⟨zmem 958 (by decide +kernel) (by decide +kernel), zmem 47 (by decide +kernel) (by decide +kernel), by decide, _, _, rfl⟩
theorem vX3_readMirror : zwV 3 yX3_readMirror := ⟨zmem 1070 (by decide +kernel) (by decide +kernel), zmem 60 (by decide +kernel) (by decide +kernel), by decide, _, _, rfl⟩
theorem vX3_readNot : zwV 3 yX3_readNot := ⟨zmem 1096 (by decide +kernel) (by decide +kernel), zmem 66 (by decide +kernel) (by decide +kernel), by decide, _, _, rfl⟩
theorem vX3_readNumber : zwV 3 yX3_readNumber := ⟨zmem 1035 (by decide +kernel) (by decide +kernel), zmem 53 (by decide +kernel) (by decide +kernel), by decide, _, _, rfl⟩
theorem vX3_readPart : zwV 3 yX3_readPart := ⟨zmem 1113 (by decide +kernel) (by decide +kernel), zmem 70 (by decide +kernel) (by decide +kernel), by decide, _, _, rfl⟩
theorem vX3_readPerson : zwV 3 yX3_readPerson := ⟨zmem 1022 (by decide +kernel) (by decide +kernel), zmem 50 (by decide +kernel) (by decide +kernel), by decide, _, _, rfl⟩
theorem vX3_readProduct : zwV 3 yX3_readProduct := ⟨zmem 1109 (by decide +kernel) (by decide +kernel), zmem 69 (by decide +kernel) (by decide +kernel), by decide, _, _, rfl⟩
theorem vX3_readRoute : zwV 3 yX3_readRoute := ⟨zmem 1039 (by decide +kernel) (by decide +kernel), zmem 54 (by decide +kernel) (by decide +kernel), by decide, _, _, rfl⟩
theorem vX3_readRule : zwV 3 yX3_readRule := ⟨zmem 1080 (by decide +kernel) (by decide +kernel), zmem 62 (by decide +kernel) (by decide +kernel), by decide, _, _, rfl⟩
theorem vX3_readSetting : zwV 3 yX3_readSetting := ⟨zmem 1147 (by decide +kernel) (by decide +kernel), zmem 76 (by decide +kernel) (by decide +kernel), by decide, _, _, rfl⟩
theorem vX3_readSign : zwV 3 yX3_readSign := ⟨zmem 1136 (by decide +kernel) (by decide +kernel), zmem 74 (by decide +kernel) (by decide +kernel), by decide, _, _, rfl⟩
theorem vX3_readSum : zwV 3 yX3_readSum := ⟨zmem 1105 (by decide +kernel) (by decide +kernel), zmem 68 (by decide +kernel) (by decide +kernel), by decide, _, _, rfl⟩
theorem vX3_readTest : zwV 3 yX3_readTest := ⟨zmem 1101 (by decide +kernel) (by decide +kernel), zmem 67 (by decide +kernel) (by decide +kernel), by decide, _, _, rfl⟩
theorem vX3_readToken : zwV 3 yX3_readToken := ⟨zmem 944 (by decide +kernel) (by decide +kernel), zmem 46 (by decide +kernel) (by decide +kernel), by decide, _, _, rfl⟩
theorem vX3_readValue : zwV 3 yX3_readValue := ⟨zmem 1132 (by decide +kernel) (by decide +kernel), zmem 73 (by decide +kernel) (by decide +kernel), by decide, _, _, rfl⟩
theorem vX3_readWay : zwV 3 yX3_readWay := ⟨zmem 1060 (by decide +kernel) (by decide +kernel), zmem 58 (by decide +kernel) (by decide +kernel), by decide, _, _, rfl⟩
theorem vX3_sortTold : zwV 3 yX3_sortTold := ⟨zmem 962 (by decide +kernel) (by decide +kernel), zmem 48 (by decide +kernel) (by decide +kernel), by decide, _, _, rfl⟩
theorem vX3_valueTold : zwV 3 yX3_valueTold := ⟨zmem 1121 (by decide +kernel) (by decide +kernel), zmem 72 (by decide +kernel) (by decide +kernel), by decide, _, _, rfl⟩
theorem vX4_add : zwV 4 yX4_add := ⟨zmem 1117 (by decide +kernel) (by decide +kernel), zmem 71 (by decide +kernel) (by decide +kernel), by decide, _, _, rfl⟩
theorem vX4_clear : zwV 4 yX4_clear := ⟨zmem 940 (by decide +kernel) (by decide +kernel), zmem 45 (by decide +kernel) (by decide +kernel), by decide, _, _, rfl⟩
theorem vX4_endRule : zwV 4 yX4_endRule := ⟨zmem 1142 (by decide +kernel) (by decide +kernel), zmem 75 (by decide +kernel) (by decide +kernel), by decide, _, _, rfl⟩
theorem vX4_pop : zwV 4 yX4_pop := ⟨zmem 741 (by decide +kernel) (by decide +kernel), zmem 25 (by decide +kernel) (by decide +kernel), by decide, _, _, rfl⟩
theorem vX4_push : zwV 4 yX4_push := ⟨zmem 736 (by decide +kernel) (by decide +kernel), zmem 24 (by decide +kernel) (by decide +kernel), by decide, _, _, rfl⟩
theorem vX4_valueOf : zwV 4 yX4_valueOf := ⟨zmem 731 (by decide +kernel) (by decide +kernel), zmem 23 (by decide +kernel) (by decide +kernel), by decide, _, _, rfl⟩
theorem vX5_clear : zwV 5 yX5_clear := ⟨zmem 931 (by decide +kernel) (by decide +kernel), zmem 43 (by decide +kernel) (by decide +kernel), by decide, _, _, rfl⟩
theorem vX6_begin : zwV 6 yX6_begin := ⟨zmem 1162 (by decide +kernel) (by decide +kernel), zmem 79 (by decide +kernel) (by decide +kernel), by decide, _, _, rfl⟩
theorem vX6_copy : zwV 6 yX6_copy := ⟨zmem 848 (by decide +kernel) (by decide +kernel), zmem 40 (by decide +kernel) (by decide +kernel), by decide, _, _, rfl⟩
theorem vX6_hadFrom : zwV 6 yX6_hadFrom := ⟨zmem 825 (by decide +kernel) (by decide +kernel), zmem 38 (by decide +kernel) (by decide +kernel), by decide, _, _, rfl⟩
theorem vX6_keepAct : zwV 6 yX6_keepAct := ⟨zmem 621 (by decide +kernel) (by decide +kernel), zmem 6 (by decide +kernel) (by decide +kernel), by decide, _, _, rfl⟩
theorem vX6_refuse : zwV 6 yX6_refuse := ⟨zmem 609 (by decide +kernel) (by decide +kernel), zmem 4 (by decide +kernel) (by decide +kernel), by decide, _, _, rfl⟩
theorem vX6_toldFrom : zwV 6 yX6_toldFrom := ⟨zmem 829 (by decide +kernel) (by decide +kernel), zmem 39 (by decide +kernel) (by decide +kernel), by decide, _, _, rfl⟩
theorem vX6_undoLast : zwV 6 yX6_undoLast := ⟨zmem 795 (by decide +kernel) (by decide +kernel), zmem 36 (by decide +kernel) (by decide +kernel), by decide, _, _, rfl⟩
theorem vX7_beginAct : zwV 7 yX7_beginAct := ⟨zmem 617 (by decide +kernel) (by decide +kernel), zmem 5 (by decide +kernel) (by decide +kernel), by decide, _, _, rfl⟩
theorem vX7_canHang : zwV 7 yX7_canHang := ⟨zmem 640 (by decide +kernel) (by decide +kernel), zmem 7 (by decide +kernel) (by decide +kernel), by decide, _, _, rfl⟩
theorem vX7_canHave : zwV 7 yX7_canHave := ⟨zmem 1335 (by decide +kernel) (by decide +kernel), zmem 86 (by decide +kernel) (by decide +kernel), by decide, _, _, rfl⟩
theorem vX7_canWatch : zwV 7 yX7_canWatch := ⟨zmem 597 (by decide +kernel) (by decide +kernel), zmem 1 (by decide +kernel) (by decide +kernel), by decide, _, _, rfl⟩
theorem vX7_costLaid : zwV 7 yX7_costLaid := ⟨zmem 807 (by decide +kernel) (by decide +kernel), zmem 37 (by decide +kernel) (by decide +kernel), by decide, _, _, rfl⟩
theorem vX7_costMirrored : zwV 7 yX7_costMirrored := ⟨zmem 1289 (by decide +kernel) (by decide +kernel), zmem 84 (by decide +kernel) (by decide +kernel), by decide, _, _, rfl⟩
theorem vX7_costWatched : zwV 7 yX7_costWatched := ⟨zmem 1278 (by decide +kernel) (by decide +kernel), zmem 83 (by decide +kernel) (by decide +kernel), by decide, _, _, rfl⟩
theorem vX7_explains : zwV 7 yX7_explains := ⟨zmem 1345 (by decide +kernel) (by decide +kernel), zmem 87 (by decide +kernel) (by decide +kernel), by decide, _, _, rfl⟩
theorem vX7_fewest : zwV 7 yX7_fewest := ⟨zmem 1331 (by decide +kernel) (by decide +kernel), zmem 85 (by decide +kernel) (by decide +kernel), by decide, _, _, rfl⟩
theorem vX7_gain : zwV 7 yX7_gain := ⟨zmem 1364 (by decide +kernel) (by decide +kernel), zmem 90 (by decide +kernel) (by decide +kernel), by decide, _, _, rfl⟩
theorem vX7_knowToday : zwV 7 yX7_knowToday := ⟨zmem 1242 (by decide +kernel) (by decide +kernel), zmem 82 (by decide +kernel) (by decide +kernel), by decide, _, _, rfl⟩
theorem vX7_mostGain : zwV 7 yX7_mostGain := ⟨zmem 1372 (by decide +kernel) (by decide +kernel), zmem 92 (by decide +kernel) (by decide +kernel), by decide, _, _, rfl⟩
theorem vX7_needAisle : zwV 7 yX7_needAisle := ⟨zmem 1197 (by decide +kernel) (by decide +kernel), zmem 80 (by decide +kernel) (by decide +kernel), by decide, _, _, rfl⟩
theorem vX7_needPerson : zwV 7 yX7_needPerson := ⟨zmem 1208 (by decide +kernel) (by decide +kernel), zmem 81 (by decide +kernel) (by decide +kernel), by decide, _, _, rfl⟩
theorem vX7_resting : zwV 7 yX7_resting := ⟨zmem 1356 (by decide +kernel) (by decide +kernel), zmem 88 (by decide +kernel) (by decide +kernel), by decide, _, _, rfl⟩
theorem vX7_rests : zwV 7 yX7_rests := ⟨zmem 1360 (by decide +kernel) (by decide +kernel), zmem 89 (by decide +kernel) (by decide +kernel), by decide, _, _, rfl⟩
theorem vX7_safest : zwV 7 yX7_safest := ⟨zmem 1368 (by decide +kernel) (by decide +kernel), zmem 91 (by decide +kernel) (by decide +kernel), by decide, _, _, rfl⟩
theorem vX7_tellBytes : zwV 7 yX7_tellBytes := ⟨zmem 582 (by decide +kernel) (by decide +kernel), zmem 0 (by decide +kernel) (by decide +kernel), by decide, _, _, rfl⟩
theorem vX8_aisleNow : zwV 8 yX8_aisleNow := ⟨zmem 1728 (by decide +kernel) (by decide +kernel), zmem 104 (by decide +kernel) (by decide +kernel), by decide, _, _, rfl⟩
theorem vX8_aisleOf : zwV 8 yX8_aisleOf := ⟨zmem 1901 (by decide +kernel) (by decide +kernel), zmem 130 (by decide +kernel) (by decide +kernel), by decide, _, _, rfl⟩
theorem vX8_another : zwV 8 yX8_another := ⟨zmem 1724 (by decide +kernel) (by decide +kernel), zmem 103 (by decide +kernel) (by decide +kernel), by decide, _, _, rfl⟩
theorem vX8_ask : zwV 8 yX8_ask := ⟨zmem 1976 (by decide +kernel) (by decide +kernel), zmem 140 (by decide +kernel) (by decide +kernel), by decide, _, _, rfl⟩
theorem vX8_byteAt : zwV 8 yX8_byteAt := ⟨zmem 1676 (by decide +kernel) (by decide +kernel), zmem 95 (by decide +kernel) (by decide +kernel), by decide, _, _, rfl⟩
theorem vX8_costNow : zwV 8 yX8_costNow := ⟨zmem 1881 (by decide +kernel) (by decide +kernel), zmem 125 (by decide +kernel) (by decide +kernel), by decide, _, _, rfl⟩
theorem vX8_crowdAt : zwV 8 yX8_crowdAt := ⟨zmem 1917 (by decide +kernel) (by decide +kernel), zmem 134 (by decide +kernel) (by decide +kernel), by decide, _, _, rfl⟩
theorem vX8_dayNow : zwV 8 yX8_dayNow := ⟨zmem 1885 (by decide +kernel) (by decide +kernel), zmem 126 (by decide +kernel) (by decide +kernel), by decide, _, _, rfl⟩
theorem vX8_drawOf : zwV 8 yX8_drawOf := ⟨zmem 2070 (by decide +kernel) (by decide +kernel), zmem 147 (by decide +kernel) (by decide +kernel), by decide, _, _, rfl⟩
theorem vX8_fail : zwV 8 yX8_fail := ⟨zmem 1668 (by decide +kernel) (by decide +kernel), zmem 93 (by decide +kernel) (by decide +kernel), by decide, _, _, rfl⟩
theorem vX8_followed : zwV 8 yX8_followed := ⟨zmem 1909 (by decide +kernel) (by decide +kernel), zmem 132 (by decide +kernel) (by decide +kernel), by decide, _, _, rfl⟩
theorem vX8_gain : zwV 8 yX8_gain := ⟨zmem 2057 (by decide +kernel) (by decide +kernel), zmem 145 (by decide +kernel) (by decide +kernel), by decide, _, _, rfl⟩
theorem vX8_go : zwV 8 yX8_go := ⟨zmem 1889 (by decide +kernel) (by decide +kernel), zmem 127 (by decide +kernel) (by decide +kernel), by decide, _, _, rfl⟩
theorem vX8_goNearer : zwV 8 yX8_goNearer := ⟨zmem 1928 (by decide +kernel) (by decide +kernel), zmem 136 (by decide +kernel) (by decide +kernel), by decide, _, _, rfl⟩
theorem vX8_is : zwV 8 yX8_is := ⟨zmem 1696 (by decide +kernel) (by decide +kernel), zmem 97 (by decide +kernel) (by decide +kernel), by decide, _, _, rfl⟩
theorem vX8_isAisle : zwV 8 yX8_isAisle := ⟨zmem 1806 (by decide +kernel) (by decide +kernel), zmem 119 (by decide +kernel) (by decide +kernel), by decide, _, _, rfl⟩
theorem vX8_isInside : zwV 8 yX8_isInside := ⟨zmem 1897 (by decide +kernel) (by decide +kernel), zmem 129 (by decide +kernel) (by decide +kernel), by decide, _, _, rfl⟩
theorem vX8_isMarked : zwV 8 yX8_isMarked := ⟨zmem 1752 (by decide +kernel) (by decide +kernel), zmem 109 (by decide +kernel) (by decide +kernel), by decide, _, _, rfl⟩
theorem vX8_isPerson : zwV 8 yX8_isPerson := ⟨zmem 1826 (by decide +kernel) (by decide +kernel), zmem 120 (by decide +kernel) (by decide +kernel), by decide, _, _, rfl⟩
theorem vX8_isSeen : zwV 8 yX8_isSeen := ⟨zmem 1936 (by decide +kernel) (by decide +kernel), zmem 138 (by decide +kernel) (by decide +kernel), by decide, _, _, rfl⟩
theorem vX8_keep : zwV 8 yX8_keep := ⟨zmem 1839 (by decide +kernel) (by decide +kernel), zmem 121 (by decide +kernel) (by decide +kernel), by decide, _, _, rfl⟩
theorem vX8_layOn : zwV 8 yX8_layOn := ⟨zmem 1992 (by decide +kernel) (by decide +kernel), zmem 141 (by decide +kernel) (by decide +kernel), by decide, _, _, rfl⟩
theorem vX8_leave : zwV 8 yX8_leave := ⟨zmem 1905 (by decide +kernel) (by decide +kernel), zmem 131 (by decide +kernel) (by decide +kernel), by decide, _, _, rfl⟩
theorem vX8_mark : zwV 8 yX8_mark := ⟨zmem 1781 (by decide +kernel) (by decide +kernel), zmem 116 (by decide +kernel) (by decide +kernel), by decide, _, _, rfl⟩
theorem vX8_minuteNow : zwV 8 yX8_minuteNow := ⟨zmem 1893 (by decide +kernel) (by decide +kernel), zmem 128 (by decide +kernel) (by decide +kernel), by decide, _, _, rfl⟩
theorem vX8_mostBy : zwV 8 yX8_mostBy := ⟨zmem 2061 (by decide +kernel) (by decide +kernel), zmem 146 (by decide +kernel) (by decide +kernel), by decide, _, _, rfl⟩
theorem vX8_numberNow : zwV 8 yX8_numberNow := ⟨zmem 1716 (by decide +kernel) (by decide +kernel), zmem 101 (by decide +kernel) (by decide +kernel), by decide, _, _, rfl⟩
theorem vX8_pack : zwV 8 yX8_pack := ⟨zmem 1843 (by decide +kernel) (by decide +kernel), zmem 122 (by decide +kernel) (by decide +kernel), by decide, _, _, rfl⟩
theorem vX8_putBack : zwV 8 yX8_putBack := ⟨zmem 1932 (by decide +kernel) (by decide +kernel), zmem 137 (by decide +kernel) (by decide +kernel), by decide, _, _, rfl⟩
theorem vX8_putSign : zwV 8 yX8_putSign := ⟨zmem 1777 (by decide +kernel) (by decide +kernel), zmem 115 (by decide +kernel) (by decide +kernel), by decide, _, _, rfl⟩
theorem vX8_readAisle : zwV 8 yX8_readAisle := ⟨zmem 1733 (by decide +kernel) (by decide +kernel), zmem 105 (by decide +kernel) (by decide +kernel), by decide, _, _, rfl⟩
theorem vX8_readAnd : zwV 8 yX8_readAnd := ⟨zmem 1756 (by decide +kernel) (by decide +kernel), zmem 110 (by decide +kernel) (by decide +kernel), by decide, _, _, rfl⟩
theorem vX8_readExpression : zwV 8 yX8_readExpression := ⟨zmem 1748 (by decide +kernel) (by decide +kernel), zmem 108 (by decide +kernel) (by decide +kernel), by decide, _, _, rfl⟩
theorem vX8_readLine : zwV 8 yX8_readLine := ⟨zmem 1691 (by decide +kernel) (by decide +kernel), zmem 96 (by decide +kernel) (by decide +kernel), by decide, _, _, rfl⟩
theorem vX8_readNot : zwV 8 yX8_readNot := ⟨zmem 1760 (by decide +kernel) (by decide +kernel), zmem 111 (by decide +kernel) (by decide +kernel), by decide, _, _, rfl⟩
theorem vX8_readNumber : zwV 8 yX8_readNumber := ⟨zmem 1712 (by decide +kernel) (by decide +kernel), zmem 100 (by decide +kernel) (by decide +kernel), by decide, _, _, rfl⟩
theorem vX8_readPart : zwV 8 yX8_readPart := ⟨zmem 1773 (by decide +kernel) (by decide +kernel), zmem 114 (by decide +kernel) (by decide +kernel), by decide, _, _, rfl⟩
theorem vX8_readPerson : zwV 8 yX8_readPerson := ⟨zmem 1720 (by decide +kernel) (by decide +kernel), zmem 102 (by decide +kernel) (by decide +kernel), by decide, _, _, rfl⟩
theorem vX8_readProduct : zwV 8 yX8_readProduct := ⟨zmem 1769 (by decide +kernel) (by decide +kernel), zmem 113 (by decide +kernel) (by decide +kernel), by decide, _, _, rfl⟩
theorem vX8_readRule : zwV 8 yX8_readRule := ⟨zmem 1744 (by decide +kernel) (by decide +kernel), zmem 107 (by decide +kernel) (by decide +kernel), by decide, _, _, rfl⟩
theorem vX8_readSum : zwV 8 yX8_readSum := ⟨zmem 1765 (by decide +kernel) (by decide +kernel), zmem 112 (by decide +kernel) (by decide +kernel), by decide, _, _, rfl⟩
theorem vX8_readTwo : zwV 8 yX8_readTwo := ⟨zmem 1738 (by decide +kernel) (by decide +kernel), zmem 106 (by decide +kernel) (by decide +kernel), by decide, _, _, rfl⟩
theorem vX8_refuse : zwV 8 yX8_refuse := ⟨zmem 1856 (by decide +kernel) (by decide +kernel), zmem 123 (by decide +kernel) (by decide +kernel), by decide, _, _, rfl⟩
theorem vX8_rests : zwV 8 yX8_rests := ⟨zmem 2053 (by decide +kernel) (by decide +kernel), zmem 144 (by decide +kernel) (by decide +kernel), by decide, _, _, rfl⟩
theorem vX8_seconds : zwV 8 yX8_seconds := ⟨zmem 1913 (by decide +kernel) (by decide +kernel), zmem 133 (by decide +kernel) (by decide +kernel), by decide, _, _, rfl⟩
theorem vX8_set : zwV 8 yX8_set := ⟨zmem 1877 (by decide +kernel) (by decide +kernel), zmem 124 (by decide +kernel) (by decide +kernel), by decide, _, _, rfl⟩
theorem vX8_signed : zwV 8 yX8_signed := ⟨zmem 2013 (by decide +kernel) (by decide +kernel), zmem 142 (by decide +kernel) (by decide +kernel), by decide, _, _, rfl⟩
theorem vX8_stepOn : zwV 8 yX8_stepOn := ⟨zmem 1672 (by decide +kernel) (by decide +kernel), zmem 94 (by decide +kernel) (by decide +kernel), by decide, _, _, rfl⟩
theorem vX8_takeOver : zwV 8 yX8_takeOver := ⟨zmem 1787 (by decide +kernel) (by decide +kernel), zmem 117 (by decide +kernel) (by decide +kernel), by decide, _, _, rfl⟩
theorem vX8_tellCanHave : zwV 8 yX8_tellCanHave := ⟨zmem 2045 (by decide +kernel) (by decide +kernel), zmem 143 (by decide +kernel) (by decide +kernel), by decide, _, _, rfl⟩
theorem vX8_tellFar : zwV 8 yX8_tellFar := ⟨zmem 1794 (by decide +kernel) (by decide +kernel), zmem 118 (by decide +kernel) (by decide +kernel), by decide, _, _, rfl⟩
theorem vX8_unpack : zwV 8 yX8_unpack := ⟨zmem 1944 (by decide +kernel) (by decide +kernel), zmem 139 (by decide +kernel) (by decide +kernel), by decide, _, _, rfl⟩
theorem vX8_valueBy : zwV 8 yX8_valueBy := ⟨zmem 1921 (by decide +kernel) (by decide +kernel), zmem 135 (by decide +kernel) (by decide +kernel), by decide, _, _, rfl⟩
theorem vX8_which : zwV 8 yX8_which := ⟨zmem 1704 (by decide +kernel) (by decide +kernel), zmem 98 (by decide +kernel) (by decide +kernel), by decide, _, _, rfl⟩
theorem vX8_wrong : zwV 8 yX8_wrong := ⟨zmem 1708 (by decide +kernel) (by decide +kernel), zmem 99 (by decide +kernel) (by decide +kernel), by decide, _, _, rfl⟩
theorem xxRX7_83 : zwX RX7 83 85 2 := ⟨zmem 863 (by decide +kernel) (by decide +kernel), zmem 161 (by decide +kernel) (by decide +kernel), z_inb (by decide +kernel), by decide +kernel, by decide +kernel⟩
theorem xxRX7_171 : zwX RX7 171 173 1 := ⟨zmem 1173 (by decide +kernel) (by decide +kernel), zmem 168 (by decide +kernel) (by decide +kernel), z_inb (by decide +kernel), by decide +kernel, by decide +kernel⟩
