/-! shop: the relation behind it -/
theorem fbg {qt nr : Nat} {s : zS} (hq : qt = 46 ∨ qt = 64) (h : s (qt + 14) 0 = nI nr) (h4 : nr ≤ 4) : ∃ s', FX6_begin 6 qt s = some (0, s') ∧ (∀ k, k ≠ 6 → k ≠ 7 → k ≠ 8 → s' k = s k) ∧ s' 6 0 = (if nr = 0 then 0 else 1) ∧ s' 6 1 = 0 ∧ s' 6 2 = 0 ∧ s' 6 3 = s qt 5 ∧ s' 6 4 = s (qt + 1) 2 ∧ s' 6 5 = 0 ∧ s' 6 8 = 0 ∧ s' 6 10 = 0 ∧ s' 6 13 = 0 ∧ ∀ a, a < 10 → s' 7 a = s (qt + 5) a ∧ s' 8 a = s (qt + 3) a := by
  have l3 : ln 0 (qt + 3) = 10 := by rcases hq with rfl | rfl <;> rfl
  have l5 : ln 0 (qt + 5) = 10 := by rcases hq with rfl | rfl <;> rfl
  have key : ∀ y : Int32, ∃ s', FX6_begin_b16 6 qt 6 y s = some (0, s') ∧ (∀ k, k ≠ 6 → k ≠ 7 → k ≠ 8 → s' k = s k) ∧ s' 6 0 = y ∧ s' 6 1 = 0 ∧ s' 6 2 = 0 ∧ s' 6 3 = s qt 5 ∧ s' 6 4 = s (qt + 1) 2 ∧ s' 6 5 = 0 ∧ s' 6 8 = 0 ∧ s' 6 10 = 0 ∧ s' 6 13 = 0 ∧ ∀ a, a < 10 → s' 7 a = s (qt + 5) a ∧ s' 8 a = s (qt + 3) a := by
    intro y
    unfold FX6_begin_b16
    simp only [zlet_eq]
    have e1 : zup (zup (zup s 6 0 y) 6 1 0) 6 2 0 qt 5 = s qt 5 := by rw [zup_n (by omega), zup_n (by omega), zup_n (by omega)]
    rw [e1]
    have e2 : zup (zup (zup (zup s 6 0 y) 6 1 0) 6 2 0) 6 3 (s qt 5) (qt + 1) 2 = s (qt + 1) 2 := by rw [zup_n (by omega), zup_n (by omega), zup_n (by omega), zup_n (by omega)]
    rw [e2]
    generalize hw : zup (zup (zup (zup (zup (zup s 6 0 y) 6 1 0) 6 2 0) 6 3 (s qt 5)) 6 4 (s (qt + 1) 2)) 6 5 0 = w
    have wo : ∀ k, k ≠ 6 → w k = s k := fun k hk => by rw [← hw, zup_n hk, zup_n hk, zup_n hk, zup_n hk, zup_n hk, zup_n hk]
    rw [show qt + 1 + 4 = qt + 5 from rfl, show (6 + 1 : Nat) = 7 from rfl, fcpy l5 (show ln 0 7 = 10 from rfl) (by decide), zbd_s, show qt + 1 + 2 = qt + 3 from rfl, show (6 + 2 : Nat) = 8 from rfl, fcpy l3 (show ln 0 8 = 10 from rfl) (by decide), zbd_s]
    refine ⟨_, rfl, fun k h6 h7 h8 => ?_, ?_, ?_, ?_, ?_, ?_, ?_, ?_, ?_, ?_, fun a ha => ⟨?_, ?_⟩⟩
    · rw [zup_n h6, zup_n h6, zup_n h6, zrow_n h8, zrow_n h7, wo k h6]
    · simp [zup_at, zrow_n, ← hw]
    · simp [zup_at, zrow_n, ← hw]
    · simp [zup_at, zrow_n, ← hw]
    · simp [zup_at, zrow_n, ← hw]
    · simp [zup_at, zrow_n, ← hw]
    · simp [zup_at, zrow_n, ← hw]
    · simp [zup_at]
    · simp [zup_at]
    · simp [zup_at]
    · rw [zup_n (by decide), zup_n (by decide), zup_n (by decide), zrow_n (by decide), zrow_s, sb_cpy0 ha, wo _ (by omega)]
    · rw [zup_n (by decide), zup_n (by decide), zup_n (by decide), zrow_s, sb_cpy0 ha, zrow_n (by omega), wo _ (by omega)]
  unfold FX6_begin
  rw [h]
  by_cases c : nr = 0
  · rw [if_pos (by rw [c]; decide), if_pos c]
    exact key 0
  · rw [if_neg (nI_nle (by omega) (by omega)), if_neg c]
    exact key 1
theorem gto {t : zS} {na nr : Nat} {J : Nat → Int32} {E : Nat → Nat → Bool} (h10 : na ≤ 10) (h4 : nr ≤ 4) (h1 : t 3 9 = nI na) (h2 : t 3 13 = nI nr) (hJ : ∀ i, i < na → t 6 (10 + i) = J i) (hE : ∀ i j, E i j = bt (J i) j) : ∃ t', FX8_takeOver 0 t = some (0, t') ∧ (∀ k, (k = 1 ∨ k = 2 ∨ 15 < k) → k ≠ 18 → t' k = t k) ∧ (∀ j, j < 29 → t' 0 j = t 0 j) ∧ t' 0 29 = (if nr = 0 then 0 else 1) ∧ t' 0 30 = 0 ∧ t' 0 31 = 0 ∧ t' 0 32 = t 3 16 ∧ t' 0 33 = t 3 11 ∧ t' 0 34 = 0 ∧ t' 0 35 = 0 ∧ t' 0 36 = 0 ∧ t' 0 37 = 0 ∧ t' 0 65 = 0 ∧ t' 0 72 = 0 ∧ (∀ j, j < 9 → t' 3 j = t 3 (9 + j)) ∧ (∀ k j, 4 ≤ k → k ≤ 7 → j < 10 → t' k j = t k (10 + j)) ∧ (∀ k j, 8 ≤ k → k ≤ 12 → j < 8 → t' k j = t k (8 + j)) ∧ (∀ j, j < 96 → t' 13 j = t 13 (96 + j)) ∧ (∀ j, j < 4 → t' 14 j = t 14 (4 + j)) ∧ (∀ j, j < 700 → t' 15 j = t 15 (700 + j)) ∧ ∀ a b, a < na → b < na → t' 18 (10 * a + b) = if dst E na a b = 99 then -1 else nI (dst E na a b) := by
  obtain ⟨u3, a3, b3, c3⟩ := gth (k := 3) (h := 9) (t := t) rfl (by decide)
  obtain ⟨u4, a4, b4, c4⟩ := gth (k := 4) (h := 10) (t := u3) rfl (by decide)
  obtain ⟨u5, a5, b5, c5⟩ := gth (k := 5) (h := 10) (t := u4) rfl (by decide)
  obtain ⟨u6, a6, b6, c6⟩ := gth (k := 6) (h := 10) (t := u5) rfl (by decide)
  obtain ⟨u7, a7, b7, c7⟩ := gth (k := 7) (h := 10) (t := u6) rfl (by decide)
  obtain ⟨u8, a8, b8, c8⟩ := gth (k := 8) (h := 8) (t := u7) rfl (by decide)
  obtain ⟨u9, a9, b9, c9⟩ := gth (k := 9) (h := 8) (t := u8) rfl (by decide)
  obtain ⟨u10, a10, b10, c10⟩ := gth (k := 10) (h := 8) (t := u9) rfl (by decide)
  obtain ⟨u11, a11, b11, c11⟩ := gth (k := 11) (h := 8) (t := u10) rfl (by decide)
  obtain ⟨u12, a12, b12, c12⟩ := gth (k := 12) (h := 8) (t := u11) rfl (by decide)
  obtain ⟨u13, a13, b13, c13⟩ := gth (k := 13) (h := 96) (t := u12) rfl (by decide)
  obtain ⟨u14, a14, b14, c14⟩ := gth (k := 14) (h := 4) (t := u13) rfl (by decide)
  obtain ⟨u15, a15, b15, c15⟩ := gth (k := 15) (h := 700) (t := u14) rfl (by decide)
  have v3 : ∀ j, j < 9 → u15 3 j = t 3 (9 + j) := fun j hj => by rw [b15 3 (by decide), b14 3 (by decide), b13 3 (by decide), b12 3 (by decide), b11 3 (by decide), b10 3 (by decide), b9 3 (by decide), b8 3 (by decide), b7 3 (by decide), b6 3 (by decide), b5 3 (by decide), b4 3 (by decide), c3 j hj]
  have v4 : ∀ j, j < 10 → u15 4 j = t 4 (10 + j) := fun j hj => by rw [b15 4 (by decide), b14 4 (by decide), b13 4 (by decide), b12 4 (by decide), b11 4 (by decide), b10 4 (by decide), b9 4 (by decide), b8 4 (by decide), b7 4 (by decide), b6 4 (by decide), b5 4 (by decide), c4 j hj, b3 4 (by decide)]
  have v5 : ∀ j, j < 10 → u15 5 j = t 5 (10 + j) := fun j hj => by rw [b15 5 (by decide), b14 5 (by decide), b13 5 (by decide), b12 5 (by decide), b11 5 (by decide), b10 5 (by decide), b9 5 (by decide), b8 5 (by decide), b7 5 (by decide), b6 5 (by decide), c5 j hj, b4 5 (by decide), b3 5 (by decide)]
  have v6 : ∀ j, j < 10 → u15 6 j = t 6 (10 + j) := fun j hj => by rw [b15 6 (by decide), b14 6 (by decide), b13 6 (by decide), b12 6 (by decide), b11 6 (by decide), b10 6 (by decide), b9 6 (by decide), b8 6 (by decide), b7 6 (by decide), c6 j hj, b5 6 (by decide), b4 6 (by decide), b3 6 (by decide)]
  have v7 : ∀ j, j < 10 → u15 7 j = t 7 (10 + j) := fun j hj => by rw [b15 7 (by decide), b14 7 (by decide), b13 7 (by decide), b12 7 (by decide), b11 7 (by decide), b10 7 (by decide), b9 7 (by decide), b8 7 (by decide), c7 j hj, b6 7 (by decide), b5 7 (by decide), b4 7 (by decide), b3 7 (by decide)]
  have v8 : ∀ j, j < 8 → u15 8 j = t 8 (8 + j) := fun j hj => by rw [b15 8 (by decide), b14 8 (by decide), b13 8 (by decide), b12 8 (by decide), b11 8 (by decide), b10 8 (by decide), b9 8 (by decide), c8 j hj, b7 8 (by decide), b6 8 (by decide), b5 8 (by decide), b4 8 (by decide), b3 8 (by decide)]
  have v9 : ∀ j, j < 8 → u15 9 j = t 9 (8 + j) := fun j hj => by rw [b15 9 (by decide), b14 9 (by decide), b13 9 (by decide), b12 9 (by decide), b11 9 (by decide), b10 9 (by decide), c9 j hj, b8 9 (by decide), b7 9 (by decide), b6 9 (by decide), b5 9 (by decide), b4 9 (by decide), b3 9 (by decide)]
  have v10 : ∀ j, j < 8 → u15 10 j = t 10 (8 + j) := fun j hj => by rw [b15 10 (by decide), b14 10 (by decide), b13 10 (by decide), b12 10 (by decide), b11 10 (by decide), c10 j hj, b9 10 (by decide), b8 10 (by decide), b7 10 (by decide), b6 10 (by decide), b5 10 (by decide), b4 10 (by decide), b3 10 (by decide)]
  have v11 : ∀ j, j < 8 → u15 11 j = t 11 (8 + j) := fun j hj => by rw [b15 11 (by decide), b14 11 (by decide), b13 11 (by decide), b12 11 (by decide), c11 j hj, b10 11 (by decide), b9 11 (by decide), b8 11 (by decide), b7 11 (by decide), b6 11 (by decide), b5 11 (by decide), b4 11 (by decide), b3 11 (by decide)]
  have v12 : ∀ j, j < 8 → u15 12 j = t 12 (8 + j) := fun j hj => by rw [b15 12 (by decide), b14 12 (by decide), b13 12 (by decide), c12 j hj, b11 12 (by decide), b10 12 (by decide), b9 12 (by decide), b8 12 (by decide), b7 12 (by decide), b6 12 (by decide), b5 12 (by decide), b4 12 (by decide), b3 12 (by decide)]
  have v13 : ∀ j, j < 96 → u15 13 j = t 13 (96 + j) := fun j hj => by rw [b15 13 (by decide), b14 13 (by decide), c13 j hj, b12 13 (by decide), b11 13 (by decide), b10 13 (by decide), b9 13 (by decide), b8 13 (by decide), b7 13 (by decide), b6 13 (by decide), b5 13 (by decide), b4 13 (by decide), b3 13 (by decide)]
  have v14 : ∀ j, j < 4 → u15 14 j = t 14 (4 + j) := fun j hj => by rw [b15 14 (by decide), c14 j hj, b13 14 (by decide), b12 14 (by decide), b11 14 (by decide), b10 14 (by decide), b9 14 (by decide), b8 14 (by decide), b7 14 (by decide), b6 14 (by decide), b5 14 (by decide), b4 14 (by decide), b3 14 (by decide)]
  have v15 : ∀ j, j < 700 → u15 15 j = t 15 (700 + j) := fun j hj => by rw [c15 j hj, b14 15 (by decide), b13 15 (by decide), b12 15 (by decide), b11 15 (by decide), b10 15 (by decide), b9 15 (by decide), b8 15 (by decide), b7 15 (by decide), b6 15 (by decide), b5 15 (by decide), b4 15 (by decide), b3 15 (by decide)]
  have vo : ∀ k, (k < 3 ∨ 15 < k) → u15 k = t k := fun k hk => by rw [b15 k (by omega), b14 k (by omega), b13 k (by omega), b12 k (by omega), b11 k (by omega), b10 k (by omega), b9 k (by omega), b8 k (by omega), b7 k (by omega), b6 k (by omega), b5 k (by omega), b4 k (by omega), b3 k (by omega)]

  have z3 : ∀ (j : Nat) (β : Type) (r : Option β), j < 18 → zin (ln 1 (0 + 3)) (nI j) r = r := fun j β r hj => zin_n r hj (by decide)
  have key : ∀ y : Int32, ∃ t', FX8_takeOver_b106 0 0 y u15 = some (0, t') ∧ (∀ k, k ≠ 0 → k ≠ 18 → t' k = u15 k) ∧ (∀ j, j < 29 → t' 0 j = u15 0 j) ∧ t' 0 29 = y ∧ t' 0 30 = 0 ∧ t' 0 31 = 0 ∧ t' 0 32 = t 3 16 ∧ t' 0 33 = t 3 11 ∧ t' 0 34 = 0 ∧ t' 0 35 = 0 ∧ t' 0 36 = 0 ∧ t' 0 37 = 0 ∧ t' 0 65 = 0 ∧ t' 0 72 = 0 ∧ ∀ a b, a < na → b < na → t' 18 (10 * a + b) = if dst E na a b = 99 then -1 else nI (dst E na a b) := by
    intro y
    unfold FX8_takeOver_b106
    simp only [zlet_eq, show (7 : Int32) = nI 7 from rfl, show (2 : Int32) = nI 2 from rfl, z3 7 _ _ (by decide), z3 2 _ _ (by decide), nI_clamp (by decide : 7 < 2 ^ 31), nI_clamp (by decide : 2 < 2 ^ 31), show (0 + 3 : Nat) = 3 from rfl, zup_n (by decide : 3 ≠ 0)]
    rw [v3 7 (by decide), v3 2 (by decide)]
    generalize hw : zup (zup (zup (zup (zup (zup (zup (zup (zup (zup (zup u15 0 29 y) 0 30 0) 0 31 0) 0 32 (t 3 (9 + 7))) 0 33 (t 3 (9 + 2))) 0 34 0) 0 35 0) 0 36 0) 0 37 0) 0 65 0) 0 72 0 = w
    have wo : ∀ k, k ≠ 0 → w k = u15 k := fun k hk => by rw [← hw]; simp only [zup_n hk]
    obtain ⟨t', g1, g2, g3⟩ := gTF (E := E) (J := J) (t := w) h10 (by rw [wo 3 (by decide), v3 0 (by decide)]; exact h1) (fun i hi => by rw [wo 6 (by decide), v6 i (by omega)]; exact hJ i hi) hE
    rw [g1, zbd_s]
    refine ⟨t', rfl, fun k k0 k18 => (g2 k k18).trans (wo k k0), fun j hj => ?_, ?_, ?_, ?_, ?_, ?_, ?_, ?_, ?_, ?_, ?_, ?_, g3⟩
    · rw [g2 0 (by decide), ← hw]
      simp only [zup_at]
      rw [if_neg (by omega), if_neg (by omega), if_neg (by omega), if_neg (by omega), if_neg (by omega), if_neg (by omega), if_neg (by omega), if_neg (by omega), if_neg (by omega), if_neg (by omega), if_neg (by omega)]
    all_goals (rw [g2 0 (by decide), ← hw]; simp [zup_at])
  have fin : ∀ y : Int32, FX8_takeOver 0 t = FX8_takeOver_b106 0 0 y u15 → y = (if nr = 0 then 0 else 1) → ∃ t', FX8_takeOver 0 t = some (0, t') ∧ (∀ k, (k = 1 ∨ k = 2 ∨ 15 < k) → k ≠ 18 → t' k = t k) ∧ (∀ j, j < 29 → t' 0 j = t 0 j) ∧ t' 0 29 = (if nr = 0 then 0 else 1) ∧ t' 0 30 = 0 ∧ t' 0 31 = 0 ∧ t' 0 32 = t 3 16 ∧ t' 0 33 = t 3 11 ∧ t' 0 34 = 0 ∧ t' 0 35 = 0 ∧ t' 0 36 = 0 ∧ t' 0 37 = 0 ∧ t' 0 65 = 0 ∧ t' 0 72 = 0 ∧ (∀ j, j < 9 → t' 3 j = t 3 (9 + j)) ∧ (∀ k j, 4 ≤ k → k ≤ 7 → j < 10 → t' k j = t k (10 + j)) ∧ (∀ k j, 8 ≤ k → k ≤ 12 → j < 8 → t' k j = t k (8 + j)) ∧ (∀ j, j < 96 → t' 13 j = t 13 (96 + j)) ∧ (∀ j, j < 4 → t' 14 j = t 14 (4 + j)) ∧ (∀ j, j < 700 → t' 15 j = t 15 (700 + j)) ∧ ∀ a b, a < na → b < na → t' 18 (10 * a + b) = if dst E na a b = 99 then -1 else nI (dst E na a b) := by
    intro y h1 h2
    obtain ⟨t', g1, g2, g3, w29, w30, w31, w32, w33, w34, w35, w36, w37, w65, w72, g4⟩ := key y
    refine ⟨t', h1.trans g1, fun k k1 k2 => ?_, fun j hj => ?_, w29.trans h2, w30, w31, w32, w33, w34, w35, w36, w37, w65, w72, fun j hj => ?_, fun k j k1 k2 hj => ?_, fun k j k1 k2 hj => ?_, fun j hj => ?_, fun j hj => ?_, fun j hj => ?_, g4⟩
    · rw [g2 k (by omega) k2, vo k (by omega)]
    · rw [g3 j hj, vo 0 (by decide)]
    · rw [g2 3 (by decide) (by decide), v3 j hj]
    · rw [g2 k (by omega) (by omega)]
      have : k = 4 ∨ k = 5 ∨ k = 6 ∨ k = 7 := by omega
      rcases this with rfl | rfl | rfl | rfl
      · exact v4 j hj
      · exact v5 j hj
      · exact v6 j hj
      · exact v7 j hj
    · rw [g2 k (by omega) (by omega)]
      have : k = 8 ∨ k = 9 ∨ k = 10 ∨ k = 11 ∨ k = 12 := by omega
      rcases this with rfl | rfl | rfl | rfl | rfl
      · exact v8 j hj
      · exact v9 j hj
      · exact v10 j hj
      · exact v11 j hj
      · exact v12 j hj
    · rw [g2 13 (by decide) (by decide), v13 j hj]
    · rw [g2 14 (by decide) (by decide), v14 j hj]
    · rw [g2 15 (by decide) (by decide), v15 j hj]
  have st : FX8_takeOver 0 t = if u15 3 4 ≤ 0 then FX8_takeOver_b106 0 0 0 u15 else FX8_takeOver_b106 0 0 1 u15 := by
    unfold FX8_takeOver
    simp only [Nat.zero_add, a3, a4, a5, a6, a7, a8, a9, a10, a11, a12, a13, a14, a15, zbd_s]
    rw [show zin (ln 1 3) 4 _ = _ from z3 4 _ _ (by decide)]
    rfl
  have e4 : u15 3 4 = nI nr := by rw [v3 4 (by decide)]; exact h2
  rw [e4] at st
  by_cases c : nr = 0
  · rw [if_pos (by rw [c]; decide)] at st
    exact fin 0 st (by rw [if_pos c])
  · rw [if_neg (nI_nle (by omega) (by omega))] at st
    exact fin 1 st (by rw [if_neg c])
/-- the reference's first step: nothing is told -/
theorem gL50 {t : zS} : ∃ t', zlp (fun q : Int32 × zS => FX8_shop_L50 0 q.1 q.2) (0, t) = FX8_shop_b103 0 t' ∧ (∀ k j, ¬ (k = 3 ∧ 9 ≤ j) → t' k j = t k j) ∧ ∀ j, j < 9 → t' 3 (9 + j) = if j = 5 then 3 else if j = 6 then 400 else if j = 7 then 1 else 0 := by
  have key : ∀ m i u, i + m = 9 → (∀ k j, ¬ (k = 3 ∧ 9 ≤ j) → u k j = t k j) → (∀ j, j < i → u 3 (9 + j) = if j = 5 then 3 else if j = 6 then 400 else if j = 7 then 1 else 0) → ∃ t', zlp (fun q : Int32 × zS => FX8_shop_L50 0 q.1 q.2) (nI i, u) = FX8_shop_b103 0 t' ∧ (∀ k j, ¬ (k = 3 ∧ 9 ≤ j) → t' k j = t k j) ∧ ∀ j, j < 9 → t' 3 (9 + j) = if j = 5 then 3 else if j = 6 then 400 else if j = 7 then 1 else 0 := by
    intro m
    induction m with
    | zero =>
      intro i u hi h1 h2
      refine ⟨u, zlp_exit ?_, h1, fun j hj => h2 j (by omega)⟩
      show FX8_shop_L50 0 (nI i) u = _
      unfold FX8_shop_L50
      rw [if_pos (show (9 : Int32) ≤ nI i from nI_le (a := 9) (by omega) (by omega))]
    | succ m ih =>
      intro i u hi h1 h2
      have e96 : ∀ y, FX8_shop_b96 0 (nI i) (0 + 3) (9 + nI i) y u = some (.inl (nI (i + 1), zup u 3 (9 + i) y)) := fun y => by
        unfold FX8_shop_b96
        rw [show (0 + 3 : Nat) = 3 from rfl, show (9 : Int32) + nI i = nI (9 + i) from nI_add 9 i, show ln 1 3 = 18 from rfl, zin_n _ (by omega : 9 + i < 18) (by decide), zlet_eq, zlet_eq, nI_1, nI_clamp (by omega : 9 + i < 2 ^ 31)]
      have st : FX8_shop_L50 0 (nI i) u = some (.inl (nI (i + 1), zup u 3 (9 + i) (if i = 5 then 3 else if i = 6 then 400 else if i = 7 then 1 else 0))) := by
        unfold FX8_shop_L50
        rw [if_neg (show ¬ (9 : Int32) ≤ nI i from nI_ge (b := 9) (by omega) (by decide)), e96, e96, e96, e96]
        have q : ∀ c : Nat, c < 9 → (nI i = nI c ↔ i = c) := fun c hc => nI_eq (by omega) (by omega)
        by_cases c5 : i = 5
        · rw [if_pos (show nI i = 5 from (q 5 (by decide)).mpr c5), if_pos c5]
        rw [if_neg (show ¬ nI i = 5 from fun z => c5 ((q 5 (by decide)).mp z)), if_neg c5]
        by_cases c6 : i = 6
        · rw [if_pos (show nI i = 6 from (q 6 (by decide)).mpr c6), if_pos c6]
        rw [if_neg (show ¬ nI i = 6 from fun z => c6 ((q 6 (by decide)).mp z)), if_neg c6]
        by_cases c7 : i = 7
        · rw [if_pos (show nI i = 7 from (q 7 (by decide)).mpr c7), if_pos c7]
        · rw [if_neg (show ¬ nI i = 7 from fun z => c7 ((q 7 (by decide)).mp z)), if_neg c7]
      obtain ⟨t', e1, e2, e3⟩ := ih (i + 1) (zup u 3 (9 + i) (if i = 5 then 3 else if i = 6 then 400 else if i = 7 then 1 else 0)) (by omega) (fun k j hkj => by rw [zup_at, if_neg (by omega)]; exact h1 k j hkj) (fun j hj => by
        rw [zup_at]
        by_cases c : j = i
        · rw [if_pos ⟨rfl, by omega⟩, c]
        · rw [if_neg (by omega)]; exact h2 j (by omega))
      exact ⟨t', (zlp_step (f := fun q : Int32 × zS => FX8_shop_L50 0 q.1 q.2) (a := (nI i, u)) st).trans e1, e2, e3⟩
  exact key 9 0 t rfl (fun _ _ _ => rfl) (fun j hj => by omega)
theorem rS.ext {t t' S : zS} {na n nr : Nat} (h : rS t S na n nr) (ht : ∀ k j, k ≠ 0 → mfr k j = false → t' k j = t k j) : rS t' S na n nr := by
  obtain ⟨⟨a1, a2, a3⟩, ⟨b1, b2, b3⟩, ⟨c1, c2, c3⟩, ⟨d1, d2, d3, d4, d5⟩, hA, hP, ⟨δ, hF⟩, hR⟩ := h
  have h3 : ∀ j, j < 9 → t' 3 j = t 3 j := fun j hj => ht 3 j (by decide) (by unfold mfr; simp; omega)
  refine ⟨⟨a1, a2, by rw [h3 0 (by decide)]; exact a3⟩, ⟨b1, b2, by rw [h3 3 (by decide)]; exact b3⟩, ⟨c1, c2, by rw [h3 4 (by decide)]; exact c3⟩, ⟨by rw [h3 5 (by decide)]; exact d1, by rw [h3 6 (by decide)]; exact d2, by rw [h3 7 (by decide)]; exact d3, by rw [h3 1 (by decide)]; exact d4, by rw [h3 2 (by decide)]; exact d5⟩, fun a ha => ?_, fun p hp => ?_, ⟨δ, fun a b ha hb => ?_⟩, fun r hr => ?_⟩
  · rw [ht 4 a (by decide) (by unfold mfr; simp; omega), ht 6 a (by decide) (by unfold mfr; simp; omega)]
    exact hA a ha
  · obtain ⟨c, k, l, e1, e2, e3, e4, e5, e6, e7, e8, e9, e10, e11, e12, e13, e14⟩ := hP p hp
    refine ⟨c, k, l, ?_, ?_, ?_, ?_, ?_, e6, e7, e8, e9, e10, e11, e12, e13, fun i hi => ?_⟩
    · rw [ht 8 p (by decide) (by unfold mfr; simp; omega)]; exact e1
    · rw [ht 9 p (by decide) (by unfold mfr; simp; omega)]; exact e2
    · rw [ht 10 p (by decide) (by unfold mfr; simp; omega)]; exact e3
    · rw [ht 11 p (by decide) (by unfold mfr; simp; omega)]; exact e4
    · rw [ht 12 p (by decide) (by unfold mfr; simp; omega)]; exact e5
    · rw [ht 13 _ (by decide) (by unfold mfr; simp; omega)]; exact e14 i hi
  · rw [ht 18 _ (by decide) (by unfold mfr; simp)]
    exact hF a b ha hb
  · obtain ⟨e1, e2, e3, e4, e5⟩ := hR r hr
    obtain ⟨v1, v2, v3, v4, v5⟩ := id e1
    refine ⟨e1, by rw [ht 14 _ (by decide) (by unfold mfr; simp; omega)]; exact e2, fun h0 => by rw [ht 14 _ (by decide) (by unfold mfr; simp; omega)]; exact e3 h0, fun i h1 h2 => by rw [ht 15 _ (by decide) (by unfold mfr; simp; omega)]; exact e4 i h1 h2, e5⟩
/-- a text with a FAULT: only the readers have worked -/
theorem RQ.told {s s' t t' : zS} {q na n nr : Nat} (h : RQ s t q na n nr) (f : ∀ k j, ¬ (k = 0 ∧ j ≤ 1) → ¬ (k = 4 ∧ j ≠ 1) → ¬ (110 - q ≤ k ∧ k < 110 - q + 18) → s' k j = s k j) (g : ∀ k j, mfr k j = false → ¬ (k = 0 ∧ (j = 2 ∨ j = 18 ∨ j = 27)) → t' k j = t k j) (hT : rTp s' t') : RQ s' t' q na n nr := by
  obtain ⟨-, h2, ⟨h3, h3b⟩, h4, h5, h6, h7⟩ := h
  have hq := h2.1
  have fr : ∀ k, k ≠ 0 → k ≠ 4 → ¬ (110 - q ≤ k ∧ k < 110 - q + 18) → s' k = s k := fun k k0 k4 k1 => funext fun j => f k j (by omega) (by omega) k1
  have f0 : ∀ j, 2 ≤ j → s' 0 j = s 0 j := fun j hj => f 0 j (by omega) (by omega) (by omega)
  have gr : ∀ k, 16 ≤ k → t' k = t k := fun k hk => funext fun j => g k j (by unfold mfr; simp; omega) (by omega)
  have g0 : ∀ j, 28 ≤ j → t' 0 j = t 0 j := fun j hj => g 0 j (by unfold mfr; simp; omega) (by omega)
  have fs : ss q s' = ss q s := by
    funext i j
    unfold ss
    split
    · rfl
    · next c => rw [fr (q + i) (by omega) (by omega) (by omega)]
  refine ⟨hT, ?_, ⟨by rw [fs]; exact h3.ext (fun k j k0 hk => g k j hk (by omega)), by rw [fs]; exact h3b⟩, ?_, ?_, ?_, ?_⟩
  · unfold rPt at *
    rw [f0 2 (by decide), f 4 1 (by omega) (by omega) (by omega)]
    exact h2
  · obtain ⟨k1, k2, k3, k4, k5⟩ := h4
    have e7 : ∀ a, a < na → t' 7 a = t 7 a := fun a ha => g 7 a (by have := h3.1.1; unfold mfr; simp; omega) (by omega)
    have e5 : ∀ a, a < na → t' 5 a = t 5 a := fun a ha => g 5 a (by have := h3.1.1; unfold mfr; simp; omega) (by omega)
    unfold rNw kR
    rw [fr 6 (by decide) (by decide) (by omega), fr (6 + 1) (by decide) (by decide) (by omega), fr (6 + 2) (by decide) (by decide) (by omega), fr (6 + 3) (by decide) (by decide) (by omega), fr (6 + 4) (by decide) (by decide) (by omega), fr (6 + 5) (by decide) (by decide) (by omega), fr (6 + 6) (by decide) (by decide) (by omega), fr (6 + 7) (by decide) (by decide) (by omega), fr (6 + 8) (by decide) (by decide) (by omega), g0 35 (by decide), g0 36 (by decide), g0 37 (by decide), gr 19 (by decide), gr 29 (by decide), gr 30 (by decide), gr 31 (by decide), gr 32 (by decide), gr 16 (by decide)]
    exact ⟨k1.c (fun _ _ => rfl) (fun _ _ => rfl) (fun _ _ => rfl) (fun i _ => g0 (29 + i) (by omega)) e7 e5, k2, k3, k4, k5⟩
  · unfold rPi at *
    rw [f0 6 (by decide), g0 72 (by decide), g0 73 (by decide), g0 74 (by decide), g0 75 (by decide), gr 34 (by decide), gr 35 (by decide), gr 36 (by decide), gr 37 (by decide), gr 38 (by decide), gr 39 (by decide), gr 40 (by decide)]
    exact h5.imp id (fun ⟨a, b, c⟩ => ⟨a, b, c.x (fun i hi => fr _ (by omega) (by omega) (by omega))⟩)
  · exact h6.x hq (f0 9 (by decide)) fs (fun j _ => by rw [fr 6 (by decide) (by decide) (by omega)]) (fr 7 (by decide) (by decide) (by omega)) (fr 8 (by decide) (by decide) (by omega)) (fun k k1 k2 => fr _ (by omega) (by omega) (by omega))
  · unfold rLd at *
    rw [f0 12 (by decide), g0 65 (by decide), fr 2 (by decide) (by decide) (by omega), gr 28 (by decide)]
    exact h7
