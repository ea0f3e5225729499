/-- how many others are there, on both sides -/
theorem gCr {τ S d : zS} {na n a : Nat} (h10 : na ≤ 10) (h8 : n ≤ 8) (e3 : τ 3 3 = nI n) (hW : ∀ p, p < n → rW τ d na p) (ha : a < na) : FX8_crowdAt 0 (nI a) τ = some (mCr n (nI a) d + 1, τ) := by
  unfold FX8_crowdAt mCr
  rw [zlet_eq, zlet_eq]
  have z0 : (fo (mCr1 (nI a) d) 0 (-1) + 1 : Int32) = 0 := by show (-1 : Int32) + 1 = 0; decide
  refine Eq.trans (congrArg (zlp _) (show ((0 : Int32), (0 : Int32), τ) = (fo (mCr1 (nI a) d) 0 (-1) + 1, nI 0, τ) from by rw [z0]; rfl)) ?_
  refine zlp_for (fun o => (fo (mCr1 (nI a) d) o (-1) + 1, nI o, τ)) n (fun o ho => ?_) ?_
  · show FX8_crowdAt_L4 0 (nI a) (fo (mCr1 (nI a) d) o (-1) + 1) (nI o) τ = some (.inl (mCr1 (nI a) d o (fo (mCr1 (nI a) d) o (-1)) + 1, nI (o + 1), τ))
    generalize fo (mCr1 (nI a) d) o (-1) = c
    have ho8 : o < 8 := by omega
    have em : ¬ (-1 : Int32) = nI a := fun z => nI_m1 (by omega : a < 2 ^ 31) z.symm
    unfold FX8_crowdAt_L4 FX8_crowdAt_b36 FX8_crowdAt_b37 mCr1
    rcases hW o ho with ⟨w1, w2⟩ | ⟨i, b, hi, hb, w1, w2, w3⟩
    · simp only [zlet_eq, zbd_s, zgd_t, zinr_s, Nat.zero_add, rn_3, rn_4, rn_5, rn_6, rn_7, rn_8, rn_9, rn_10, rn_11, rn_12, rn_13, rn_14, rn_15, rn_16, rn_17, rn_18, rn_19, rn_20, rn_21, rn_22, rn_23, rn_24, rn_25, rn_26, rn_27, rn_28, rn_29, rn_30, rn_31, rn_32, rn_33, rn_34, rn_35, rn_36, rn_37, rn_38, rn_39, rn_40, tn_0, tn_1, tn_2, tn_3, tn_4, tn_5, tn_6, tn_7, tn_8, zi_18_0, zi_18_1, zi_18_2, zi_18_3, zi_18_4, zi_18_5, zi_18_6, zi_18_7, zi_18_8, zi_7_0, zi_7_1, zi_7_2, zi_7_3, zi_7_4, zi_7_5, zi_7_6, zi_64_0, e3, if_neg (nI_ge ho (by omega : n < 2 ^ 31)), gIn ho8, w1, w2, decide_true, Bool.not_true, b01_f, if_true, if_neg em, nI_1, Int32.add_zero]
    · have hneg : ¬ nI i < 0 := nI_pos (by omega)
      simp only [zlet_eq, zbd_s, zgd_t, zinr_s, Nat.zero_add, rn_3, rn_4, rn_5, rn_6, rn_7, rn_8, rn_9, rn_10, rn_11, rn_12, rn_13, rn_14, rn_15, rn_16, rn_17, rn_18, rn_19, rn_20, rn_21, rn_22, rn_23, rn_24, rn_25, rn_26, rn_27, rn_28, rn_29, rn_30, rn_31, rn_32, rn_33, rn_34, rn_35, rn_36, rn_37, rn_38, rn_39, rn_40, tn_0, tn_1, tn_2, tn_3, tn_4, tn_5, tn_6, tn_7, tn_8, zi_18_0, zi_18_1, zi_18_2, zi_18_3, zi_18_4, zi_18_5, zi_18_6, zi_18_7, zi_18_8, zi_7_0, zi_7_1, zi_7_2, zi_7_3, zi_7_4, zi_7_5, zi_7_6, zi_64_0, e3, if_neg (nI_ge ho (by omega : n < 2 ^ 31)), gIn ho8, w1, hneg, decide_false, Bool.not_false, b01_t, show ¬ (1 : Int32) = 0 from by decide, if_false, gAi ho8 hi w1, w2, w3, nI_1]
      by_cases e : nI b = nI a
      · rw [if_pos e, if_pos e]
      · rw [if_neg e, if_neg e, Int32.add_zero, Int32.add_zero]
  · show FX8_crowdAt_L4 0 (nI a) (fo (mCr1 (nI a) d) n (-1) + 1) (nI n) τ = _
    unfold FX8_crowdAt_L4 FX8_crowdAt_b45
    simp only [zlet_eq, zbd_s, zgd_t, zinr_s, Nat.zero_add, rn_3, rn_4, rn_5, rn_6, rn_7, rn_8, rn_9, rn_10, rn_11, rn_12, rn_13, rn_14, rn_15, rn_16, rn_17, rn_18, rn_19, rn_20, rn_21, rn_22, rn_23, rn_24, rn_25, rn_26, rn_27, rn_28, rn_29, rn_30, rn_31, rn_32, rn_33, rn_34, rn_35, rn_36, rn_37, rn_38, rn_39, rn_40, tn_0, tn_1, tn_2, tn_3, tn_4, tn_5, tn_6, tn_7, tn_8, zi_18_0, zi_18_1, zi_18_2, zi_18_3, zi_18_4, zi_18_5, zi_18_6, zi_18_7, zi_18_8, zi_7_0, zi_7_1, zi_7_2, zi_7_3, zi_7_4, zi_7_5, zi_7_6, zi_64_0, e3, if_pos (nI_le (Nat.le_refl n) (by omega : n < 2 ^ 31))]
theorem add_sub1 (x : Int32) : x + 1 - 1 = x := by
  apply Int32.toBitVec_inj.mp
  rw [Int32.toBitVec_sub, Int32.toBitVec_add, BitVec.add_sub_cancel]
/-- a day's relation when only what is asked and the stack have changed -/
theorem rD.ask {τ τ' S d : zS} {na n : Nat} (h : rD τ S na n d) (hk : ∀ k, k ≠ 20 → k ≠ 21 → τ' k = τ k) : rD τ' S na n d := by
  unfold rD rC rN rH rW at *
  rw [hk 0 (by decide) (by decide), hk 7 (by decide) (by decide), hk 13 (by decide) (by decide), hk 22 (by decide) (by decide), hk 23 (by decide) (by decide), hk 24 (by decide) (by decide), hk 25 (by decide) (by decide), hk 26 (by decide) (by decide)]
  exact h
theorem rD.mdl {τ S d d' : zS} {na n : Nat} (h : rD τ S na n d) (hk : ∀ k, k ≠ 7 → k ≠ 11 → k ≠ 12 → d' k = d k) : rD τ S na n d' := by
  unfold rD rC rN rH rW at *
  rw [hk 0 (by decide) (by decide) (by decide), hk 1 (by decide) (by decide) (by decide), hk 2 (by decide) (by decide) (by decide), hk 3 (by decide) (by decide) (by decide), hk 4 (by decide) (by decide) (by decide), hk 5 (by decide) (by decide) (by decide), hk 6 (by decide) (by decide) (by decide), hk 8 (by decide) (by decide) (by decide)]
  exact h
theorem Fr.ask {τ0 τ τ' : zS} (h : Fr τ0 τ) (hk : ∀ k, k ≠ 20 → k ≠ 21 → τ' k = τ k) : Fr τ0 τ' := by
  intro k j hs
  rw [hk k (fun z => by subst z; revert hs; unfold sc; simp) (fun z => by subst z; revert hs; unfold sc; simp)]
  exact h k j hs
theorem mBtw_n {S : zS} {a b : Nat} (ha : a < 10) (hb : b < 10) : mBtw S (nI a) (nI b) = S 6 (10 * a + b) := by
  unfold mBtw
  rw [show (10 : Int32) = nI 10 from rfl, pk_mul, nI_add, rd_n (by omega) (by decide), Nat.mul_comm]
/-- what a rule is told of one, and what it gives, on both sides -/
theorem gVp {τ S d : zS} {na n nr p r m i a e : Nat} (hS : rS τ S na n nr) (hD : rD τ S na n d) (hp : p < n) (hr : r < nr) (hi : i < 12) (ha : a < na) (he : e < na) (w1 : τ 24 p = nI i) (w2 : τ 13 (12 * p + i) = nI a) (w3 : d 4 p = nI a) (h12 : d 0 12 = nI e) (h2 : d 0 2 = nI r) {x2 x3 : Int32} :
    ∃ τ', FX8_followed_b133 0 (nI m) x2 x3 (nI p) (nI a) 20 2 (b01 (bt (d 8 5) p)) (zup (zup τ 20 0 (τ 11 p)) 20 1 (nI m - τ 9 p + 1)) = some (.inl (if x3 < mTo (mVd S r (mTv S n p (nI m) d)) then (nI p, mTo (mVd S r (mTv S n p (nI m) d)), nI (p + 1), τ') else (x2, x3, nI (p + 1), τ'))) ∧ ∀ k, k ≠ 20 → k ≠ 21 → τ' k = τ k := by
  obtain ⟨⟨h10, -, -⟩, ⟨h8, hSn, e33⟩, -, -, -, hPs, ⟨δ, hF⟩, hRs⟩ := id hS
  obtain ⟨hC, hN, -, -, -, hW⟩ := id hD
  obtain ⟨c, t, l, hP⟩ := hPs p hp
  have hp8 : p < 8 := by omega
  obtain ⟨f1, f2, f3, -⟩ := hF e a he ha
  obtain ⟨n1, -⟩ := hN
  obtain ⟨-, c2, -, -, c5, -⟩ := hC
  obtain ⟨g8, g9, g10, g11, -⟩ := id hP
  have hpos : 10 * e + a < 100 := by omega
  have hfar : mBtw S (nI e) (nI a) = nI (δ e a) := by rw [mBtw_n (by omega) (by omega), f1]
  have e10 : 10 * nI e + nI a = nI (10 * e + a) := by rw [show (10 : Int32) = nI 10 from rfl, pk_mul, nI_add]
  -- behind the distance
  have tail : ∀ τ1 : zS, (∀ k, k ≠ 20 → τ1 k = τ k) → (∀ j, j < 3 → τ1 20 j = mTv S n p (nI m) d 7 j) → ∀ v : Int32, v = mTv S n p (nI m) d 7 3 → ∃ τ', FX8_followed_b178 0 (nI m) x2 x3 (nI p) (nI a) 20 3 v τ1 = some (.inl (if x3 < mTo (mVd S r (mTv S n p (nI m) d)) then (nI p, mTo (mVd S r (mTv S n p (nI m) d)), nI (p + 1), τ') else (x2, x3, nI (p + 1), τ'))) ∧ ∀ k, k ≠ 20 → k ≠ 21 → τ' k = τ k := by
    intro τ1 hk hj v hv
    subst hv
    have hW1 : ∀ q, q < n → rW (zup (zup τ1 20 3 (mTv S n p (nI m) d 7 3)) 20 4 (τ1 22 a)) d na q := by
      intro q hq
      have := hW q hq
      unfold rW at *
      rw [zup_n (by decide), zup_n (by decide), zup_n (by decide), zup_n (by decide), hk 24 (by decide), hk 13 (by decide)]
      exact this
    have hcr := gCr (S := S) h10 h8 (τ := zup (zup τ1 20 3 (mTv S n p (nI m) d 7 3)) 20 4 (τ1 22 a)) (by rw [zup_n (by decide), zup_n (by decide), hk 3 (by decide)]; exact e33) hW1 ha
    have e22 : τ1 22 a = rd 10 (d 1) (nI a) := by rw [rd_n (by omega) (by decide), hk 22 (by decide)]; exact (c5 a ha).1
    obtain ⟨τ2, hv1, hv2⟩ := gVb (τ := zup (zup (zup (zup τ1 20 3 (mTv S n p (nI m) d 7 3)) 20 4 (τ1 22 a)) 20 5 (mCr n (nI a) d)) 20 6 (nI m)) (d := mTv S n p (nI m) d) (r := r) (S := S) (by
        have := hRs r hr
        unfold rR at *
        rw [zup_n (by decide), zup_n (by decide), zup_n (by decide), zup_n (by decide), zup_n (by decide), zup_n (by decide), zup_n (by decide), zup_n (by decide), hk 14 (by decide), hk 15 (by decide)]
        exact this) (by
        intro j hj7
        by_cases j3 : j < 3
        · rw [zup_at, if_neg (by omega), zup_at, if_neg (by omega), zup_at, if_neg (by omega), zup_at, if_neg (by omega)]
          exact hj j j3
        · rcases (by omega : j = 3 ∨ j = 4 ∨ j = 5 ∨ j = 6) with z | z | z | z <;> subst z
          · simp [zup_at]
          · simp [zup_at, mTv, e22, w3]
          · simp [zup_at, mTv, w3]
          · simp [zup_at, mTv])
    have e47 : zup (zup (zup (zup τ1 20 3 (mTv S n p (nI m) d 7 3)) 20 4 (τ1 22 a)) 20 5 (mCr n (nI a) d)) 20 6 (nI m) 0 47 = nI r := by
      rw [zup_n (by decide), zup_n (by decide), zup_n (by decide), zup_n (by decide), hk 0 (by decide), c2, h2]
    refine ⟨τ2, ?_, fun k k1 k2 => by rw [hv2 k k2, zup_n k1, zup_n k1, zup_n k1, zup_n k1, hk k k1]⟩
    unfold FX8_followed_b178 FX8_followed_b239
    simp only [zlet_eq, zbd_s, zgd_t, zinr_s, Nat.zero_add, rn_3, rn_4, rn_5, rn_6, rn_7, rn_8, rn_9, rn_10, rn_11, rn_12, rn_13, rn_14, rn_15, rn_16, rn_17, rn_18, rn_19, rn_20, rn_21, rn_22, rn_23, rn_24, rn_25, rn_26, rn_27, rn_28, rn_29, rn_30, rn_31, rn_32, rn_33, rn_34, rn_35, rn_36, rn_37, rn_38, rn_39, rn_40, tn_0, tn_1, tn_2, tn_3, tn_4, tn_5, tn_6, tn_7, tn_8, zi_18_0, zi_18_1, zi_18_2, zi_18_3, zi_18_4, zi_18_5, zi_18_6, zi_18_7, zi_18_8, zi_7_0, zi_7_1, zi_7_2, zi_7_3, zi_7_4, zi_7_5, zi_7_6, zi_64_0, zin_n _ (by omega : a < 10) (by decide : 10 < 2 ^ 31), nI_clamp (by omega : a < 2 ^ 31), zup_n (by decide : 22 ≠ 20), hcr, add_sub1, e47, hv1, nI_1]
    by_cases cc : x3 < mTo (mVd S r (mTv S n p (nI m) d))
    · rw [if_pos cc, if_pos cc]
    · rw [if_neg cc, if_neg cc]
  unfold FX8_followed_b133
  have e51 : zup (zup (zup τ 20 0 (τ 11 p)) 20 1 (nI m - τ 9 p + 1)) 20 2 (b01 (bt (d 8 5) p)) 0 51 = nI e := by
    rw [zup_n (by decide), zup_n (by decide), zup_n (by decide), n1, h12]
  simp only [zlet_eq, zbd_s, zgd_t, zinr_s, Nat.zero_add, rn_3, rn_4, rn_5, rn_6, rn_7, rn_8, rn_9, rn_10, rn_11, rn_12, rn_13, rn_14, rn_15, rn_16, rn_17, rn_18, rn_19, rn_20, rn_21, rn_22, rn_23, rn_24, rn_25, rn_26, rn_27, rn_28, rn_29, rn_30, rn_31, rn_32, rn_33, rn_34, rn_35, rn_36, rn_37, rn_38, rn_39, rn_40, tn_0, tn_1, tn_2, tn_3, tn_4, tn_5, tn_6, tn_7, tn_8, zi_18_0, zi_18_1, zi_18_2, zi_18_3, zi_18_4, zi_18_5, zi_18_6, zi_18_7, zi_18_8, zi_7_0, zi_7_1, zi_7_2, zi_7_3, zi_7_4, zi_7_5, zi_7_6, zi_64_0, e51, e10, zin_n _ hpos (by decide : 100 < 2 ^ 31), nI_clamp (by omega : 10 * e + a < 2 ^ 31), zup_n (by decide : 18 ≠ 20), f2]
  have hk1 : ∀ k, k ≠ 20 → zup (zup (zup τ 20 0 (τ 11 p)) 20 1 (nI m - τ 9 p + 1)) 20 2 (b01 (bt (d 8 5) p)) k = τ k := fun k hk => by rw [zup_n hk, zup_n hk, zup_n hk]
  have hj1 : ∀ j, j < 3 → zup (zup (zup τ 20 0 (τ 11 p)) 20 1 (nI m - τ 9 p + 1)) 20 2 (b01 (bt (d 8 5) p)) 20 j = mTv S n p (nI m) d 7 j := by
    intro j hj
    rcases (by omega : j = 0 ∨ j = 1 ∨ j = 2) with z | z | z <;> subst z
    · simp [zup_at, mTv, g11]
    · simp [zup_at, mTv, g9]
    · simp [zup_at, mTv]
  have h73 : mTv S n p (nI m) d 7 3 = nI (δ e a) := by
    unfold mTv
    simp [zup_at, h12, w3, hfar]
  by_cases h99 : δ e a = 99
  · rw [if_pos h99, if_pos rfl]
    exact tail _ hk1 hj1 99 (by rw [h73, h99]; rfl)
  · rw [if_neg h99, if_neg (nI_m1 (by omega))]
    exact tail _ hk1 hj1 _ h73.symm
