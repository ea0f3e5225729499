/-- where somebody is, in the class's own world -/
theorem fstp_r {q : Nat} {σ : zS} {x i : Int32} (h : q = 46 ∨ q = 64) : FX2_stepOf (q + 7) x i σ = some (mStp (ss q σ) x i, σ) := by
  have hd : dH 24 q := ⟨Or.inl rfl, h⟩
  unfold FX2_stepOf mStp
  simp only [zbd_s, Nat.add_assoc, Nat.reduceAdd, fat', ql_13 hd]
  rw [ss_i (by decide) (by decide)]
theorem flst_r {q : Nat} {σ : zS} {x : Int32} (h : q = 46 ∨ q = 64) : FX2_lastStep (q + 7) x σ = some (mLst (ss q σ) x, σ) := by
  have hd : dH 24 q := ⟨Or.inl rfl, h⟩
  unfold FX2_lastStep mLst
  simp only [zbd_s, Nat.add_assoc, Nat.reduceAdd, fat', ql_12 hd, fstp_r h]
  rw [ss_i (by decide) (by decide)]
theorem fpl_r {q : Nat} {σ : zS} {x m : Int32} (h : q = 46 ∨ q = 64) : FX2_placeIn (q + 7) x m σ = some (mPl (ss q σ) x m, σ) := by
  have hd : dH 24 q := ⟨Or.inl rfl, h⟩
  unfold FX2_placeIn FX2_placeIn_b53 mPl
  simp only [zbd_s, zlet_eq, Nat.add_assoc, Nat.reduceAdd, fat', ql_12 hd, ql_9 hd, fstp_r h, flst_r h]
  rw [ss_i (q := q) (σ := σ) (i := 9) (by decide) (by decide), ss_i (q := q) (σ := σ) (i := 12) (by decide) (by decide)]
  repeat' split
  all_goals rfl
theorem rel_where {σ τ : zS} (h : RR σ τ) (x y : Int32) : relX (FX7_where 0 x y σ) (FX8_where 0 x y τ) := by
  have h0 := h.code 0
  obtain ⟨q, na, n, nr, h⟩ := h0
  obtain ⟨c1, c2, c3⟩ := h.2.2.1.c
  obtain ⟨⟨h10, -, -⟩, ⟨h8, -, e33⟩, -, -, -, hPs, -⟩ := id h.2.2.1.1
  have hd := h.2.1.d (Or.inl rfl : 24 = 24 ∨ 24 = 35)
  unfold FX7_where FX8_where FX8_where_b20 FX8_where_b52
  simp only [fnp h.2.1 c2, gIp (by omega : n < 2 ^ 31) e33, fnm, gism, zlet_eq, zbd_s, b01_eq0]
  cases hx : isn x n
  · exact relX_1 ⟨q, na, n, nr, h⟩
  cases hm : ism y
  · exact relX_1 ⟨q, na, n, nr, h⟩
  obtain ⟨p, hp, rfl⟩ := (isn_t (by omega)).mp hx
  obtain ⟨m, m1, m2, rfl⟩ := ism_t.mp hm
  have hp8 : p < 8 := by omega
  obtain ⟨τ1, g1, g2, g3⟩ := gRdy h (Or.inl rfl : 24 = 24 ∨ 24 = 35)
  obtain ⟨τ2, f1, f2, f3, -, -, f6, -⟩ := gGo (h.2.2.1.fr g2).1 h.2.2.1.2.1 m2 g3 (by decide)
  obtain ⟨c, t, l, hP⟩ := hPs p hp
  have hcode : τ2 0 2 = 0 := by rw [f2 0 2 rfl, g2 0 2 rfl]; simp [zup_at]
  have hR2 : RR σ τ2 := ⟨q, na, n, nr, h.m ((g2.tr f2).m)⟩
  have d05 : mPr 24 q σ 0 5 = 0 := by
    unfold mPr
    rw [zrow_at, if_neg (by decide), zrow_at, if_neg (by decide), zrow_at, if_neg (by decide), zup_at, if_pos ⟨rfl, rfl⟩]
  have e24 : τ2 24 p = pX (ss q σ) p m := by
    rw [f6 p hp, d05]
    unfold pV
    rw [b_0, if_neg (by decide)]
  have hX := pX_p (m := m) hP
  have hM := mPl_p hp8 m2 hP
  simp only [if_true, zbx_0, Bool.true_eq_false, if_false, h.2.1.q.2, kd_q hd, zgd_t, fpl_r h.2.1.1, zbd_s, g1, f1, gIn hp8, e24]
  obtain ⟨-, -, -, -, -, -, -, -, q1, q2, q3, q4, -, hR⟩ := id hP
  rcases f3.2.2.2.2.2 p hp with ⟨w1, w2⟩ | ⟨i, a, hi, ha, w1, w2, w3⟩
  · rw [e24] at w1
    rw [decide_eq_true w1, if_pos (show b01 (!true) = 0 from rfl)]
    have e : mPl (ss q σ) (nI p) (nI m) = -1 := by
      rw [hM]
      rw [hX] at w1
      by_cases k1 : m < c
      · rw [if_pos k1]
      · rw [if_neg k1] at w1 ⊢
        by_cases k2 : m - c < l
        · rw [if_pos k2] at w1
          exact absurd w1 (nI_pos (by omega))
        · rw [if_neg k2] at w1 ⊢
          by_cases k3 : ss q σ 13 (12 * p + (l - 1)) = 0
          · rw [if_pos k3]
          · rw [if_neg k3] at w1
            exact absurd w1 (nI_pos (by omega))
    rw [e]
    exact relX_0 hR2 hcode
  · have w1' := w1
    rw [e24] at w1
    have hneg : ¬ pX (ss q σ) p m < 0 := by rw [w1]; exact nI_pos (by omega)
    rw [decide_eq_false hneg, if_neg (show ¬ b01 (!false) = 0 from by decide), gAi hp8 hi w1', zbd_s, w2]
    have e : mPl (ss q σ) (nI p) (nI m) = nI a := by
      have hr13 : τ2 13 = zup τ 0 2 0 13 := (g2.tr f2).row 13 (by decide) (by decide)
      rw [hr13] at w2
      rw [hM]
      rw [hX] at w1
      by_cases k1 : m < c
      · rw [if_pos k1] at w1
        exact absurd w1.symm (nI_m1 (by omega))
      · rw [if_neg k1] at w1 ⊢
        by_cases k2 : m - c < l
        · rw [if_pos k2] at w1 ⊢
          have := (nI_eq (by omega) (by omega)).mp w1
          rw [this, ← (hR i (by omega)).1, w2]
        · rw [if_neg k2] at w1 ⊢
          by_cases k3 : ss q σ 13 (12 * p + (l - 1)) = 0
          · rw [if_pos k3] at w1
            exact absurd (by rw [← w1]; decide : nI i < 0) (nI_pos (by omega))
          · rw [if_neg k3] at w1 ⊢
            have := (nI_eq (by omega) (by omega)).mp w1
            rw [this, ← (hR i (by omega)).1, w2]
    rw [e]
    exact relX_0 hR2 hcode
theorem rel_without {σ τ : zS} (h : RR σ τ) (x : Int32) : relX (FX7_without 0 x σ) (FX8_without 0 x τ) := by
  have h0 := h.code 0
  obtain ⟨q, na, n, nr, h⟩ := h0
  obtain ⟨c1, c2, c3⟩ := h.2.2.1.c
  obtain ⟨⟨h10, -, -⟩, ⟨h8, -, e33⟩, -, -, -, hPs, -⟩ := id h.2.2.1.1
  have hd := h.2.1.d (Or.inr rfl : 35 = 24 ∨ 35 = 35)
  unfold FX7_without FX8_without
  simp only [fnp h.2.1 c2, gIp (by omega : n < 2 ^ 31) e33, zlet_eq, zbd_s, b01_eq0]
  cases hx : isn x n
  · exact relX_1 ⟨q, na, n, nr, h⟩
  obtain ⟨p, hp, rfl⟩ := (isn_t (by omega)).mp hx
  have hp8 : p < 8 := by omega
  obtain ⟨τ1, g1, g2, g3⟩ := gRdy h (Or.inr rfl : 35 = 24 ∨ 35 = 35)
  have d05 : mPr 35 q σ 0 5 = 0 := by
    unfold mPr
    rw [zrow_at, if_neg (by decide), zrow_at, if_neg (by decide), zrow_at, if_neg (by decide), zup_at, if_pos ⟨rfl, rfl⟩]
  have hB : rB (zup τ1 0 50 (τ1 0 50 &&& (sb p ^^^ (-1)))) na n nr 99 (zup (mPr 35 q σ) 0 5 (sb p)) := by
    obtain ⟨⟨c1, c2, c3, c4, c5, c6⟩, b2, b3⟩ := g3
    refine ⟨⟨by simpa [zup_at] using c1, by simpa [zup_at] using c2, by simpa [zup_at] using c3, by simpa [zup_at] using c4, by simpa [zup_at] using c5, fun r hr => ?_⟩, by simpa [zup_at] using b2, by simpa [cf0, zup_at] using b3⟩
    have := c6 r hr
    rw [d05, b_0] at this
    rw [zup_at, if_pos ⟨rfl, rfl⟩, zup_at, if_pos ⟨rfl, rfl⟩, bt_off (by omega) (by omega), this, sb_bt (by omega) (by omega)]
    rfl
  have hS := (h.2.2.1.fr g2).fr (Fr.rf.up (k := 0) (j := 50) (v := τ1 0 50 &&& (sb p ^^^ (-1))) rfl)
  obtain ⟨k1, τ', k2, k3, -⟩ := gRun hd hS hB (by decide)
  have hk2 : FX8_costNow 0 (zup τ1 0 50 (τ1 0 50 &&& (((1 : Int32) <<< (nI p &&& 31)) ^^^ (-1)))) = _ := k2
  simp only [if_true, zbx_0, Bool.true_eq_false, if_false, h.2.1.q.2, kd_q hd, zgd_t, Nat.zero_add, fpr hd, zbd_s, fbit, dw_5, k1, g1, hk2]
  have hcode : τ' 0 2 = 0 := by rw [k3 0 2 rfl, zup_at, if_neg (by decide), g2 0 2 rfl]; simp [zup_at]
  exact relX_0 ⟨q, na, n, nr, (h.m (g2.m.tr ((Fr.rf.up rfl).tr k3).m)).x (Fx_dE h.2.1.1)⟩ hcode
