/-- a) people walk -/
def mWk1 (S : zS) (m : Int32) (p : Nat) (d : zS) : zS :=
  if bt (d 0 5) p = true then d
  else if d 5 p ≠ -1 ∧ mLvs S (nI p) m = true then mLv S p (zup d 4 p (mPl S (nI p) m)) else zup d 4 p (mPl S (nI p) m)
def mWk (S : zS) (m : Int32) (n : Nat) (d : zS) : zS := fo (mWk1 S m) n d
theorem fwk {k0 q n : Nat} {σ d : zS} {m : Int32} (h : dH k0 q) (hn : ss q σ 7 0 = nI n) (h8 : n ≤ 8) : FX0_walk k0 m (dE k0 q σ d) = some (0, dE k0 q σ (mWk (ss q σ) m n d)) := by
  unfold FX0_walk mWk
  rw [zlet_eq]
  refine zlp_for (fun p => (nI p, dE k0 q σ (fo (mWk1 (ss q σ) m) p d))) n (fun p hp => ?_) ?_
  · show FX0_walk_L2 k0 m (nI p) (dE k0 q σ (fo (mWk1 (ss q σ) m) p d)) = some (.inl (nI (p + 1), dE k0 q σ (mWk1 (ss q σ) m p (fo (mWk1 (ss q σ) m) p d))))
    generalize fo (mWk1 (ss q σ) m) p d = d
    have hp8 : p < 8 := by omega
    unfold FX0_walk_L2 FX0_walk_b79 FX0_walk_b85 mWk1
    simp only [zlet_eq, zbd_s, zgd_t, zinr_s, dE_ptr h, kd_q h, Nat.add_assoc, Nat.reduceAdd, dE_q0 h, dE_ss h, dE_17 h, dE_t h, dU_17 h, dU_t h, dr_1, da_1 h, dp_1 h, dr_2, da_2 h, dp_2 h, dr_3, da_3 h, dp_3 h, dr_4, da_4 h, dp_4 h, dr_5, da_5 h, dp_5 h, dr_6, da_6 h, dp_6 h, dr_7, da_7 h, dp_7 h, dr_8, da_8 h, dp_8 h, dr_9, da_9 h, dp_9 h, dr_10, da_10 h, dp_10 h, qr_2 h, qa_2 h, qr_3 h, qa_3 h, qr_4 h, qa_4 h, qr_5 h, qa_5 h, qr_6 h, qa_6 h, qr_8 h, qa_8 h, qr_9 h, qa_9 h, qr_10 h, qa_10 h, qr_11 h, qa_11 h, qr_12 h, qa_12 h, qr_13 h, qa_13 h, qr_15 h, qa_15 h, qr_16 h, qa_16 h, qr_1 h, qr_7 h, qa_17 h, qp_17 h, q14_0 h, q14_1 h, dg_1, dw_1, dg_2, dw_2, dg_3, dw_3, dg_4, dw_4, dg_5, dw_5, dg_12, dw_12, dg_13, dw_13, rl8_0, pl8_0, rl8_1, pl8_1, rl8_2, pl8_2, rl8_3, pl8_3, rl8_4, pl8_4, rl8_5, pl8_5, rl8_6, pl8_6, rl8_7, pl8_7, pl7_0, pl7_1, pl7_2, pl7_3, pl7_4, pl7_5, pl7_6, hn, if_neg (nI_ge hp (by omega : n < 2 ^ 31)), fholds _ (Nat.lt_trans hp8 (by decide : 8 < 32)), fpl h, rd_n hp8 (by decide : 8 < 2 ^ 31), pt_n hp8 (by decide : 8 < 2 ^ 31), flvs h, flv h hp8, zup_n (by decide : 5 ≠ 4), b01_eq0, nI_1]
    cases h1 : bt (d 0 5) p <;> cases h2 : mLvs (ss q σ) (nI p) m <;> by_cases h3 : d 5 p = -1 <;> simp [h3]
  · show FX0_walk_L2 k0 m (nI n) _ = _
    unfold FX0_walk_L2 FX0_walk_b85
    simp only [zlet_eq, zbd_s, zgd_t, zinr_s, dE_ptr h, kd_q h, Nat.add_assoc, Nat.reduceAdd, dE_q0 h, dE_ss h, dE_17 h, dE_t h, dU_17 h, dU_t h, dr_1, da_1 h, dp_1 h, dr_2, da_2 h, dp_2 h, dr_3, da_3 h, dp_3 h, dr_4, da_4 h, dp_4 h, dr_5, da_5 h, dp_5 h, dr_6, da_6 h, dp_6 h, dr_7, da_7 h, dp_7 h, dr_8, da_8 h, dp_8 h, dr_9, da_9 h, dp_9 h, dr_10, da_10 h, dp_10 h, qr_2 h, qa_2 h, qr_3 h, qa_3 h, qr_4 h, qa_4 h, qr_5 h, qa_5 h, qr_6 h, qa_6 h, qr_8 h, qa_8 h, qr_9 h, qa_9 h, qr_10 h, qa_10 h, qr_11 h, qa_11 h, qr_12 h, qa_12 h, qr_13 h, qa_13 h, qr_15 h, qa_15 h, qr_16 h, qa_16 h, qr_1 h, qr_7 h, qa_17 h, qp_17 h, q14_0 h, q14_1 h, dg_1, dw_1, dg_2, dw_2, dg_3, dw_3, dg_4, dw_4, dg_5, dw_5, dg_12, dw_12, dg_13, dw_13, rl8_0, pl8_0, rl8_1, pl8_1, rl8_2, pl8_2, rl8_3, pl8_3, rl8_4, pl8_4, rl8_5, pl8_5, rl8_6, pl8_6, rl8_7, pl8_7, pl7_0, pl7_1, pl7_2, pl7_3, pl7_4, pl7_5, pl7_6, hn, if_pos (nI_le (Nat.le_refl n) (by omega : n < 2 ^ 31))]
/-- what a rule is told -/
def mCr1 (x : Int32) (d : zS) (o : Nat) (c : Int32) : Int32 := c + (if d 4 o = x then 1 else 0)
def mCr (n : Nat) (x : Int32) (d : zS) : Int32 := fo (mCr1 x d) n (-1)
def mTv (S : zS) (n p : Nat) (m : Int32) (d : zS) : zS :=
  zup (zup (zup (zup (zup (zup (zup d 7 0 (S 11 p)) 7 1 (m - S 9 p + 1)) 7 2 (b01 (bt (d 8 5) p))) 7 3 (mBtw S (d 0 12) (d 4 p))) 7 4 (rd 10 (d 1) (d 4 p))) 7 5 (mCr n (d 4 p) d)) 7 6 m
theorem ftv {k0 q n p : Nat} {σ d : zS} {m : Int32} (h : dH k0 q) (hn : ss q σ 7 0 = nI n) (h8 : n ≤ 8) (hp8 : p < 8) : FX0_tellValues k0 (nI p) m (dE k0 q σ d) = some (0, dE k0 q σ (mTv (ss q σ) n p m d)) := by
  unfold FX0_tellValues
  simp only [zlet_eq, zbd_s, zgd_t, zinr_s, dE_ptr h, kd_q h, Nat.add_assoc, Nat.reduceAdd, dE_q0 h, dE_ss h, dE_17 h, dE_t h, dU_17 h, dU_t h, dr_1, da_1 h, dp_1 h, dr_2, da_2 h, dp_2 h, dr_3, da_3 h, dp_3 h, dr_4, da_4 h, dp_4 h, dr_5, da_5 h, dp_5 h, dr_6, da_6 h, dp_6 h, dr_7, da_7 h, dp_7 h, dr_8, da_8 h, dp_8 h, dr_9, da_9 h, dp_9 h, dr_10, da_10 h, dp_10 h, qr_2 h, qa_2 h, qr_3 h, qa_3 h, qr_4 h, qa_4 h, qr_5 h, qa_5 h, qr_6 h, qa_6 h, qr_8 h, qa_8 h, qr_9 h, qa_9 h, qr_10 h, qa_10 h, qr_11 h, qa_11 h, qr_12 h, qa_12 h, qr_13 h, qa_13 h, qr_15 h, qa_15 h, qr_16 h, qa_16 h, qr_1 h, qr_7 h, qa_17 h, qp_17 h, q14_0 h, q14_1 h, dg_1, dw_1, dg_2, dw_2, dg_3, dw_3, dg_4, dw_4, dg_5, dw_5, dg_12, dw_12, dg_13, dw_13, rl8_0, pl8_0, rl8_1, pl8_1, rl8_2, pl8_2, rl8_3, pl8_3, rl8_4, pl8_4, rl8_5, pl8_5, rl8_6, pl8_6, rl8_7, pl8_7, pl7_0, pl7_1, pl7_2, pl7_3, pl7_4, pl7_5, pl7_6, rd_n hp8 (by decide : 8 < 2 ^ 31)]
  refine zlp_for (fun o => (fo (mCr1 (d 4 p) d) o (-1), nI o, dE k0 q σ d)) n (fun o ho => ?_) ?_
  · show FX0_tellValues_L15 k0 (nI p) m (d 4 p) (fo (mCr1 (d 4 p) d) o (-1)) (nI o) (dE k0 q σ d) = some (.inl (mCr1 (d 4 p) d o (fo (mCr1 (d 4 p) d) o (-1)), nI (o + 1), dE k0 q σ d))
    generalize fo (mCr1 (d 4 p) d) o (-1) = c
    have ho8 : o < 8 := by omega
    unfold FX0_tellValues_L15 FX0_tellValues_b50 mCr1
    simp only [zlet_eq, zbd_s, zgd_t, zinr_s, dE_ptr h, kd_q h, Nat.add_assoc, Nat.reduceAdd, dE_q0 h, dE_ss h, dE_17 h, dE_t h, dU_17 h, dU_t h, dr_1, da_1 h, dp_1 h, dr_2, da_2 h, dp_2 h, dr_3, da_3 h, dp_3 h, dr_4, da_4 h, dp_4 h, dr_5, da_5 h, dp_5 h, dr_6, da_6 h, dp_6 h, dr_7, da_7 h, dp_7 h, dr_8, da_8 h, dp_8 h, dr_9, da_9 h, dp_9 h, dr_10, da_10 h, dp_10 h, qr_2 h, qa_2 h, qr_3 h, qa_3 h, qr_4 h, qa_4 h, qr_5 h, qa_5 h, qr_6 h, qa_6 h, qr_8 h, qa_8 h, qr_9 h, qa_9 h, qr_10 h, qa_10 h, qr_11 h, qa_11 h, qr_12 h, qa_12 h, qr_13 h, qa_13 h, qr_15 h, qa_15 h, qr_16 h, qa_16 h, qr_1 h, qr_7 h, qa_17 h, qp_17 h, q14_0 h, q14_1 h, dg_1, dw_1, dg_2, dw_2, dg_3, dw_3, dg_4, dw_4, dg_5, dw_5, dg_12, dw_12, dg_13, dw_13, rl8_0, pl8_0, rl8_1, pl8_1, rl8_2, pl8_2, rl8_3, pl8_3, rl8_4, pl8_4, rl8_5, pl8_5, rl8_6, pl8_6, rl8_7, pl8_7, pl7_0, pl7_1, pl7_2, pl7_3, pl7_4, pl7_5, pl7_6, hn, if_neg (nI_ge ho (by omega : n < 2 ^ 31)), rd_n ho8 (by decide : 8 < 2 ^ 31), nI_1]
    by_cases h1 : d 4 o = d 4 p <;> simp [h1]
  · show FX0_tellValues_L15 k0 (nI p) m (d 4 p) (mCr n (d 4 p) d) (nI n) (dE k0 q σ d) = _
    unfold FX0_tellValues_L15 FX0_tellValues_b59 FX0_tellValues_b132 mTv
    simp only [zlet_eq, zbd_s, zgd_t, zinr_s, dE_ptr h, kd_q h, Nat.add_assoc, Nat.reduceAdd, dE_q0 h, dE_ss h, dE_17 h, dE_t h, dU_17 h, dU_t h, dr_1, da_1 h, dp_1 h, dr_2, da_2 h, dp_2 h, dr_3, da_3 h, dp_3 h, dr_4, da_4 h, dp_4 h, dr_5, da_5 h, dp_5 h, dr_6, da_6 h, dp_6 h, dr_7, da_7 h, dp_7 h, dr_8, da_8 h, dp_8 h, dr_9, da_9 h, dp_9 h, dr_10, da_10 h, dp_10 h, qr_2 h, qa_2 h, qr_3 h, qa_3 h, qr_4 h, qa_4 h, qr_5 h, qa_5 h, qr_6 h, qa_6 h, qr_8 h, qa_8 h, qr_9 h, qa_9 h, qr_10 h, qa_10 h, qr_11 h, qa_11 h, qr_12 h, qa_12 h, qr_13 h, qa_13 h, qr_15 h, qa_15 h, qr_16 h, qa_16 h, qr_1 h, qr_7 h, qa_17 h, qp_17 h, q14_0 h, q14_1 h, dg_1, dw_1, dg_2, dw_2, dg_3, dw_3, dg_4, dw_4, dg_5, dw_5, dg_12, dw_12, dg_13, dw_13, rl8_0, pl8_0, rl8_1, pl8_1, rl8_2, pl8_2, rl8_3, pl8_3, rl8_4, pl8_4, rl8_5, pl8_5, rl8_6, pl8_6, rl8_7, pl8_7, pl7_0, pl7_1, pl7_2, pl7_3, pl7_4, pl7_5, pl7_6, hn, if_pos (nI_le (Nat.le_refl n) (by omega : n < 2 ^ 31)), rd_n hp8 (by decide : 8 < 2 ^ 31), fholds _ (Nat.lt_trans hp8 (by decide : 8 < 32)), fbtw h, b01_eq0, zup_n (by decide : 8 ≠ 7), zup_n (by decide : 0 ≠ 7), zup_n (by decide : 1 ≠ 7)]
    cases h1 : bt (d 8 5) p <;> simp [b01, zinr_s]
/-- a rule's value: its signs one after the other -/
def mPu (d : zS) (v : Int32) : zS := zup (pt 40 d 11 (d 12 0) v) 12 0 (d 12 0 + 1)
def mPo (d : zS) : zS := zup d 12 0 (d 12 0 - 1)
def mTo (d : zS) : Int32 := rd 40 (d 11) (d 12 0 - 1)
def mJn (s a b : Int32) : Int32 :=
  if s = -17 then a * b else if s = -16 then a - b else if s = -15 then a + b else if s = -14 then b01 (decide (a = b)) else if s = -13 then b01 (!decide (b ≤ a))
  else if s = -11 then b01 (!decide (a = 0) && !decide (b = 0)) else if s = -10 then b01 (!decide (a = 0) || !decide (b = 0)) else if b = 0 then 0 else a / b
def mV1 (s : Int32) (d : zS) : zS :=
  if s < 0 then (if s ≤ -10 then (if s = -12 then mPu (mPo d) (b01 (decide (mTo d = 0))) else mPu (mPo (mPo d)) (mJn s (mTo (mPo d)) (mTo d))) else mPu d (rd 7 (d 7) (-1 - s))) else mPu d s
def mA (S : zS) (r : Nat) : Nat := if r = 0 then 0 else (S 15 (r - 1)).toNatClampNeg
def mB (S : zS) (r : Nat) : Nat := (S 15 r).toNatClampNeg
def mVd (S : zS) (r : Nat) (d : zS) : zS := fo (fun i => mV1 (S 16 (mA S r + i))) (mB S r - mA S r) (zup d 12 0 0)
/-- a rule's place among the signs -/
def vR (S : zS) (r : Nat) : Prop := r < 4 ∧ (0 < r → S 15 (r - 1) = nI (mA S r)) ∧ S 15 r = nI (mB S r) ∧ mA S r ≤ mB S r ∧ mB S r ≤ 700
theorem fpu {k0 q : Nat} {σ d : zS} {v : Int32} (h : dH k0 q) : FX4_push (q + 14) v (dE k0 q σ d) = some (0, dE k0 q σ (mPu d v)) := by
  unfold FX4_push mPu
  simp only [zlet_eq, zbd_s, zgd_t, zinr_s, dE_ptr h, kd_q h, Nat.add_assoc, Nat.reduceAdd, dE_q0 h, dE_ss h, dE_17 h, dE_t h, dU_17 h, dU_t h, dr_1, da_1 h, dp_1 h, dr_2, da_2 h, dp_2 h, dr_3, da_3 h, dp_3 h, dr_4, da_4 h, dp_4 h, dr_5, da_5 h, dp_5 h, dr_6, da_6 h, dp_6 h, dr_7, da_7 h, dp_7 h, dr_8, da_8 h, dp_8 h, dr_9, da_9 h, dp_9 h, dr_10, da_10 h, dp_10 h, qr_2 h, qa_2 h, qr_3 h, qa_3 h, qr_4 h, qa_4 h, qr_5 h, qa_5 h, qr_6 h, qa_6 h, qr_8 h, qa_8 h, qr_9 h, qa_9 h, qr_10 h, qa_10 h, qr_11 h, qa_11 h, qr_12 h, qa_12 h, qr_13 h, qa_13 h, qr_15 h, qa_15 h, qr_16 h, qa_16 h, qr_1 h, qr_7 h, qa_17 h, qp_17 h, q14_0 h, q14_1 h, dg_1, dw_1, dg_2, dw_2, dg_3, dw_3, dg_4, dw_4, dg_5, dw_5, dg_12, dw_12, dg_13, dw_13, rl8_0, pl8_0, rl8_1, pl8_1, rl8_2, pl8_2, rl8_3, pl8_3, rl8_4, pl8_4, rl8_5, pl8_5, rl8_6, pl8_6, rl8_7, pl8_7, pl7_0, pl7_1, pl7_2, pl7_3, pl7_4, pl7_5, pl7_6, pt_o (by decide : 12 ≠ 11)]
theorem fpo {k0 q : Nat} {σ d : zS} (h : dH k0 q) : FX4_pop (q + 14) (dE k0 q σ d) = some (mTo d, dE k0 q σ (mPo d)) := by
  unfold FX4_pop mPo mTo
  simp only [zlet_eq, zbd_s, zgd_t, zinr_s, dE_ptr h, kd_q h, Nat.add_assoc, Nat.reduceAdd, dE_q0 h, dE_ss h, dE_17 h, dE_t h, dU_17 h, dU_t h, dr_1, da_1 h, dp_1 h, dr_2, da_2 h, dp_2 h, dr_3, da_3 h, dp_3 h, dr_4, da_4 h, dp_4 h, dr_5, da_5 h, dp_5 h, dr_6, da_6 h, dp_6 h, dr_7, da_7 h, dp_7 h, dr_8, da_8 h, dp_8 h, dr_9, da_9 h, dp_9 h, dr_10, da_10 h, dp_10 h, qr_2 h, qa_2 h, qr_3 h, qa_3 h, qr_4 h, qa_4 h, qr_5 h, qa_5 h, qr_6 h, qa_6 h, qr_8 h, qa_8 h, qr_9 h, qa_9 h, qr_10 h, qa_10 h, qr_11 h, qa_11 h, qr_12 h, qa_12 h, qr_13 h, qa_13 h, qr_15 h, qa_15 h, qr_16 h, qa_16 h, qr_1 h, qr_7 h, qa_17 h, qp_17 h, q14_0 h, q14_1 h, dg_1, dw_1, dg_2, dw_2, dg_3, dw_3, dg_4, dw_4, dg_5, dw_5, dg_12, dw_12, dg_13, dw_13, rl8_0, pl8_0, rl8_1, pl8_1, rl8_2, pl8_2, rl8_3, pl8_3, rl8_4, pl8_4, rl8_5, pl8_5, rl8_6, pl8_6, rl8_7, pl8_7, pl7_0, pl7_1, pl7_2, pl7_3, pl7_4, pl7_5, pl7_6, zup_n (by decide : 11 ≠ 12), zup_s, pk_us]
theorem fjn {σ : zS} {s a b : Int32} (hs : s ≠ -12) : FX4_join s a b σ = some (mJn s a b, σ) := by
  unfold FX4_join FX4_join_b97 FX4_join_b86 FX4_join_b110 FX4_join_b121 FX4_join_b74 FX4_join_b75 FX4_join_b56 FX4_join_b61 mJn
  rw [if_neg (c := s = -12) hs]
  have hz : ∀ r : Option (Int32 × zS), ¬ b = 0 → zgd (b != 0) r = r := fun r hb => by rw [bne_iff_ne.mpr hb]; rfl
  by_cases c1 : s = -17
  · simp [c1]
  by_cases c2 : s = -16
  · simp [c2]
  by_cases c3 : s = -15
  · simp [c3]
  by_cases c4 : s = -14
  · by_cases c : a = b <;> simp [c4, c, b01]
  by_cases c5 : s = -13
  · by_cases c : b ≤ a <;> simp [c5, c, b01]
  by_cases c6 : s = -11
  · by_cases ca : a = 0 <;> by_cases cb : b = 0 <;> simp [c6, ca, cb, b01]
  by_cases c7 : s = -10
  · by_cases ca : a = 0 <;> by_cases cb : b = 0 <;> simp [c7, ca, cb, b01]
  · by_cases cb : b = 0
    · simp [c1, c2, c3, c4, c5, c6, c7, cb]
    · rw [if_neg c1, if_neg c2, if_neg c3, if_neg c4, if_neg c5, if_neg c6, if_neg c7, if_neg cb, hz _ cb, if_neg c1, if_neg c2, if_neg c3, if_neg c4, if_neg c5, if_neg c6, if_neg c7, if_neg cb]
theorem fval {k0 q r : Nat} {σ d : zS} (h : dH k0 q) (hr : vR (ss q σ) r) : FX4_valueOf (q + 14) (nI r) (k0 + 7) (dE k0 q σ d) = some (mTo (mVd (ss q σ) r d), dE k0 q σ (mPo (mVd (ss q σ) r d))) := by
  obtain ⟨h4, ha, hb, hab, h7⟩ := hr
  have key : ∀ a : Int32, a = nI (mA (ss q σ) r) → FX4_valueOf_b18 (q + 14) (nI r) (k0 + 7) a (dE k0 q σ d) = some (mTo (mVd (ss q σ) r d), dE k0 q σ (mPo (mVd (ss q σ) r d))) := by
    intro a ha
    subst ha
    unfold FX4_valueOf_b18
    simp only [zlet_eq, zbd_s, zgd_t, zinr_s, dE_ptr h, kd_q h, Nat.add_assoc, Nat.reduceAdd, dE_q0 h, dE_ss h, dE_17 h, dE_t h, dU_17 h, dU_t h, dr_1, da_1 h, dp_1 h, dr_2, da_2 h, dp_2 h, dr_3, da_3 h, dp_3 h, dr_4, da_4 h, dp_4 h, dr_5, da_5 h, dp_5 h, dr_6, da_6 h, dp_6 h, dr_7, da_7 h, dp_7 h, dr_8, da_8 h, dp_8 h, dr_9, da_9 h, dp_9 h, dr_10, da_10 h, dp_10 h, qr_2 h, qa_2 h, qr_3 h, qa_3 h, qr_4 h, qa_4 h, qr_5 h, qa_5 h, qr_6 h, qa_6 h, qr_8 h, qa_8 h, qr_9 h, qa_9 h, qr_10 h, qa_10 h, qr_11 h, qa_11 h, qr_12 h, qa_12 h, qr_13 h, qa_13 h, qr_15 h, qa_15 h, qr_16 h, qa_16 h, qr_1 h, qr_7 h, qa_17 h, qp_17 h, q14_0 h, q14_1 h, dg_1, dw_1, dg_2, dw_2, dg_3, dw_3, dg_4, dw_4, dg_5, dw_5, dg_12, dw_12, dg_13, dw_13, rl8_0, pl8_0, rl8_1, pl8_1, rl8_2, pl8_2, rl8_3, pl8_3, rl8_4, pl8_4, rl8_5, pl8_5, rl8_6, pl8_6, rl8_7, pl8_7, pl7_0, pl7_1, pl7_2, pl7_3, pl7_4, pl7_5, pl7_6, rd_n h4 (by decide : 4 < 2 ^ 31), hb]
    unfold mVd
    generalize zup d 12 0 0 = d
    refine zlp_for (fun i => (nI (mA (ss q σ) r + i), dE k0 q σ (fo (fun i => mV1 (ss q σ 16 (mA (ss q σ) r + i))) i d))) (mB (ss q σ) r - mA (ss q σ) r) (fun i hi => ?_) ?_
    · show FX4_valueOf_L37 (q + 14) (k0 + 7) (nI (mB (ss q σ) r)) (nI (mA (ss q σ) r + i)) (dE k0 q σ (fo (fun i => mV1 (ss q σ 16 (mA (ss q σ) r + i))) i d)) = some (.inl (nI (mA (ss q σ) r + i + 1), dE k0 q σ (mV1 (ss q σ 16 (mA (ss q σ) r + i)) (fo (fun i => mV1 (ss q σ 16 (mA (ss q σ) r + i))) i d))))
      generalize fo (fun i => mV1 (ss q σ 16 (mA (ss q σ) r + i))) i d = d
      have hi2 : mA (ss q σ) r + i < mB (ss q σ) r := by omega
      have hi7 : mA (ss q σ) r + i < 700 := by omega
      generalize mA (ss q σ) r + i = j at hi2 hi7 ⊢
      unfold FX4_valueOf_L37 FX4_valueOf_b111 FX4_valueOf_b138 mV1
      rw [if_neg (nI_ge hi2 (by omega))]
      simp only [zlet_eq, zbd_s, zgd_t, zinr_s, dE_ptr h, kd_q h, Nat.add_assoc, Nat.reduceAdd, dE_q0 h, dE_ss h, dE_17 h, dE_t h, dU_17 h, dU_t h, dr_1, da_1 h, dp_1 h, dr_2, da_2 h, dp_2 h, dr_3, da_3 h, dp_3 h, dr_4, da_4 h, dp_4 h, dr_5, da_5 h, dp_5 h, dr_6, da_6 h, dp_6 h, dr_7, da_7 h, dp_7 h, dr_8, da_8 h, dp_8 h, dr_9, da_9 h, dp_9 h, dr_10, da_10 h, dp_10 h, qr_2 h, qa_2 h, qr_3 h, qa_3 h, qr_4 h, qa_4 h, qr_5 h, qa_5 h, qr_6 h, qa_6 h, qr_8 h, qa_8 h, qr_9 h, qa_9 h, qr_10 h, qa_10 h, qr_11 h, qa_11 h, qr_12 h, qa_12 h, qr_13 h, qa_13 h, qr_15 h, qa_15 h, qr_16 h, qa_16 h, qr_1 h, qr_7 h, qa_17 h, qp_17 h, q14_0 h, q14_1 h, dg_1, dw_1, dg_2, dw_2, dg_3, dw_3, dg_4, dw_4, dg_5, dw_5, dg_12, dw_12, dg_13, dw_13, rl8_0, pl8_0, rl8_1, pl8_1, rl8_2, pl8_2, rl8_3, pl8_3, rl8_4, pl8_4, rl8_5, pl8_5, rl8_6, pl8_6, rl8_7, pl8_7, pl7_0, pl7_1, pl7_2, pl7_3, pl7_4, pl7_5, pl7_6, rd_n hi7 (by decide : 700 < 2 ^ 31), fpu h, fpo h, nI_1]
      by_cases c1 : ss q σ 16 j < 0
      · by_cases c2 : ss q σ 16 j ≤ -10
        · by_cases c3 : ss q σ 16 j = -12
          · rw [if_pos c1, if_pos c2, if_pos c3, if_pos c1, if_pos c2, if_pos c3]
            by_cases c4 : mTo d = 0 <;> simp [c4, b01]
          · rw [if_pos c1, if_pos c2, if_neg c3, if_pos c1, if_pos c2, if_neg c3]
            simp only [fjn c3, zbd_s, fpu h]
        · rw [if_pos c1, if_neg c2, if_pos c1, if_neg c2]
      · rw [if_neg c1, if_neg c1]
    · show FX4_valueOf_L37 (q + 14) (k0 + 7) (nI (mB (ss q σ) r)) (nI (mA (ss q σ) r + (mB (ss q σ) r - mA (ss q σ) r))) _ = _
      unfold FX4_valueOf_L37 FX4_valueOf_b144
      rw [Nat.add_sub_cancel' hab, if_pos (nI_le (Nat.le_refl _) (by omega)), fpo h]
      rfl
  unfold FX4_valueOf
  by_cases hr0 : r = 0
  · subst hr0
    rw [if_pos (by decide)]
    exact key 0 rfl
  · rw [if_neg (nI_nle (by omega) (by omega))]
    have e : nI r - 1 = nI (r - 1) := by
      obtain ⟨r', rfl⟩ : ∃ r', r = r' + 1 := ⟨r - 1, by omega⟩
      exact nI_pred r'
    rw [e]
    simp only [zlet_eq, zbd_s, zgd_t, zinr_s, dE_ptr h, kd_q h, Nat.add_assoc, Nat.reduceAdd, dE_q0 h, dE_ss h, dE_17 h, dE_t h, dU_17 h, dU_t h, dr_1, da_1 h, dp_1 h, dr_2, da_2 h, dp_2 h, dr_3, da_3 h, dp_3 h, dr_4, da_4 h, dp_4 h, dr_5, da_5 h, dp_5 h, dr_6, da_6 h, dp_6 h, dr_7, da_7 h, dp_7 h, dr_8, da_8 h, dp_8 h, dr_9, da_9 h, dp_9 h, dr_10, da_10 h, dp_10 h, qr_2 h, qa_2 h, qr_3 h, qa_3 h, qr_4 h, qa_4 h, qr_5 h, qa_5 h, qr_6 h, qa_6 h, qr_8 h, qa_8 h, qr_9 h, qa_9 h, qr_10 h, qa_10 h, qr_11 h, qa_11 h, qr_12 h, qa_12 h, qr_13 h, qa_13 h, qr_15 h, qa_15 h, qr_16 h, qa_16 h, qr_1 h, qr_7 h, qa_17 h, qp_17 h, q14_0 h, q14_1 h, dg_1, dw_1, dg_2, dw_2, dg_3, dw_3, dg_4, dw_4, dg_5, dw_5, dg_12, dw_12, dg_13, dw_13, rl8_0, pl8_0, rl8_1, pl8_1, rl8_2, pl8_2, rl8_3, pl8_3, rl8_4, pl8_4, rl8_5, pl8_5, rl8_6, pl8_6, rl8_7, pl8_7, pl7_0, pl7_1, pl7_2, pl7_3, pl7_4, pl7_5, pl7_6, rd_n (by omega : r - 1 < 4) (by decide : 4 < 2 ^ 31)]
    exact key _ (ha (by omega))
/-- whom a rule chooses -/
def mCh1 (S : zS) (n r : Nat) (m : Int32) (p : Nat) (t : Int32 × Int32 × zS) : Int32 × Int32 × zS :=
  if t.2.2 4 p = -1 ∨ S 8 p = 3 then t
  else if mTo (mVd S r (mTv S n p m t.2.2)) ≤ t.2.1 then (t.1, t.2.1, mPo (mVd S r (mTv S n p m t.2.2)))
  else (nI p, mTo (mVd S r (mTv S n p m t.2.2)), mPo (mVd S r (mTv S n p m t.2.2)))
def mCh (S : zS) (n r : Nat) (m : Int32) (d : zS) : Int32 × Int32 × zS := fo (mCh1 S n r m) n (-1, 0, d)
theorem mV1_o {s : Int32} {d : zS} {a : Nat} (h1 : a ≠ 11) (h2 : a ≠ 12) : mV1 s d a = d a := by
  unfold mV1 mPu mPo
  split
  · split
    · split
      · rw [zup_n h2, pt_o h1, zup_n h2]
      · rw [zup_n h2, pt_o h1, zup_n h2, zup_n h2]
    · rw [zup_n h2, pt_o h1]
  · rw [zup_n h2, pt_o h1]
theorem mVd_o {S d : zS} {r a : Nat} (h1 : a ≠ 11) (h2 : a ≠ 12) : mPo (mVd S r d) a = d a := by
  unfold mPo mVd
  rw [zup_n h2]
  exact fo_inv (fun _ (e : zS) => e a = d a) (zup_n h2) (fun p e _ he => by rw [mV1_o h1 h2, he])
theorem mTv_o {S d : zS} {n p a : Nat} {m : Int32} (h : a ≠ 7) : mTv S n p m d a = d a := by
  unfold mTv
  rw [zup_n h, zup_n h, zup_n h, zup_n h, zup_n h, zup_n h, zup_n h]
theorem mCh1_o {S : zS} {n r p a : Nat} {m : Int32} {t : Int32 × Int32 × zS} (h : a ≠ 7) (h1 : a ≠ 11) (h2 : a ≠ 12) : (mCh1 S n r m p t).2.2 a = t.2.2 a := by
  unfold mCh1
  split
  · rfl
  · split
    · exact (mVd_o h1 h2).trans (mTv_o h)
    · exact (mVd_o h1 h2).trans (mTv_o h)
theorem fch {k0 q n r : Nat} {σ d : zS} {m : Int32} (h : dH k0 q) (hn : ss q σ 7 0 = nI n) (h8 : n ≤ 8) (hr : vR (ss q σ) r) (hw : d 0 2 = nI r) : FX0_chosen k0 m (dE k0 q σ d) = some ((mCh (ss q σ) n r m d).1, dE k0 q σ (mCh (ss q σ) n r m d).2.2) := by
  unfold FX0_chosen mCh
  rw [zlet_eq, zlet_eq, zlet_eq]
  refine zlp_for (fun p => ((fo (mCh1 (ss q σ) n r m) p (-1, 0, d)).1, (fo (mCh1 (ss q σ) n r m) p (-1, 0, d)).2.1, nI p, dE k0 q σ (fo (mCh1 (ss q σ) n r m) p (-1, 0, d)).2.2)) n (fun p hp => ?_) ?_
  · have hw2 : (fo (mCh1 (ss q σ) n r m) p (-1, 0, d)).2.2 0 2 = nI r := by
      rw [show (fo (mCh1 (ss q σ) n r m) p (-1, 0, d)).2.2 0 = d 0 from fo_inv (fun _ (t : Int32 × Int32 × zS) => t.2.2 0 = d 0) rfl (fun _ t _ ht => by rw [mCh1_o (by decide) (by decide) (by decide), ht])]
      exact hw
    show FX0_chosen_L7 k0 m _ _ (nI p) _ = some (.inl ((mCh1 (ss q σ) n r m p (fo (mCh1 (ss q σ) n r m) p (-1, 0, d))).1, (mCh1 (ss q σ) n r m p (fo (mCh1 (ss q σ) n r m) p (-1, 0, d))).2.1, nI (p + 1), dE k0 q σ (mCh1 (ss q σ) n r m p (fo (mCh1 (ss q σ) n r m) p (-1, 0, d))).2.2))
    generalize fo (mCh1 (ss q σ) n r m) p (-1, 0, d) = t at hw2 ⊢
    obtain ⟨w, b, d⟩ := t
    have hw2 : d 0 2 = nI r := hw2
    have hp8 : p < 8 := by omega
    have hw3 : mTv (ss q σ) n p m d 0 2 = nI r := by rw [mTv_o (by decide)]; exact hw2
    unfold FX0_chosen_L7 FX0_chosen_b93 mCh1
    simp only [zlet_eq, zbd_s, zgd_t, zinr_s, dE_ptr h, kd_q h, Nat.add_assoc, Nat.reduceAdd, dE_q0 h, dE_ss h, dE_17 h, dE_t h, dU_17 h, dU_t h, dr_1, da_1 h, dp_1 h, dr_2, da_2 h, dp_2 h, dr_3, da_3 h, dp_3 h, dr_4, da_4 h, dp_4 h, dr_5, da_5 h, dp_5 h, dr_6, da_6 h, dp_6 h, dr_7, da_7 h, dp_7 h, dr_8, da_8 h, dp_8 h, dr_9, da_9 h, dp_9 h, dr_10, da_10 h, dp_10 h, qr_2 h, qa_2 h, qr_3 h, qa_3 h, qr_4 h, qa_4 h, qr_5 h, qa_5 h, qr_6 h, qa_6 h, qr_8 h, qa_8 h, qr_9 h, qa_9 h, qr_10 h, qa_10 h, qr_11 h, qa_11 h, qr_12 h, qa_12 h, qr_13 h, qa_13 h, qr_15 h, qa_15 h, qr_16 h, qa_16 h, qr_1 h, qr_7 h, qa_17 h, qp_17 h, q14_0 h, q14_1 h, dg_1, dw_1, dg_2, dw_2, dg_3, dw_3, dg_4, dw_4, dg_5, dw_5, dg_12, dw_12, dg_13, dw_13, rl8_0, pl8_0, rl8_1, pl8_1, rl8_2, pl8_2, rl8_3, pl8_3, rl8_4, pl8_4, rl8_5, pl8_5, rl8_6, pl8_6, rl8_7, pl8_7, pl7_0, pl7_1, pl7_2, pl7_3, pl7_4, pl7_5, pl7_6, hn, if_neg (nI_ge hp (by omega : n < 2 ^ 31)), rd_n hp8 (by decide : 8 < 2 ^ 31), ftv h hn h8 hp8, hw3, fval h hr, nI_1]
    by_cases c1 : d 4 p = -1
    · simp [c1]
    by_cases c2 : ss q σ 8 p = 3
    · simp [c1, c2]
    by_cases c3 : mTo (mVd (ss q σ) r (mTv (ss q σ) n p m d)) ≤ b <;> simp [c1, c2, c3]
  · show FX0_chosen_L7 k0 m _ _ (nI n) _ = _
    unfold FX0_chosen_L7 FX0_chosen_b99
    simp only [zlet_eq, zbd_s, zgd_t, zinr_s, dE_ptr h, kd_q h, Nat.add_assoc, Nat.reduceAdd, dE_q0 h, dE_ss h, dE_17 h, dE_t h, dU_17 h, dU_t h, dr_1, da_1 h, dp_1 h, dr_2, da_2 h, dp_2 h, dr_3, da_3 h, dp_3 h, dr_4, da_4 h, dp_4 h, dr_5, da_5 h, dp_5 h, dr_6, da_6 h, dp_6 h, dr_7, da_7 h, dp_7 h, dr_8, da_8 h, dp_8 h, dr_9, da_9 h, dp_9 h, dr_10, da_10 h, dp_10 h, qr_2 h, qa_2 h, qr_3 h, qa_3 h, qr_4 h, qa_4 h, qr_5 h, qa_5 h, qr_6 h, qa_6 h, qr_8 h, qa_8 h, qr_9 h, qa_9 h, qr_10 h, qa_10 h, qr_11 h, qa_11 h, qr_12 h, qa_12 h, qr_13 h, qa_13 h, qr_15 h, qa_15 h, qr_16 h, qa_16 h, qr_1 h, qr_7 h, qa_17 h, qp_17 h, q14_0 h, q14_1 h, dg_1, dw_1, dg_2, dw_2, dg_3, dw_3, dg_4, dw_4, dg_5, dw_5, dg_12, dw_12, dg_13, dw_13, rl8_0, pl8_0, rl8_1, pl8_1, rl8_2, pl8_2, rl8_3, pl8_3, rl8_4, pl8_4, rl8_5, pl8_5, rl8_6, pl8_6, rl8_7, pl8_7, pl7_0, pl7_1, pl7_2, pl7_3, pl7_4, pl7_5, pl7_6, hn, if_pos (nI_le (Nat.le_refl n) (by omega : n < 2 ^ 31))]
