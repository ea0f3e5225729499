/-! what a day writes down -/
theorem mLv_o {S d : zS} {p k : Nat} (h3 : k ≠ 3) (h5 : k ≠ 5) (h8 : k ≠ 8) : mLv S p d k = d k := by
  unfold mLv
  repeat' split
  all_goals simp only [mTal_o h8, mMrk_o h8, mBck_o h3, zup_n h5]
theorem mWk1_o {S d : zS} {p k : Nat} {m : Int32} (h3 : k ≠ 3) (h4 : k ≠ 4) (h5 : k ≠ 5) (h8 : k ≠ 8) : mWk1 S m p d k = d k := by
  unfold mWk1
  repeat' split
  · rfl
  · rw [mLv_o h3 h5 h8, zup_n h4]
  · rw [zup_n h4]
theorem mWk_o {S d : zS} {n k : Nat} {m : Int32} (h3 : k ≠ 3) (h4 : k ≠ 4) (h5 : k ≠ 5) (h8 : k ≠ 8) : mWk S m n d k = d k := fo_inv (fun _ (e : zS) => e k = d k) rfl (fun p e _ he => by rw [mWk1_o h3 h4 h5 h8, he])
theorem mFo_o {S d : zS} {na n k : Nat} {m : Int32} (h0 : k ≠ 0) (h7 : k ≠ 7) (h11 : k ≠ 11) (h12 : k ≠ 12) : mFo S na n m d k = d k := by
  have key : ∀ (w : Int32) (e : zS), mFo1 S na w e k = e k := by
    intro w e
    unfold mFo1
    repeat' split
    · rfl
    · rfl
    · exact zup_n h0
  unfold mFo
  repeat' split
  · rfl
  · rfl
  · rw [key, mCh_o h7 h11 h12]
  · exact key _ _
theorem mNh_o {d : zS} {p k : Nat} (h3 : k ≠ 3) (h5 : k ≠ 5) (h8 : k ≠ 8) : mNh p d k = d k := by
  unfold mNh
  split
  · exact mMrk_o h8
  · rw [zup_n h5, mBck_o h3, mMrk_o h8]
theorem mNo1_o {S d : zS} {en : Int32} {p k : Nat} (h3 : k ≠ 3) (h5 : k ≠ 5) (h6 : k ≠ 6) (h8 : k ≠ 8) : mNo1 S en p d k = d k := by
  unfold mNo1
  split
  · split
    · exact zup_n h6
    · rw [mNh_o h3 h5 h8, zup_n h6]
  · split
    · exact zup_n h6
    · rw [mNh_o h3 h5 h8, zup_n h6]
theorem mNo_o {S d : zS} {n k : Nat} (h3 : k ≠ 3) (h5 : k ≠ 5) (h6 : k ≠ 6) (h8 : k ≠ 8) : mNo S n d k = d k := fo_inv (fun _ (e : zS) => e k = d k) rfl (fun p e _ he => by rw [mNo1_o h3 h5 h6 h8, he])
theorem mTk_o {S d : zS} {n k : Nat} {m : Int32} (h0 : k ≠ 0) (h3 : k ≠ 3) (h5 : k ≠ 5) (h8 : k ≠ 8) : mTk S m n d k = d k := fo_inv (fun _ (e : zS) => e k = d k) rfl (fun p e _ he => by rw [mTk1_o h3 h5 h8 h0, he])
theorem mLo_o {d : zS} {n k : Nat} (h0 : k ≠ 0) : mLo n d k = d k := fo_inv (fun _ (e : zS) => e k = d k) rfl (fun p e _ he => by
  unfold mLo1
  split
  · exact he
  · rw [zup_n h0, he])
theorem mNt_9 {d : zS} {n m : Nat} : mNt n m d 9 = upd (d 9) m (d 0 12) := by
  unfold mNt
  exact fo_inv (fun _ (e : zS) => e 9 = upd (d 9) m (d 0 12)) zup_s (fun p e _ he => by unfold mNt1; rw [zup_n (by decide), he])
theorem mNt_10 {d : zS} {n m j : Nat} : mNt n m d 10 j = if m * 8 ≤ j ∧ j < m * 8 + n then d 5 (j - m * 8) else d 10 j := by
  have key : ∀ k, (fo (mNt1 m) k (zup d 9 m (d 0 12))) 10 j = (if m * 8 ≤ j ∧ j < m * 8 + k then d 5 (j - m * 8) else d 10 j) ∧ (fo (mNt1 m) k (zup d 9 m (d 0 12))) 5 = d 5 := by
    intro k
    induction k with
    | zero => exact ⟨by rw [if_neg (by omega)]; show zup d 9 m (d 0 12) 10 j = d 10 j; rw [zup_n (by decide)], zup_n (by decide)⟩
    | succ k ih =>
      obtain ⟨i1, i2⟩ := ih
      rw [fo_s]
      unfold mNt1 at *
      refine ⟨?_, by rw [zup_n (by decide)]; exact i2⟩
      rw [zup_at, i2, i1]
      by_cases c : j = m * 8 + k
      · subst c
        rw [if_pos ⟨rfl, rfl⟩, if_pos (by omega), Nat.add_sub_cancel_left]
      · rw [if_neg (fun z => c z.2)]
        by_cases c2 : m * 8 ≤ j ∧ j < m * 8 + k
        · rw [if_pos c2, if_pos (by omega)]
        · rw [if_neg c2, if_neg (by omega)]
  exact (key n).1
theorem mNt_5 {d : zS} {n m k : Nat} (h9 : k ≠ 9) (h10 : k ≠ 10) : mNt n m d k = d k := by
  unfold mNt
  exact fo_inv (fun _ (e : zS) => e k = d k) (zup_n h9) (fun p e _ he => by unfold mNt1; rw [zup_n h10, he])
theorem mMi_9 {S d : zS} {na n m : Nat} : mMi S na n m d 9 = upd (d 9) m (mMi S na n m d 0 12) := by
  have e : mMi S na n m d 0 12 = (mLo n (mTk S (nI m) n (mNo S n (mFo S na n (nI m) (mWk S (nI m) n d))))) 0 12 := by
    unfold mMi
    rw [mNt_c]
  rw [e]
  unfold mMi
  rw [mNt_9, mLo_o (k := 9) (by decide), mTk_o (by decide) (by decide) (by decide) (by decide), mNo_o (by decide) (by decide) (by decide) (by decide), mFo_o (by decide) (by decide) (by decide) (by decide), mWk_o (by decide) (by decide) (by decide) (by decide)]
theorem mMi_10 {S d : zS} {na n m j : Nat} : mMi S na n m d 10 j = if m * 8 ≤ j ∧ j < m * 8 + n then mMi S na n m d 5 (j - m * 8) else d 10 j := by
  have e : mMi S na n m d 5 = (mLo n (mTk S (nI m) n (mNo S n (mFo S na n (nI m) (mWk S (nI m) n d))))) 5 := by
    unfold mMi
    rw [mNt_5 (by decide) (by decide)]
  rw [e]
  unfold mMi
  rw [mNt_10, mLo_o (k := 10) (by decide), mTk_o (k := 10) (by decide) (by decide) (by decide) (by decide), mNo_o (k := 10) (by decide) (by decide) (by decide) (by decide), mFo_o (k := 10) (by decide) (by decide) (by decide) (by decide), mWk_o (k := 10) (by decide) (by decide) (by decide) (by decide)]
theorem mDy_s {S d : zS} {na n M : Nat} : mDy S na n (M + 1) d = mMi S na n (M + 1) (mDy S na n M d) := rfl
theorem mDy_9 {S d : zS} {na n m : Nat} : ∀ {M : Nat}, 1 ≤ m → m ≤ M → mDy S na n M d 9 m = mDy S na n m d 0 12 := by
  intro M
  induction M with
  | zero => intro h1 h2; omega
  | succ M ih =>
    intro h1 h2
    rw [mDy_s, mMi_9]
    by_cases c : m = M + 1
    · subst c; rw [pk_us, mDy_s]
    · rw [pk_un c]
      exact ih h1 (by omega)
theorem mDy_10 {S d : zS} {na n m p : Nat} (hp : p < n) (hn : n ≤ 8) : ∀ {M : Nat}, 1 ≤ m → m ≤ M → mDy S na n M d 10 (m * 8 + p) = mDy S na n m d 5 p := by
  intro M
  induction M with
  | zero => intro h1 h2; omega
  | succ M ih =>
    intro h1 h2
    rw [mDy_s, mMi_10]
    by_cases c : m = M + 1
    · subst c
      rw [if_pos (by omega), Nat.add_sub_cancel_left, mDy_s]
    · rw [if_neg (by omega)]
      exact ih h1 (by omega)
theorem mCl_o {S d : zS} {n k : Nat} (h3 : k ≠ 3) (h8 : k ≠ 8) : mCl S n d k = d k := by
  unfold mCl
  refine fo_inv (fun _ (e : zS) => e k = d k) rfl (fun p e _ he => ?_)
  unfold mCl1
  split
  · exact he
  · split
    · rw [mTal_o h8, he]
    · rw [mBck_o h3, he]
theorem mRu_9 {S d : zS} {na n m : Nat} (h1 : 1 ≤ m) (h2 : m ≤ 60) : mRu S na n d 9 m = mDy S na n m d 0 12 := by
  unfold mRu
  rw [mCl_o (by decide) (by decide)]
  exact mDy_9 h1 h2
theorem mRu_10 {S d : zS} {na n m p : Nat} (hp : p < n) (hn : n ≤ 8) (h1 : 1 ≤ m) (h2 : m ≤ 60) : mRu S na n d 10 (m * 8 + p) = mDy S na n m d 5 p := by
  unfold mRu
  rw [mCl_o (by decide) (by decide)]
  exact mDy_10 hp hn h1 h2
/-- what today is told by is what the reference would be told -/
theorem tdB {σ τ : zS} {q na n nr : Nat} {d : zS} (h : RQ σ τ q na n nr) (hd : tdC σ q na d) : ∃ τ', FX8_set 0 τ = some (0, τ') ∧ Fr τ τ' ∧ rB τ' na n nr 99 d := by
  obtain ⟨-, ⟨hq, -⟩, ⟨hS, -⟩, ⟨⟨w1, w2, w3, -, w5⟩, -⟩, -⟩ := h
  obtain ⟨⟨h10, -, -⟩, ⟨h8, -, e33⟩, -, -, hA, -⟩ := id hS
  obtain ⟨τ', g1, g2, g3, g4, g5, g6, g7, g8⟩ := gSt e33
  obtain ⟨t1, t2, t3, t4, t5, t6⟩ := hd
  refine ⟨τ', g1, g2, ⟨?_, ?_, ?_, ?_, fun a ha => ?_, fun p hp => ?_⟩, fun a ha => ?_, ?_⟩
  · rw [g4, t1]; exact (w1 0 (by decide)).symm
  · rw [g5, t2]; exact (w1 1 (by decide)).symm
  · rw [g6, t3]; exact (w1 2 (by decide)).symm
  · rw [g7, t4]; exact (w1 3 (by decide)).symm
  · obtain ⟨r1, r2, r3⟩ := t6 a ha
    obtain ⟨s1, s2⟩ := g3 a (by omega)
    refine ⟨?_, ?_⟩
    · rw [s1, r1, (hA a ha).1, ss_i (by decide) (by decide)]
    · rw [r2, g2.row 7 (by decide) (by decide)]
      exact (w5 a ha).1.symm
  · rw [g8, t5, bits_n n h8 p hp]
    simp [b_0]
  · obtain ⟨r1, r2, r3⟩ := t6 a ha
    obtain ⟨s1, s2⟩ := g3 a (by omega)
    obtain ⟨-, v2, s, v3, v4⟩ := w5 a ha
    have e8 : σ 8 a = τ 5 a := v2
    exact ⟨by rw [s2, r3, e8], s, v3, by rw [r3]; exact v4⟩
  · unfold cf0
    rw [t1, t2]
    exact w2
/-- eyes -/
theorem rel_eyes {σ τ : zS} (h : RR σ τ) (x : Int32) : relX (FX7_eyes 0 x σ) (FX8_eyes 0 x τ) := by
  obtain ⟨q, na, n, nr, h⟩ := h
  have h0 : RQ σ (zup τ 0 2 0) q na n nr := h.m (Fm.rf.up rfl)
  unfold FX7_eyes FX8_eyes
  simp only [fnm, gism, zlet_eq, zbd_s, b01_eq0]
  cases hm : ism x
  · exact relX_1 ⟨q, na, n, nr, h0⟩
  · obtain ⟨m, m1, m2, rfl⟩ := ism_t.mp hm
    obtain ⟨σ', d, k1, k2, k3, k4, k5, k6⟩ := fkt h0
    obtain ⟨τ1, g1, g2, g3⟩ := tdB h0 k3
    obtain ⟨τ2, f1, f2, f3, -⟩ := gGo (h0.2.2.1.fr g2).1 h0.2.2.1.2.1 m2 g3 (by decide)
    have e9 : σ' 33 m = mDy (ss q σ) na n m d 0 12 := by
      have := k4 9 (by decide) (by decide)
      rw [show 33 = 24 + 9 from rfl, this, mRu_9 m1 m2]
    simp only [if_true, zbx_0, k1, zbd_s, g1, f1, Nat.zero_add, Nat.reduceAdd, fat', show ln 0 33 = 61 from rfl, rd_n (by omega : m < 61) (by decide : 61 < 2 ^ 31), e9, Bool.true_eq_false, if_false]
    have hcode : τ2 0 2 = 0 := by rw [f2 0 2 rfl, g2 0 2 rfl]; simp [zup_at]
    rw [← f3.2.1.1]
    exact relX_0 ⟨q, na, n, nr, k2.m ((g2.tr f2).m)⟩ hcode
/-- has -/
theorem rel_has {σ τ : zS} (h : RR σ τ) (x y : Int32) : relX (FX7_has 0 x y σ) (FX8_has 0 x y τ) := by
  obtain ⟨q, na, n, nr, h⟩ := h
  have h0 : RQ σ (zup τ 0 2 0) q na n nr := h.m (Fm.rf.up rfl)
  obtain ⟨⟨h10, -, -⟩, ⟨h8, e7, e33⟩, -⟩ := id h0.2.2.1.1
  have e7' : σ (q + 7) 0 = nI n := by rw [← e7, ss_i (by decide) (by decide)]
  unfold FX7_has FX8_has FX8_has_b20
  simp only [fnp h.2.1 e7', gIp (by omega : n < 2 ^ 31) e33, fnm, gism, zlet_eq, zbd_s, b01_eq0]
  cases hx : isn x n
  · exact relX_1 ⟨q, na, n, nr, h0⟩
  cases hm : ism y
  · exact relX_1 ⟨q, na, n, nr, h0⟩
  · obtain ⟨p, hp, rfl⟩ := (isn_t (by omega)).mp hx
    obtain ⟨m, m1, m2, rfl⟩ := ism_t.mp hm
    obtain ⟨σ', d, k1, k2, k3, k4, k5, k6⟩ := fkt h0
    obtain ⟨τ1, g1, g2, g3⟩ := tdB h0 k3
    obtain ⟨τ2, f1, f2, f3, -⟩ := gGo (h0.2.2.1.fr g2).1 h0.2.2.1.2.1 m2 g3 (by decide)
    have e9 : σ' 34 (m * 8 + p) = mDy (ss q σ) na n m d 5 p := by
      have := k4 10 (by decide) (by decide)
      rw [show 34 = 24 + 10 from rfl, this, mRu_10 hp h8 m1 m2]
    have ei : nI m * 8 + nI p = nI (m * 8 + p) := by rw [show (8 : Int32) = nI 8 from rfl, pk_mul, nI_add]
    simp only [if_true, zbx_0, k1, zbd_s, g1, f1, Nat.zero_add, Nat.reduceAdd, fat', show ln 0 34 = 488 from rfl, ei, rd_n (by omega : m * 8 + p < 488) (by decide : 488 < 2 ^ 31), e9, Bool.true_eq_false, if_false, rn_25, zin_n _ (by omega : p < 8) (by decide : 8 < 2 ^ 31), nI_clamp (by omega : p < 2 ^ 31)]
    have hcode : τ2 0 2 = 0 := by rw [f2 0 2 rfl, g2 0 2 rfl]; simp [zup_at]
    rw [← (f3.2.2.2.2.1 p hp).1]
    exact relX_0 ⟨q, na, n, nr, k2.m ((g2.tr f2).m)⟩ hcode
