/-! with nobody told whom to watch, whom he would watch is the same -/
theorem zup_cm {d : zS} {k j : Nat} {v x : Int32} (h : k ≠ 0 ∨ j ≠ 2) : zup (zup d 0 2 v) k j x = zup (zup d k j x) 0 2 v := by
  funext a b
  rw [zup_at, zup_at, zup_at, zup_at]
  by_cases c : a = k ∧ b = j
  · rw [if_pos c, if_neg (by omega), if_pos c]
  · rw [if_neg c]
    by_cases e : a = 0 ∧ b = 2
    · rw [if_pos e, if_pos e]
    · rw [if_neg e, if_neg e, if_neg c]
theorem sw_r {d : zS} {k : Nat} {v : Int32} (h : k ≠ 0) : zup d 0 2 v k = d k := zup_n h
theorem sw_0 {d : zS} {j : Nat} {v : Int32} (h : j ≠ 2) : zup d 0 2 v 0 j = d 0 j := by rw [zup_at, if_neg (by omega)]
theorem sw_tal {d : zS} {w : Nat} {v x : Int32} : mTal (zup d 0 2 v) w x = zup (mTal d w x) 0 2 v := by unfold mTal; rw [zup_cm (Or.inl (by decide)), sw_r (by decide)]
theorem sw_mrk {d : zS} {w p : Nat} {v : Int32} : mMrk (zup d 0 2 v) w p = zup (mMrk d w p) 0 2 v := by unfold mMrk; rw [zup_cm (Or.inl (by decide)), sw_r (by decide)]
theorem sw_pt {d : zS} {n : Nat} {i x v : Int32} : pt n (zup d 0 2 v) 3 i x = zup (pt n d 3 i x) 0 2 v := by
  unfold pt
  split
  · rfl
  · split
    · rfl
    · rw [zup_cm (Or.inl (by decide))]
theorem sw_bck {d : zS} {x v : Int32} : mBck (zup d 0 2 v) x = zup (mBck d x) 0 2 v := by unfold mBck; rw [sw_pt, sw_r (by decide)]
theorem sw_ite {c : Prop} [Decidable c] {a b : zS} {v : Int32} : (if c then zup a 0 2 v else zup b 0 2 v) = zup (if c then a else b) 0 2 v := by split <;> rfl
theorem sw_fo {f : Nat → zS → zS} {v : Int32} (h : ∀ p d, f p (zup d 0 2 v) = zup (f p d) 0 2 v) (n : Nat) (d : zS) : fo f n (zup d 0 2 v) = zup (fo f n d) 0 2 v := by
  induction n with
  | zero => rfl
  | succ n ih => show f n (fo f n (zup d 0 2 v)) = zup (f n (fo f n d)) 0 2 v; rw [ih, h]
theorem sw_mLv {S d : zS} {p : Nat} {v : Int32} : mLv S p (zup d 0 2 v) = zup (mLv S p d) 0 2 v := by
  unfold mLv
  simp only [sw_r (by decide : 8 ≠ 0), sw_r (by decide : 5 ≠ 0), sw_r (by decide : 1 ≠ 0), sw_0 (by decide : 4 ≠ 2), sw_0 (by decide : 13 ≠ 2), zup_cm (Or.inl (by decide : 5 ≠ 0) : 5 ≠ 0 ∨ p ≠ 2), sw_tal, sw_mrk, sw_bck, sw_ite]
theorem sw_mWk1 {S d : zS} {p : Nat} {m v : Int32} : mWk1 S m p (zup d 0 2 v) = zup (mWk1 S m p d) 0 2 v := by
  unfold mWk1
  simp only [sw_r (by decide : 5 ≠ 0), sw_0 (by decide : 5 ≠ 2), zup_cm (Or.inl (by decide : 4 ≠ 0) : 4 ≠ 0 ∨ p ≠ 2), sw_mLv, sw_ite]
theorem sw_mNh {d : zS} {p : Nat} {v : Int32} : mNh p (zup d 0 2 v) = zup (mNh p d) 0 2 v := by
  unfold mNh
  simp only [sw_r (by decide : 5 ≠ 0), zup_cm (Or.inl (by decide : 5 ≠ 0) : 5 ≠ 0 ∨ p ≠ 2), sw_mrk, sw_bck, sw_ite]
theorem sw_mNo1 {S d : zS} {p : Nat} {en v : Int32} : mNo1 S en p (zup d 0 2 v) = zup (mNo1 S en p d) 0 2 v := by
  unfold mNo1
  simp only [sw_r (by decide : 4 ≠ 0), sw_r (by decide : 6 ≠ 0), sw_0 (by decide : 12 ≠ 2), zup_cm (Or.inl (by decide : 6 ≠ 0) : 6 ≠ 0 ∨ p ≠ 2), sw_mNh, sw_ite]
theorem sw_mSe {d : zS} {x v : Int32} : mSe (zup d 0 2 v) x = mSe d x := by
  unfold mSe
  simp only [sw_r (by decide : 2 ≠ 0), sw_0 (by decide : 12 ≠ 2)]
theorem sw_mTk1 {S d : zS} {p : Nat} {m v : Int32} : mTk1 S m p (zup d 0 2 v) = zup (mTk1 S m p d) 0 2 v := by
  unfold mTk1
  simp only [sw_r (by decide : 4 ≠ 0), sw_r (by decide : 8 ≠ 0), sw_r (by decide : 3 ≠ 0), sw_mSe, sw_0 (by decide : 13 ≠ 2), sw_pt, zup_cm (Or.inl (by decide : 5 ≠ 0) : 5 ≠ 0 ∨ p ≠ 2), sw_mrk, zup_cm (Or.inr (by decide : 13 ≠ 2) : 0 ≠ 0 ∨ 13 ≠ 2), sw_ite]
theorem sw_mLo1 {d : zS} {p : Nat} {v : Int32} : mLo1 p (zup d 0 2 v) = zup (mLo1 p d) 0 2 v := by
  unfold mLo1
  simp only [sw_r (by decide : 4 ≠ 0), sw_mSe, sw_0 (by decide : 13 ≠ 2), zup_cm (Or.inr (by decide : 13 ≠ 2) : 0 ≠ 0 ∨ 13 ≠ 2), sw_ite]
theorem sw_mNt {d : zS} {n m : Nat} {v : Int32} : mNt n m (zup d 0 2 v) = zup (mNt n m d) 0 2 v := by
  unfold mNt
  rw [sw_0 (by decide), zup_cm (Or.inl (by decide)), sw_fo]
  intro p d
  unfold mNt1
  rw [sw_r (by decide), zup_cm (Or.inl (by decide))]
theorem sw_mCl {S d : zS} {n : Nat} {v : Int32} : mCl S n (zup d 0 2 v) = zup (mCl S n d) 0 2 v := by
  unfold mCl
  rw [sw_fo]
  intro p d
  unfold mCl1
  simp only [sw_r (by decide : 5 ≠ 0), sw_tal, sw_bck, sw_ite]
theorem mWk_0 {S d : zS} {n : Nat} {m : Int32} : mWk S m n d 0 = d 0 := by
  unfold mWk
  refine fo_inv (fun _ (e : zS) => e 0 = d 0) rfl (fun p e _ he => ?_)
  rw [← he]
  unfold mWk1
  split
  · rfl
  · split
    · unfold mLv
      split
      · split <;> simp [mTal, zup_n]
      · split
        · rw [mBck_o (by decide)]; simp [mTal, mMrk, zup_n]
        · simp [mTal, zup_n]
    · rw [zup_n (by decide)]
theorem sw_mMi {S d : zS} {na n m : Nat} {v : Int32} (h : d 0 12 = -1) : mMi S na n m (zup d 0 2 v) = zup (mMi S na n m d) 0 2 v := by
  unfold mMi
  have a1 : mWk S (nI m) n (zup d 0 2 v) = zup (mWk S (nI m) n d) 0 2 v := by unfold mWk; exact sw_fo (fun p d => sw_mWk1) n d
  rw [a1]
  have h2 : mWk S (nI m) n d 0 12 = -1 := by rw [mWk_0]; exact h
  generalize mWk S (nI m) n d = e at h2
  have a2 : mFo S na n (nI m) (zup e 0 2 v) = zup (mFo S na n (nI m) e) 0 2 v := by
    unfold mFo; rw [sw_0 (by decide), if_pos h2, if_pos h2]
  rw [a2]
  have a3 : ∀ e, mNo S n (zup e 0 2 v) = zup (mNo S n e) 0 2 v := fun e => by unfold mNo; rw [sw_0 (by decide)]; exact sw_fo (fun p d => sw_mNo1) n e
  have a4 : ∀ e, mTk S (nI m) n (zup e 0 2 v) = zup (mTk S (nI m) n e) 0 2 v := fun e => by unfold mTk; exact sw_fo (fun p d => sw_mTk1) n e
  have a5 : ∀ e, mLo n (zup e 0 2 v) = zup (mLo n e) 0 2 v := fun e => by unfold mLo; exact sw_fo (fun p d => sw_mLo1) n e
  rw [a3, a4, a5, sw_mNt]
theorem sw_mFi {d : zS} {b n : Nat} {x v : Int32} (h : b ≠ 0) : mFi b x n (zup d 0 2 v) = zup (mFi b x n d) 0 2 v := by
  unfold mFi
  exact sw_fo (fun p d => zup_cm (Or.inl h)) n d
theorem sw_mSt {d : zS} {na : Nat} {v : Int32} (h : d 0 1 = 0) : mSt na (zup d 0 2 v) = zup (mSt na d) 0 2 v := by
  unfold mSt
  simp only [sw_mFi (by decide : 4 ≠ 0), sw_mFi (by decide : 5 ≠ 0), sw_mFi (by decide : 6 ≠ 0), sw_mFi (by decide : 8 ≠ 0), zup_cm (Or.inr (by decide : 13 ≠ 2) : 0 ≠ 0 ∨ 13 ≠ 2), sw_0 (by decide : 1 ≠ 2)]
  rw [if_pos (Or.inl h), if_pos (Or.inl h), zup_cm (Or.inr (by decide))]
theorem sw_mRu {S d : zS} {na n : Nat} {v : Int32} (h : d 0 1 = 0) (h12 : ∀ M, M ≤ 60 → mDy S na n M d 0 12 = -1) : mRu S na n (zup d 0 2 v) = zup (mRu S na n d) 0 2 v := by
  have key : ∀ M, M ≤ 60 → mDy S na n M (zup d 0 2 v) = zup (mDy S na n M d) 0 2 v := by
    intro M
    induction M with
    | zero => intro _; exact sw_mSt h
    | succ M ih =>
      intro hM
      show mMi S na n (M + 1) (mDy S na n M (zup d 0 2 v)) = zup (mMi S na n (M + 1) (mDy S na n M d)) 0 2 v
      rw [ih (by omega), sw_mMi (h12 M (by omega))]
  unfold mRu
  rw [key 60 (Nat.le_refl 60), sw_mCl]
