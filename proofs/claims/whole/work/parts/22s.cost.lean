/-- the cost's tally stays, and what is worth what -/
def k8 (d e : zS) : Prop := e 8 0 = d 8 0 ∧ e 1 = d 1
theorem k8.rf {d : zS} : k8 d d := ⟨rfl, rfl⟩
theorem k8.tr {a b c : zS} (h : k8 a b) (h2 : k8 b c) : k8 a c := ⟨h2.1.trans h.1, h2.2.trans h.2⟩
theorem k8_o {d e : zS} (h : e 8 = d 8) (h1 : e 1 = d 1) : k8 d e := ⟨by rw [h], h1⟩
theorem k8_up {d : zS} {k j : Nat} {v : Int32} (h : k ≠ 1 ∧ (k ≠ 8 ∨ j ≠ 0)) : k8 d (zup d k j v) := ⟨by rw [zup_at, if_neg (by omega)], zup_n (by omega)⟩
theorem k8_tal {d : zS} {w : Nat} {v : Int32} (h : w ≠ 0) : k8 d (mTal d w v) := k8_up ⟨by decide, Or.inr h⟩
theorem k8_mrk {d : zS} {w p : Nat} (h : w ≠ 0) : k8 d (mMrk d w p) := k8_up ⟨by decide, Or.inr h⟩
theorem k8_bck {d : zS} {x : Int32} : k8 d (mBck d x) := k8_o (mBck_o (by decide)) (mBck_o (by decide))
theorem k8_pt3 {d : zS} {n : Nat} {x v : Int32} : k8 d (pt n d 3 x v) := k8_o (pt_o (by decide)) (pt_o (by decide))
theorem k8_fo {f : Nat → zS → zS} (h : ∀ p d, k8 d (f p d)) (n : Nat) (d : zS) : k8 d (fo f n d) := fo_inv (fun _ e => k8 d e) k8.rf (fun p a _ ha => ha.tr (h p a))
theorem k8_fo1 {S d : zS} {na : Nat} {w : Int32} : k8 d (mFo1 S na w d) := by
  unfold mFo1
  split
  · exact k8.rf
  · split
    · exact k8.rf
    · exact k8_up ⟨by decide, Or.inl (by decide)⟩
theorem k8_mFo {S d : zS} {na n : Nat} {m : Int32} : k8 d (mFo S na n m d) := by
  unfold mFo
  split
  · exact k8.rf
  · split
    · exact k8.rf
    · split
      · exact (k8_o (mCh_o (by decide) (by decide) (by decide)) (mCh_o (by decide) (by decide) (by decide))).tr k8_fo1
      · exact k8_fo1
theorem k8_mNh {d : zS} {p : Nat} : k8 d (mNh p d) := by
  unfold mNh
  split
  · exact k8_mrk (by decide)
  · exact ((k8_mrk (by decide)).tr k8_bck).tr (k8_up ⟨by decide, Or.inl (by decide)⟩)
theorem k8_mNo1 {S d : zS} {en : Int32} {p : Nat} : k8 d (mNo1 S en p d) := by
  unfold mNo1
  split
  · split
    · exact k8_up ⟨by decide, Or.inl (by decide)⟩
    · exact (k8_up ⟨by decide, Or.inl (by decide)⟩).tr k8_mNh
  · split
    · exact k8_up ⟨by decide, Or.inl (by decide)⟩
    · exact (k8_up ⟨by decide, Or.inl (by decide)⟩).tr k8_mNh
theorem k8_mTk1 {S d : zS} {m : Int32} {p : Nat} : k8 d (mTk1 S m p d) := by
  unfold mTk1
  split
  · split
    · exact ((k8_pt3.tr (k8_up ⟨by decide, Or.inl (by decide)⟩)).tr (k8_mrk (by decide))).tr (k8_up ⟨by decide, Or.inl (by decide)⟩)
    · exact k8_pt3.tr (k8_up ⟨by decide, Or.inl (by decide)⟩)
  · exact k8.rf
theorem k8_mLo1 {d : zS} {p : Nat} : k8 d (mLo1 p d) := by
  unfold mLo1
  split
  · exact k8.rf
  · exact k8_up ⟨by decide, Or.inl (by decide)⟩
theorem k8_mNt {d : zS} {n m : Nat} : k8 d (mNt n m d) := by
  unfold mNt
  exact (k8_up ⟨by decide, Or.inl (by decide)⟩).tr (k8_fo (fun p e => by unfold mNt1; exact k8_up ⟨by decide, Or.inl (by decide)⟩) _ _)
theorem k8_mCl {S d : zS} {n : Nat} : k8 d (mCl S n d) := by
  unfold mCl
  refine k8_fo (fun p e => ?_) _ _
  unfold mCl1
  split
  · exact k8.rf
  · split
    · exact k8_tal (by decide)
    · exact k8_bck
theorem k8_mMi {S d : zS} {na n m : Nat} : k8 (mWk S (nI m) n d) (mMi S na n m d) := by
  unfold mMi
  generalize mWk S (nI m) n d = a
  have h1 : k8 a (mFo S na n (nI m) a) := k8_mFo
  generalize mFo S na n (nI m) a = b at h1 ⊢
  have h2 : k8 b (mNo S n b) := by unfold mNo; exact k8_fo (fun p e => k8_mNo1) _ _
  generalize mNo S n b = c at h2 ⊢
  have h3 : k8 c (mTk S (nI m) n c) := by unfold mTk; exact k8_fo (fun p e => k8_mTk1) _ _
  generalize mTk S (nI m) n c = e at h3 ⊢
  have h4 : k8 e (mLo n e) := by unfold mLo; exact k8_fo (fun p e => k8_mLo1) _ _
  generalize mLo n e = f at h4 ⊢
  exact (((h1.tr h2).tr h3).tr h4).tr k8_mNt
/-- a day's cost is a number, and not below 0 -/
theorem cs_day {S d : zS} {na n : Nat} (h10 : na ≤ 10) (h8 : n ≤ 8) (h4 : ∃ w, w ≤ 999 ∧ S 0 4 = nI w) (h1 : ∀ a, a < na → ∃ w, w ≤ 999 ∧ d 1 a = nI w) (h5 : ∀ M, M ≤ 60 → ∀ p, p < n → oa na (mDy S na n M d 5 p)) : ∀ M, M ≤ 60 → mDy S na n M d 1 = d 1 ∧ ∃ c, c ≤ 999 * (8 * M) ∧ mDy S na n M d 8 0 = nI c := by
  intro M
  induction M with
  | zero =>
    intro _
    show mSt na d 1 = d 1 ∧ ∃ c, c ≤ 999 * (8 * 0) ∧ mSt na d 8 0 = nI c
    exact ⟨mSt_o (k := 1) (by decide) (by decide) (by decide) (by decide) (by decide), 0, by decide, mSt_8 (j := 0) (by decide)⟩
  | succ M ih =>
    intro hM
    obtain ⟨i1, c, i2, i3⟩ := ih (by omega)
    have i5 := h5 M (by omega)
    show mMi S na n (M + 1) (mDy S na n M d) 1 = d 1 ∧ ∃ c, c ≤ 999 * (8 * (M + 1)) ∧ mMi S na n (M + 1) (mDy S na n M d) 8 0 = nI c
    generalize mDy S na n M d = e at i1 i3 i5
    have hw : mWk S (nI (M + 1)) n e 1 = d 1 ∧ (∃ c, c ≤ 999 * (8 * M + n) ∧ mWk S (nI (M + 1)) n e 8 0 = nI c) := by
      have key : mWk S (nI (M + 1)) n e 1 = d 1 ∧ (∃ c, c ≤ 999 * (8 * M + n) ∧ mWk S (nI (M + 1)) n e 8 0 = nI c) ∧ ∀ i, i < n → n ≤ i → mWk S (nI (M + 1)) n e 5 i = e 5 i := by
        unfold mWk
        refine fo_inv (fun p (f : zS) => f 1 = d 1 ∧ (∃ c, c ≤ 999 * (8 * M + p) ∧ f 8 0 = nI c) ∧ ∀ i, i < n → p ≤ i → f 5 i = e 5 i) ⟨i1, ⟨c, i2, i3⟩, fun _ _ _ => rfl⟩ (fun p f hp hf => ?_)
        obtain ⟨f1, ⟨c, f2, f3⟩, f5⟩ := hf
        have keep : ∀ g : zS, k8 f g → (∀ i, i ≠ p → g 5 i = f 5 i) → g 1 = d 1 ∧ (∃ c, c ≤ 999 * (8 * M + (p + 1)) ∧ g 8 0 = nI c) ∧ ∀ i, i < n → p + 1 ≤ i → g 5 i = e 5 i := fun g hg h5 => ⟨hg.2.trans f1, ⟨c, by omega, hg.1.trans f3⟩, fun i hi hip => by rw [h5 i (by omega)]; exact f5 i hi (by omega)⟩
        have add : ∀ (g : zS) (w : Nat), w ≤ 999 → g 8 0 = f 8 0 + nI w → g 1 = f 1 → (∀ i, i ≠ p → g 5 i = f 5 i) → g 1 = d 1 ∧ (∃ c, c ≤ 999 * (8 * M + (p + 1)) ∧ g 8 0 = nI c) ∧ ∀ i, i < n → p + 1 ≤ i → g 5 i = e 5 i := fun g w hw h0 hg h5 => ⟨hg.trans f1, ⟨c + w, by omega, by rw [h0, f3, nI_add]⟩, fun i hi hip => by rw [h5 i (by omega)]; exact f5 i hi (by omega)⟩
        have r5 : ∀ (g : zS) i, i ≠ p → g 5 = (zup (zup f 4 p (mPl S (nI p) (nI (M + 1)))) 5 p (-1)) 5 → g 5 i = f 5 i := fun g i hi hg => by rw [hg, zup_at, if_neg (by omega), zup_n (by decide)]
        unfold mWk1
        split
        · exact keep f k8.rf (fun _ _ => rfl)
        split
        · next cc =>
          obtain ⟨w4, w4a, w4b⟩ := h4
          have hx : ∃ a, a < na ∧ f 5 p = nI a := by
            have := i5 p hp
            rw [← f5 p hp (Nat.le_refl p)] at this
            rcases this with z | z
            · exact absurd ((zup_n (by decide : (5:Nat) ≠ 4)).symm ▸ z : zup f 4 p (mPl S (nI p) (nI (M + 1))) 5 p = -1) cc.1
            · exact z
          obtain ⟨a, ha, hfa⟩ := hx
          obtain ⟨w1, w1a, w1b⟩ := h1 a ha
          unfold mLv
          split
          · split
            · refine add _ w4 w4a ?_ ?_ (fun i hi => r5 _ i hi ?_)
              · simp [mTal, zup_at, w4b]
              · simp [mTal, zup_n]
              · simp [mTal, zup_n]
            · refine keep _ (((k8_up ⟨by decide, Or.inl (by decide)⟩).tr (k8_up ⟨by decide, Or.inl (by decide)⟩)).tr (k8_tal (by decide))) (fun i hi => r5 _ i hi ?_)
              simp [mTal, zup_n]
          · split
            · refine keep _ (((((k8_up ⟨by decide, Or.inl (by decide)⟩).tr (k8_up ⟨by decide, Or.inl (by decide)⟩)).tr (k8_tal (by decide))).tr (k8_mrk (by decide))).tr k8_bck) (fun i hi => r5 _ i hi ?_)
              rw [mBck_o (by decide)]
              simp [mTal, mMrk, zup_n]
            · refine add _ w1 w1a ?_ ?_ (fun i hi => r5 _ i hi ?_)
              · have : rd 10 (zup f 4 p (mPl S (nI p) (nI (M + 1))) 1) (zup f 4 p (mPl S (nI p) (nI (M + 1))) 5 p) = nI w1 := by
                  rw [zup_n (by decide), zup_n (by decide), hfa, rd_n (by omega) (by decide), f1, w1b]
                rw [this]
                simp [mTal, zup_at]
              · simp [mTal, zup_n]
              · simp [mTal, zup_n]
        · exact keep _ (k8_up ⟨by decide, Or.inl (by decide)⟩) (fun i _ => by rw [zup_n (by decide)])
      exact ⟨key.1, key.2.1⟩
    obtain ⟨j1, c', j2, j3⟩ := hw
    have hk := k8_mMi (S := S) (d := e) (na := na) (n := n) (m := M + 1)
    exact ⟨hk.2.trans j1, c', by omega, hk.1.trans j3⟩
theorem cs_run {τ S d : zS} {na n nr B : Nat} (hS : rSh τ S na n nr) (hR : rB τ na n nr B d) (hB : B < 2 ^ 30) (h1 : ∀ a, a < na → ∃ w, w ≤ 999 ∧ d 1 a = nI w) : mRu S na n d 1 = d 1 ∧ ∃ c, c ≤ 479520 ∧ mRu S na n d 8 0 = nI c := by
  obtain ⟨hS, h3, h4, hw⟩ := hS
  have h5 : ∀ M, M ≤ 60 → ∀ p, p < n → oa na (mDy S na n M d 5 p) := by
    intro M hM p hp
    obtain ⟨τ', -, -, g3, -⟩ := gGo hS h3 hM hR hB
    exact (g3.2.2.2.2.1 p hp).2.2
  obtain ⟨c0, c, c1, c2⟩ := cs_day hS.1.1 hS.2.1.1 h4 h1 h5 60 (Nat.le_refl 60)
  exact ⟨by unfold mRu; rw [(k8_mCl).2]; exact c0, c, by omega, by unfold mRu; rw [(k8_mCl).1]; exact c2⟩
