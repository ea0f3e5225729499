/-! how many were caught: each is caught once -/
theorem nI_inj {a b : Nat} (ha : a < 2 ^ 31) (hb : b < 2 ^ 31) (h : nI a = nI b) : a = b := (nI_eq ha hb).mp h
def cnt (v : Nat) : Nat := fb_ct (fun i => bt (nI v) i) 8
theorem cnt_add : ∀ v, v < 256 → ∀ p, p < 8 → bt (nI v) p = false → v + 2 ^ p < 256 ∧ nI v ||| sb p = nI (v + 2 ^ p) ∧ cnt (v + 2 ^ p) = cnt v + 1 := by decide +kernel
theorem cnt_off : ∀ v, v < 256 → v ≠ 0 → v &&& (v - 1) < v ∧ nI v &&& (nI v - 1) = nI (v &&& (v - 1)) ∧ cnt v = 1 + cnt (v &&& (v - 1)) := by decide +kernel
theorem gbo (τ : zS) : ∀ v, v < 256 → FX8_bitsOf (nI v) τ = some (nI (cnt v), τ) := by
  have key : ∀ N v, v < N → v < 256 → ∀ c, zlp (fun q : Int32 × Int32 × zS => FX8_bitsOf_L4 q.1 q.2.1 q.2.2) (nI c, nI v, τ) = some (nI (c + cnt v), τ) := by
    intro N
    induction N with
    | zero => intro v hv; omega
    | succ N ih =>
      intro v hv h8 c
      by_cases h0 : v = 0
      · subst h0
        refine zlp_end ?_
        show FX8_bitsOf_L4 (nI c) (nI 0) τ = _
        unfold FX8_bitsOf_L4 FX8_bitsOf_b20
        rw [if_pos (by decide), show cnt 0 = 0 from by decide +kernel]
        rfl
      · obtain ⟨e1, e2, e3⟩ := cnt_off v h8 h0
        refine (zlp_step (a' := (nI (c + 1), nI (v &&& (v - 1)), τ)) ?_).trans ?_
        · show FX8_bitsOf_L4 (nI c) (nI v) τ = _
          unfold FX8_bitsOf_L4
          rw [if_neg (show ¬ nI v = 0 from fun z => h0 (nI_inj (by omega) (by decide : 0 < 2 ^ 31) z)), zlet_eq, zlet_eq, nI_1, e2]
        · rw [ih _ (by omega) (by omega) (c + 1), e3, Nat.add_assoc]
  intro v hv
  unfold FX8_bitsOf
  rw [zlet_eq, zlet_eq]
  have := key (v + 1) v (by omega) hv 0
  rw [Nat.zero_add] at this
  exact this
/-- the two tallies stay -/
def kk (d e : zS) : Prop := e 8 2 = d 8 2 ∧ e 8 7 = d 8 7
theorem kk.rf {d : zS} : kk d d := ⟨rfl, rfl⟩
theorem kk.tr {a b c : zS} (h : kk a b) (h2 : kk b c) : kk a c := ⟨h2.1.trans h.1, h2.2.trans h.2⟩
theorem kk_o {d e : zS} (h : e 8 = d 8) : kk d e := ⟨by rw [h], by rw [h]⟩
theorem kk_up {d : zS} {k j : Nat} {v : Int32} (h : k ≠ 8 ∨ (j ≠ 2 ∧ j ≠ 7)) : kk d (zup d k j v) := ⟨by rw [zup_at, if_neg (by omega)], by rw [zup_at, if_neg (by omega)]⟩
theorem kk_tal {d : zS} {w : Nat} {v : Int32} (h : w ≠ 2 ∧ w ≠ 7) : kk d (mTal d w v) := kk_up (Or.inr h)
theorem kk_mrk {d : zS} {w p : Nat} (h : w ≠ 2 ∧ w ≠ 7) : kk d (mMrk d w p) := kk_up (Or.inr h)
theorem kk_bck {d : zS} {x : Int32} : kk d (mBck d x) := kk_o (mBck_o (by decide))
theorem kk_pt3 {d : zS} {n : Nat} {x v : Int32} : kk d (pt n d 3 x v) := kk_o (pt_o (by decide))
theorem kk_fo {f : Nat → zS → zS} (h : ∀ p d, kk d (f p d)) (n : Nat) (d : zS) : kk d (fo f n d) := fo_inv (fun _ e => kk d e) kk.rf (fun p a _ ha => ha.tr (h p a))
theorem kk_fo1 {S d : zS} {na : Nat} {w : Int32} : kk d (mFo1 S na w d) := by
  unfold mFo1
  split
  · exact kk.rf
  · split
    · exact kk.rf
    · exact kk_up (Or.inl (by decide))
theorem kk_mFo {S d : zS} {na n : Nat} {m : Int32} : kk d (mFo S na n m d) := by
  unfold mFo
  split
  · exact kk.rf
  · split
    · exact kk.rf
    · split
      · exact (kk_o (mCh_o (by decide) (by decide) (by decide))).tr kk_fo1
      · exact kk_fo1
theorem kk_mNh {d : zS} {p : Nat} : kk d (mNh p d) := by
  unfold mNh
  split
  · exact kk_mrk (by decide)
  · exact ((kk_mrk (by decide)).tr kk_bck).tr (kk_up (Or.inl (by decide)))
theorem kk_mNo1 {S d : zS} {en : Int32} {p : Nat} : kk d (mNo1 S en p d) := by
  unfold mNo1
  split
  · split
    · exact kk_up (Or.inl (by decide))
    · exact (kk_up (Or.inl (by decide))).tr kk_mNh
  · split
    · exact kk_up (Or.inl (by decide))
    · exact (kk_up (Or.inl (by decide))).tr kk_mNh
theorem kk_mTk1 {S d : zS} {m : Int32} {p : Nat} : kk d (mTk1 S m p d) := by
  unfold mTk1
  split
  · split
    · exact ((kk_pt3.tr (kk_up (Or.inl (by decide)))).tr (kk_mrk (by decide))).tr (kk_up (Or.inl (by decide)))
    · exact kk_pt3.tr (kk_up (Or.inl (by decide)))
  · exact kk.rf
theorem kk_mLo1 {d : zS} {p : Nat} : kk d (mLo1 p d) := by
  unfold mLo1
  split
  · exact kk.rf
  · exact kk_up (Or.inl (by decide))
theorem kk_mNt {d : zS} {n m : Nat} : kk d (mNt n m d) := by
  unfold mNt
  exact (kk_up (Or.inl (by decide))).tr (kk_fo (fun p e => by unfold mNt1; exact kk_up (Or.inl (by decide))) _ _)
theorem kk_mCl {S d : zS} {n : Nat} : kk d (mCl S n d) := by
  unfold mCl
  refine kk_fo (fun p e => ?_) _ _
  unfold mCl1
  split
  · exact kk.rf
  · split
    · exact kk_tal (by decide)
    · exact kk_bck
theorem kk_mMi {S d : zS} {na n m : Nat} : kk (mWk S (nI m) n d) (mMi S na n m d) := by
  unfold mMi
  generalize mWk S (nI m) n d = a
  have h1 : kk a (mFo S na n (nI m) a) := kk_mFo
  generalize mFo S na n (nI m) a = b at h1 ⊢
  have h2 : kk b (mNo S n b) := by unfold mNo; exact kk_fo (fun p e => kk_mNo1) _ _
  generalize mNo S n b = c at h2 ⊢
  have h3 : kk c (mTk S (nI m) n c) := by unfold mTk; exact kk_fo (fun p e => kk_mTk1) _ _
  generalize mTk S (nI m) n c = e at h3 ⊢
  have h4 : kk e (mLo n e) := by unfold mLo; exact kk_fo (fun p e => kk_mLo1) _ _
  generalize mLo n e = f at h4 ⊢
  exact (((h1.tr h2).tr h3).tr h4).tr kk_mNt
/-- each who is caught has left; and they are counted -/
def kC (d : zS) (n : Nat) (g : Nat → Prop) : Prop := ∃ v, v < 256 ∧ d 8 7 = nI v ∧ d 8 2 = nI (cnt v) ∧ ∀ p, p < 8 → bt (nI v) p = true → p < n ∧ g p
theorem kC.k {d e : zS} {n : Nat} {g g' : Nat → Prop} (h : kC d n g) (hk : kk d e) (hg : ∀ p, p < n → g p → g' p) : kC e n g' := by
  obtain ⟨v, v1, v2, v3, v4⟩ := h
  exact ⟨v, v1, hk.2.trans v2, hk.1.trans v3, fun p hp hb => ⟨(v4 p hp hb).1, hg p (v4 p hp hb).1 (v4 p hp hb).2⟩⟩
theorem kC.add {d e : zS} {n p : Nat} {g g' : Nat → Prop} (h : kC d n g) (hp : p < n) (h8 : n ≤ 8) (hno : ¬ g p) (e2 : e 8 2 = d 8 2 + 1) (e7 : e 8 7 = d 8 7 ||| sb p) (hg : ∀ q, q < n → g q → g' q) (hgp : g' p) : kC e n g' := by
  obtain ⟨v, v1, v2, v3, v4⟩ := h
  have hb : bt (nI v) p = false := by
    cases hb : bt (nI v) p
    · rfl
    · exact absurd (v4 p (by omega) hb).2 hno
  obtain ⟨w1, w2, w3⟩ := cnt_add v v1 p (by omega) hb
  refine ⟨v + 2 ^ p, w1, by rw [e7, v2, w2], by rw [e2, v3, nI_1, w3], fun q hq hbq => ?_⟩
  rw [← w2, bt_or (by omega) (by omega)] at hbq
  by_cases c : q = p
  · subst c; exact ⟨hp, hgp⟩
  · rw [decide_eq_false c, Bool.or_false] at hbq
    exact ⟨(v4 q hq hbq).1, hg q (v4 q hq hbq).1 (v4 q hq hbq).2⟩
theorem kC_day {S d : zS} {na n : Nat} {L : Nat → Nat} (h8 : n ≤ 8) (hL : ∀ p, p < n → L p < 2 ^ 31 ∧ S 9 p + S 12 p = nI (L p)) : ∀ M, M ≤ 60 → kC (mDy S na n M d) n (fun p => L p ≤ M) := by
  intro M
  induction M with
  | zero =>
    intro _
    show kC (mSt na d) n _
    refine ⟨0, by decide, mSt_8 (j := 7) (by decide), ?_, fun p hp hb => ?_⟩
    · rw [show cnt 0 = 0 from by decide +kernel]; exact mSt_8 (j := 2) (by decide)
    · exact absurd hb (by rw [(by decide +kernel : ∀ p, p < 8 → bt (nI 0) p = false) p hp]; decide)
  | succ M ih =>
    intro hM
    have h := ih (by omega)
    show kC (mMi S na n (M + 1) (mDy S na n M d)) n _
    generalize mDy S na n M d = e at h
    have hw : kC (mWk S (nI (M + 1)) n e) n (fun q => L q ≤ M ∨ (L q = M + 1 ∧ q < n)) := by
      unfold mWk
      refine fo_inv (fun p e => kC e n (fun q => L q ≤ M ∨ (L q = M + 1 ∧ q < p))) (h.k kk.rf (fun p _ hp => Or.inl hp)) (fun p e hp he => ?_)
      have up : ∀ q, q < n → (L q ≤ M ∨ (L q = M + 1 ∧ q < p)) → (L q ≤ M ∨ (L q = M + 1 ∧ q < p + 1)) := fun q _ hq => by omega
      unfold mWk1
      split
      · exact he.k kk.rf up
      · have ha : kC (zup e 4 p (mPl S (nI p) (nI (M + 1)))) n (fun q => L q ≤ M ∨ (L q = M + 1 ∧ q < p)) := he.k (kk_up (Or.inl (by decide))) (fun _ _ z => z)
        generalize zup e 4 p (mPl S (nI p) (nI (M + 1))) = e1 at ha ⊢
        split
        · next c =>
          obtain ⟨-, c2⟩ := c
          have c3 : nI (M + 1) = nI (L p) := by
            unfold mLvs at c2
            rw [Bool.and_eq_true] at c2
            have := of_decide_eq_true c2.1
            rw [rd_n (by omega : p < 8) (by decide), rd_n (by omega : p < 8) (by decide), (hL p hp).2] at this
            exact this
          have c4 : L p = M + 1 := (nI_inj (by omega) (hL p hp).1 c3).symm
          unfold mLv
          split
          · split
            · exact ha.k ((((kk_up (Or.inl (by decide))).tr (kk_tal (by decide))).tr (kk_tal (by decide))).tr (kk_tal (by decide))) up
            · exact ha.k ((kk_up (Or.inl (by decide))).tr (kk_tal (by decide))) up
          · split
            · refine ha.add hp h8 (by omega) ?_ ?_ up (by omega)
              · rw [mBck_o (by decide)]; simp [mMrk, mTal, zup_at]
              · rw [mBck_o (by decide)]; simp [mMrk, mTal, zup_at]
            · exact ha.k (((kk_up (Or.inl (by decide))).tr (kk_tal (by decide))).tr (kk_tal (by decide))) up
        · exact ha.k kk.rf up
    exact hw.k kk_mMi (fun p _ hp => by omega)
/-- day -/
theorem rel_day {σ τ : zS} (h : RR σ τ) (x : Int32) : relX (FX7_day 0 x σ) (FX8_day 0 x τ) := by
  obtain ⟨q, na, n, nr, h⟩ := h
  have h0 : RQ σ (zup τ 0 2 0) q na n nr := h.m (Fm.rf.up rfl)
  have t0 : zup τ 0 2 0 0 2 = 0 := by rw [zup_at, if_pos ⟨rfl, rfl⟩]
  unfold FX7_day FX7_day_b10 FX8_day
  simp only [zlet_eq, gIn2 (a := 0) (b := 7) (a' := 0) (b' := 7) (by decide) (by decide), zbd_s, b01_eq0]
  generalize zup τ 0 2 0 = t at *
  by_cases y1 : x < 0
  · rw [if_pos y1, decide_eq_true y1, if_pos (by simp)]
    exact relX_1 ⟨q, na, n, nr, h0⟩
  obtain ⟨X, hX, rfl⟩ := nI_of y1
  rw [if_neg y1, decide_eq_false y1]
  by_cases y3 : ¬ X < 8
  · have y2 : ¬ nI X < 8 := fun z => y3 ((nI_ltI hX (by decide : 8 < 2 ^ 31)).mp z)
    have y4 : (7 : Int32) < nI X := (nI_ltI (a := 7) (by decide) hX).mpr (by omega)
    rw [if_neg y2, decide_eq_true y4, if_pos (by simp)]
    exact relX_1 ⟨q, na, n, nr, h0⟩
  have y3 := Decidable.not_not.mp y3
  have y2 : nI X < 8 := (nI_ltI hX (by decide : 8 < 2 ^ 31)).mpr y3
  have y4 : ¬ (7 : Int32) < nI X := fun z => by have := (nI_ltI (a := 7) (by decide) hX).mp z; omega
  rw [if_pos y2, decide_eq_false y4, if_neg (by decide)]
  obtain ⟨σ', d, k1, k2, k3, k4, k5, k6⟩ := fkt h0
  obtain ⟨τ1, g1, g2, g3⟩ := tdB h0 k3
  obtain ⟨τ2, f1, f2, f3, f4, -⟩ := gCo (h0.2.2.1.fr g2).1 h0.2.2.1.2.1 g3 (by decide)
  have e8 := k4 8 (by decide) (by decide)
  have hR : RR σ' τ2 := ⟨q, na, n, nr, k2.m ((g2.tr f2).m)⟩
  have hcode : τ2 0 2 = 0 := by rw [f2 0 2 rfl, g2 0 2 rfl]; exact t0
  rw [k1, zbd_s, show (0 + 24 + 8 : Nat) = 32 from rfl, fat', show ln 0 32 = 8 from rfl, rd_n y3 (by decide), zbd_s, show σ' 32 = mRu (ss q σ) na n d 8 from e8, g1, zbd_s, f1, zbd_s]
  obtain ⟨n1, n2, n3, n4, n5, n6, n7, n8, n9⟩ := f4
  have hP := h0.2.2.1.1.2.2.2.2.2.1
  have h8 := h0.2.2.1.1.2.1.1
  have hK : kC (mRu (ss q σ) na n d) n (fun p => (ss q σ 9 p + ss q σ 12 p).toNatClampNeg ≤ 60) := by
    refine (kC_day (d := d) (na := na) (L := fun p => (ss q σ 9 p + ss q σ 12 p).toNatClampNeg) h8 (fun p hp => ?_) 60 (Nat.le_refl 60)).k kk_mCl (fun _ _ z => z)
    obtain ⟨c, t, l, -, -, -, -, -, p1, -, p2, p3, p4, p5, p6, -⟩ := hP p hp
    show (ss q σ 9 p + ss q σ 12 p).toNatClampNeg < 2 ^ 31 ∧ _ = nI (ss q σ 9 p + ss q σ 12 p).toNatClampNeg
    rw [p1, p2, nI_add, nI_clamp (by omega)]
    exact ⟨by omega, rfl⟩
  obtain ⟨v, v1, v2, v3, -⟩ := hK
  have fin : ∀ r, mRu (ss q σ) na n d 8 X = r → relX (some (0, mRu (ss q σ) na n d 8 X, σ')) (some (r, τ2)) := fun r hr => by rw [hr]; exact relX_0 hR hcode
  rcases (by omega : X = 0 ∨ X = 1 ∨ X = 2 ∨ X = 3 ∨ X = 4 ∨ X = 5 ∨ X = 6 ∨ X = 7) with z | z | z | z | z | z | z | z <;> subst z
  · rw [if_pos (by decide)]; exact fin _ rfl
  · rw [if_neg (by decide), if_pos (by decide)]; exact fin _ n6.symm
  · rw [if_neg (by decide), if_neg (by decide), if_pos (by decide), n5, v2, gbo _ v v1, zbd_s]; exact fin _ v3
  · rw [if_neg (by decide), if_neg (by decide), if_neg (by decide), if_pos (by decide)]; exact fin _ n7.symm
  · rw [if_neg (by decide), if_neg (by decide), if_neg (by decide), if_neg (by decide), if_pos (by decide)]; exact fin _ n8.symm
  · rw [if_neg (by decide), if_neg (by decide), if_neg (by decide), if_neg (by decide), if_neg (by decide), if_pos (by decide)]; exact fin _ n2.symm
  · rw [if_neg (by decide), if_neg (by decide), if_neg (by decide), if_neg (by decide), if_neg (by decide), if_neg (by decide), if_pos (by decide)]; exact fin _ n4.symm
  · rw [if_neg (by decide), if_neg (by decide), if_neg (by decide), if_neg (by decide), if_neg (by decide), if_neg (by decide), if_neg (by decide)]; exact fin _ n5.symm
