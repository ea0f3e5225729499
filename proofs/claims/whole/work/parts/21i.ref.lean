theorem cfg.cong {na n nr : Nat} {d d' : zS} (h : cfg na n nr d) (h1 : d' 0 1 = d 0 1) (h2 : d' 0 2 = d 0 2) (h3 : d 0 12 = -1 → d' 0 12 = -1) : cfg na n nr d' := by
  unfold cfg at *
  rw [h1, h2]
  rcases h with h | h | h | h
  · exact Or.inl ⟨h.1, h3 h.2⟩
  · exact Or.inr (Or.inl h)
  · exact Or.inr (Or.inr (Or.inl h))
  · exact Or.inr (Or.inr (Or.inr h))
theorem rD.nt {τ S d : zS} {na n m : Nat} (h : rD τ S na n d) : rD τ S na n (mNt n m d) := by
  unfold mNt
  exact fo_inv (fun _ (e : zS) => rD τ S na n e) h.free9 (fun p e _ he => he.free10)
theorem mFo_12 {S d : zS} {na n : Nat} {m : Int32} (h : d 0 12 = -1) : mFo S na n m d = d := by
  unfold mFo
  rw [if_pos h]
/-- a minute, on both sides -/
theorem gMi {τ0 τ S d : zS} {na n nr m B : Nat} (hS : rS τ0 S na n nr) (h3 : 0 < S 0 3) (hF : Fr τ0 τ) (hm0 : 1 ≤ m) (hm : m ≤ 60) (hD : rD τ S na n d) (hT : ST na n B d) (hB : B < 2 ^ 30) (hc : cfg na n nr d) (hp : ∀ q, q < n → τ 24 q = pV S (d 0 5) q (m - 1)) :
    ∃ τ', FX8_minuteNow 0 (nI m) τ = some (0, τ') ∧ Fr τ0 τ' ∧ rD τ' S na n (mMi S na n m d) ∧ ST na n B (mMi S na n m d) ∧ cfg na n nr (mMi S na n m d) ∧ (∀ q, q < n → τ' 24 q = pV S (d 0 5) q m) := by
  obtain ⟨⟨h10, -, -⟩, ⟨h8, -, -⟩, -⟩ := id hS
  have h5 : ∀ (τ e : zS), rD τ S na n e → ∀ p, p < n → oa na (e 5 p) := fun τ e h p hp => (h.2.2.2.2.1 p hp).2.2
  obtain ⟨τ1, a1, a2, a3, a4⟩ := gWk hS hm0 hm hF hD hp
  have t1 := hT.wk (S := S) (m := nI m) h10 hB h8 (h5 _ _ hD)
  have c1 : cfg na n nr (mWk S (nI m) n d) := hc.cong (by rw [mWk_c]) (by rw [mWk_c]) (fun z => by rw [mWk_c]; exact z)
  obtain ⟨τ2, b1, b2, b3, b4⟩ := gFo (m := m) hS a2 a3 c1
  have t2 := t1.fw (S := S) (m := nI m)
  have c2 : cfg na n nr (mFo S na n (nI m) (mWk S (nI m) n d)) := c1.cong (mFo_c (by decide)) (mFo_c (by decide)) (fun z => by rw [mFo_12 z]; exact z)
  obtain ⟨τ3, d1, d2, d3, d4⟩ := gNo (m := m) hS b2 b3 h3
  have t3 := t2.nt (S := S) h10 hB (h5 _ _ b3)
  obtain ⟨τ4, e1, e2, e3, e4, e5⟩ := gTk hS d2 hm0 hm d3 t3 hB
  obtain ⟨τ5, f1, f2, f3, f4⟩ := gLo hS e2 e3
  unfold mMi
  refine ⟨τ5, by rw [a1, b1, d1, e1, f1], f2, f3.nt, e5.lo.no, c2.cong ?_ ?_ ?_, fun q hq => ?_⟩
  · rw [mNt_c, mLo_c (by decide), mTk_c (by decide), mNo_c]
  · rw [mNt_c, mLo_c (by decide), mTk_c (by decide), mNo_c]
  · intro z; rw [mNt_c, mLo_c (by decide), mTk_c (by decide), mNo_c]; exact z
  · rw [f4, e4, d4 q hq, b4 q hq, a4 q hq]
/-- what is told ahead of a day -/
def cf0 (na n nr : Nat) (d : zS) : Prop := d 0 1 = 0 ∨ (d 0 1 = 1 ∧ ∃ r, r < nr ∧ d 0 2 = nI r) ∨ (d 0 1 = 2 ∧ ∃ w, w < n ∧ d 0 2 = nI w) ∨ (d 0 1 = 3 ∧ ∃ a, a < na ∧ d 0 2 = nI a)
def rB (τ : zS) (na n nr B : Nat) (d : zS) : Prop := rC τ d na n ∧ (∀ a, a < na → τ 23 a = d 3 a ∧ ∃ s, s ≤ B ∧ d 3 a = nI s) ∧ cf0 na n nr d
theorem mFi_o {b k n : Nat} {v : Int32} {d : zS} (h : k ≠ b) : mFi b v n d k = d k := fo_inv (fun _ (e : zS) => e k = d k) rfl (fun p e _ he => by rw [zup_n h, he])
theorem mFi_i {b j n : Nat} {v : Int32} {d : zS} (h : j < n) : mFi b v n d b j = v := by
  have : ∀ k, ∀ j, j < k → fo (fun i e => zup e b i v) k d b j = v := by
    intro k
    induction k with
    | zero => intro j hj; omega
    | succ k ih =>
      intro j hj
      show zup _ b k v b j = v
      rw [zup_at]
      by_cases c : j = k
      · rw [if_pos ⟨rfl, c⟩]
      · rw [if_neg (fun z => c z.2)]
        exact ih j (by omega)
  exact this n j h
theorem mSt_o {na k : Nat} {d : zS} (h0 : k ≠ 0) (h4 : k ≠ 4) (h5 : k ≠ 5) (h6 : k ≠ 6) (h8 : k ≠ 8) : mSt na d k = d k := by
  unfold mSt
  rw [zup_n h0, zup_n h0, mFi_o h8, mFi_o h6, mFi_o h5, mFi_o h4]
theorem mSt_0 {na j : Nat} {d : zS} (h : j ≠ 12) (h2 : j ≠ 13) : mSt na d 0 j = d 0 j := by
  unfold mSt
  rw [zup_at, if_neg (by omega), zup_at, if_neg (by omega), mFi_o (by decide), mFi_o (by decide), mFi_o (by decide), mFi_o (by decide)]
theorem mSt_12 {na : Nat} {d : zS} : mSt na d 0 12 = if d 0 1 = 0 ∨ na = 0 then -1 else if d 0 1 = 3 then d 0 2 else 0 := by
  unfold mSt
  rw [zup_at, if_pos ⟨rfl, rfl⟩]
theorem mSt_13 {na : Nat} {d : zS} : mSt na d 0 13 = 0 := by
  unfold mSt
  rw [zup_at, if_neg (by omega), zup_at, if_pos ⟨rfl, rfl⟩]
theorem mSt_4 {na j : Nat} {d : zS} (h : j < 8) : mSt na d 4 j = -1 := by
  unfold mSt
  rw [zup_n (by decide), zup_n (by decide), mFi_o (by decide), mFi_o (by decide), mFi_o (by decide), mFi_i h]
theorem mSt_5 {na j : Nat} {d : zS} (h : j < 8) : mSt na d 5 j = -1 := by
  unfold mSt
  rw [zup_n (by decide), zup_n (by decide), mFi_o (by decide), mFi_o (by decide), mFi_i h]
theorem mSt_6 {na j : Nat} {d : zS} (h : j < 8) : mSt na d 6 j = 0 := by
  unfold mSt
  rw [zup_n (by decide), zup_n (by decide), mFi_o (by decide), mFi_i h]
theorem mSt_8 {na j : Nat} {d : zS} (h : j < 8) : mSt na d 8 j = 0 := by
  unfold mSt
  rw [zup_n (by decide), zup_n (by decide), mFi_i h]
/-- from the opening to a minute, on both sides -/
theorem gGo {τ S d : zS} {na n nr M B : Nat} (hS : rS τ S na n nr) (h3 : 0 < S 0 3) (hM : M ≤ 60) (hR : rB τ na n nr B d) (hB : B < 2 ^ 30) :
    ∃ τ', FX8_go 0 (nI M) τ = some (0, τ') ∧ Fr τ τ' ∧ rD τ' S na n (mDy S na n M d) ∧ ST na n B (mDy S na n M d) ∧ cfg na n nr (mDy S na n M d) ∧ (∀ q, q < n → τ' 24 q = pV S (d 0 5) q M) ∧ ∀ j, j ≠ 12 → j ≠ 13 → mDy S na n M d 0 j = d 0 j := by
  obtain ⟨⟨h10, -, e30⟩, ⟨h8, -, -⟩, -, -, -, hPs, -, -⟩ := id hS
  obtain ⟨⟨c1, c2, c3, c4, c5, c6⟩, hA, hcf⟩ := hR
  -- the eye at first
  have heye : oa na (mSt na d 0 12) := by
    rw [mSt_12]
    split
    · exact Or.inl rfl
    · next hn =>
      split
      · next h33 =>
        rcases hcf with z | z | z | z
        · exact absurd (Or.inl z) hn
        · rw [h33] at z; exact absurd z.1 (by decide)
        · rw [h33] at z; exact absurd z.1 (by decide)
        · obtain ⟨a, ha, hz⟩ := z.2
          exact Or.inr ⟨a, ha, hz⟩
      · exact Or.inr ⟨0, by omega, rfl⟩
  have hcfg : cfg na n nr (mSt na d) := by
    unfold cfg
    rw [mSt_0 (j := 1) (by decide) (by decide), mSt_0 (j := 2) (by decide) (by decide), mSt_12]
    rcases hcf with z | z | z | z
    · exact Or.inl ⟨z, by rw [if_pos (Or.inl z)]⟩
    · exact Or.inr (Or.inl z)
    · exact Or.inr (Or.inr (Or.inl z))
    · exact Or.inr (Or.inr (Or.inr z))
  have hST : ST na n B (mSt na d) := by
    intro a ha
    obtain ⟨-, s, hs, h⟩ := hA a ha
    refine ⟨s, by rw [mSt_o (by decide) (by decide) (by decide) (by decide) (by decide)]; exact h, ?_⟩
    have : ctn (mSt na d) n a = 0 := by
      unfold ctn
      rw [show fb_ct (fun p => decide (mSt na d 5 p = nI a)) n = fb_ct (fun _ => false) n from fb_ct_cong (fun p hp => by rw [mSt_5 (by omega)]; exact decide_eq_false (fun z => nI_m1 (by omega : a < 2 ^ 31) z.symm))]
      have : ∀ k, fb_ct (fun _ => false) k = 0 := fun k => by
        induction k with
        | zero => rfl
        | succ k ih => rw [fb_ct_succ, ih]; rfl
      exact this n
    omega
  -- the fields, then the rows
  have rows : ∀ v : Int32, v = mSt na d 0 12 → ∃ τ1, FX8_go_b37 0 (nI M) 0 v τ = FX8_go_b115 0 (nI M) τ1 ∧ Fr τ τ1 ∧ rD τ1 S na n (mSt na d) ∧ ∀ q, q < n → τ1 24 q = -1 := by
    intro v hv
    subst hv
    unfold FX8_go_b37
    simp only [zlet_eq]
    have hFb : Fr τ (zup (zup (zup (zup (zup (zup (zup (zup (zup τ 0 51 (mSt na d 0 12)) 0 52 0) 0 53 0) 0 54 0) 0 55 0) 0 56 0) 0 57 0) 0 58 0) 0 59 0) := ((((((((Fr.rf.up rfl).up rfl).up rfl).up rfl).up rfl).up rfl).up rfl).up rfl).up rfl
    have hNb : ∀ d', d' 0 12 = mSt na d 0 12 → d' 0 13 = 0 → (∀ j, j < 8 → d' 8 j = 0) → rN (zup (zup (zup (zup (zup (zup (zup (zup (zup τ 0 51 (mSt na d 0 12)) 0 52 0) 0 53 0) 0 54 0) 0 55 0) 0 56 0) 0 57 0) 0 58 0) 0 59 0) S d' := by
      intro d' k1 k2 k3
      unfold rN
      rw [k1, k2, k3 5 (by decide), k3 6 (by decide), k3 7 (by decide), k3 1 (by decide), k3 3 (by decide), k3 4 (by decide), k3 0 (by decide)]
      simp [zup_at]
    have hb0 : ∀ j, j < 51 → (zup (zup (zup (zup (zup (zup (zup (zup (zup τ 0 51 (mSt na d 0 12)) 0 52 0) 0 53 0) 0 54 0) 0 55 0) 0 56 0) 0 57 0) 0 58 0) 0 59 0) 0 j = τ 0 j := by
      intro j hj
      simp only [zup_at]
      repeat' split
      all_goals first | rfl | (exfalso; omega)
    have hk : ∀ k, k ≠ 0 → (zup (zup (zup (zup (zup (zup (zup (zup (zup τ 0 51 (mSt na d 0 12)) 0 52 0) 0 53 0) 0 54 0) 0 55 0) 0 56 0) 0 57 0) 0 58 0) 0 59 0) k = τ k := fun k hk => by rw [zup_n hk, zup_n hk, zup_n hk, zup_n hk, zup_n hk, zup_n hk, zup_n hk, zup_n hk, zup_n hk]
    generalize zup (zup (zup (zup (zup (zup (zup (zup (zup τ 0 51 (mSt na d 0 12)) 0 52 0) 0 53 0) 0 54 0) 0 55 0) 0 56 0) 0 57 0) 0 58 0) 0 59 0 = τb at hFb hNb hb0 hk
    have hs : ∀ (i : Nat) (q : Int32 × zS), i < 8 → (q.1 = nI i ∧ Fr τ q.2 ∧ (∀ k, k ≠ 24 → k ≠ 25 → k ≠ 26 → q.2 k = τb k) ∧ ∀ p, p < i → q.2 24 p = -1 ∧ q.2 25 p = -1 ∧ q.2 26 p = 0) → ∃ q', FX8_go_L82 0 (nI M) q.1 q.2 = some (.inl q') ∧ (q'.1 = nI (i + 1) ∧ Fr τ q'.2 ∧ (∀ k, k ≠ 24 → k ≠ 25 → k ≠ 26 → q'.2 k = τb k) ∧ ∀ p, p < i + 1 → q'.2 24 p = -1 ∧ q'.2 25 p = -1 ∧ q'.2 26 p = 0) := by
      intro i q hi ⟨q1, q2, q3, q4⟩
      obtain ⟨x, τ1⟩ := q
      simp only at q1 q2 q3 q4
      subst q1
      refine ⟨(nI (i + 1), zup (zup (zup τ1 24 i (-1)) 25 i (-1)) 26 i 0), ?_, rfl, ((q2.up rfl).up rfl).up rfl, fun k k1 k2 k3 => ?_, fun p hp => ?_⟩
      · show FX8_go_L82 0 (nI M) (nI i) τ1 = _
        unfold FX8_go_L82
        simp only [zlet_eq, zbd_s, zgd_t, zinr_s, Nat.zero_add, rn_3, rn_4, rn_5, rn_6, rn_7, rn_8, rn_9, rn_10, rn_11, rn_12, rn_13, rn_14, rn_15, rn_16, rn_17, rn_18, rn_19, rn_20, rn_21, rn_22, rn_23, rn_24, rn_25, rn_26, rn_27, rn_28, rn_29, rn_30, rn_31, rn_32, rn_33, rn_34, rn_35, rn_36, rn_37, rn_38, rn_39, rn_40, tn_0, tn_1, tn_2, tn_3, tn_4, tn_5, tn_6, tn_7, tn_8, zi_18_0, zi_18_1, zi_18_2, zi_18_3, zi_18_4, zi_18_5, zi_18_6, zi_18_7, zi_18_8, zi_7_0, zi_7_1, zi_7_2, zi_7_3, zi_7_4, zi_7_5, zi_7_6, zi_64_0, if_neg (show ¬ (8 : Int32) ≤ nI i from nI_ge (b := 8) hi (by omega)), zin_n _ hi (by decide : 8 < 2 ^ 31), nI_clamp (by omega : i < 2 ^ 31), nI_1]
      · show zup (zup (zup τ1 24 i (-1)) 25 i (-1)) 26 i 0 k = τb k
        rw [zup_n k3, zup_n k2, zup_n k1]
        exact q3 k k1 k2 k3
      · simp only [zup_at]
        by_cases c : p = i
        · subst c; simp
        · obtain ⟨z1, z2, z3⟩ := q4 p (by omega)
          simp [c, z1, z2, z3]
    obtain ⟨⟨x, τ1⟩, g1, g2, g3, g4, g5⟩ := zlp_ex (f := fun q : Int32 × zS => FX8_go_L82 0 (nI M) q.1 q.2) (fun i q => q.1 = nI i ∧ Fr τ q.2 ∧ (∀ k, k ≠ 24 → k ≠ 25 → k ≠ 26 → q.2 k = τb k) ∧ ∀ p, p < i → q.2 24 p = -1 ∧ q.2 25 p = -1 ∧ q.2 26 p = 0) (n := 8) (a := (0, τb)) ⟨rfl, hFb, fun _ _ _ _ => rfl, fun p hp => by omega⟩ hs
    simp only at g2 g3 g4 g5
    subst g2
    refine ⟨τ1, ?_, g3, ?_, fun q hq => (g5 q (by omega)).1⟩
    · rw [g1]
      refine zlp_exit ?_
      show FX8_go_L82 0 (nI M) (nI 8) τ1 = _
      unfold FX8_go_L82
      rw [if_pos (by decide)]
    · have k0 := g4 0 (by decide) (by decide) (by decide)
      have k22 := (g4 22 (by decide) (by decide) (by decide)).trans (hk 22 (by decide))
      have k23 := (g4 23 (by decide) (by decide) (by decide)).trans (hk 23 (by decide))
      have k7 := (g4 7 (by decide) (by decide) (by decide)).trans (hk 7 (by decide))
      refine ⟨?_, ?_, heye, ?_, ?_, ?_⟩
      · unfold rC
        rw [k0, k22, k7, hb0 46 (by decide), hb0 47 (by decide), hb0 48 (by decide), hb0 49 (by decide), hb0 50 (by decide), mSt_0 (j := 1) (by decide) (by decide), mSt_0 (j := 2) (by decide) (by decide), mSt_0 (j := 3) (by decide) (by decide), mSt_0 (j := 4) (by decide) (by decide), mSt_0 (j := 5) (by decide) (by decide), mSt_o (k := 1) (by decide) (by decide) (by decide) (by decide) (by decide), mSt_o (k := 2) (by decide) (by decide) (by decide) (by decide) (by decide)]
        exact ⟨c1, c2, c3, c4, c5, c6⟩
      · have := hNb (mSt na d) rfl mSt_13 (fun j hj => mSt_8 hj)
        unfold rN at this ⊢
        rw [k0]
        exact this
      · intro a ha
        rw [k23, mSt_o (by decide) (by decide) (by decide) (by decide) (by decide)]
        exact (hA a ha).1
      · intro p hp
        obtain ⟨z1, z2, z3⟩ := g5 p (by omega)
        exact ⟨by rw [z2, mSt_5 (by omega)], by rw [z3, mSt_6 (by omega)], Or.inl (mSt_5 (by omega))⟩
      · intro p hp
        obtain ⟨z1, z2, z3⟩ := g5 p (by omega)
        exact Or.inl ⟨by rw [z1]; decide, mSt_4 (by omega)⟩
  have start : ∃ τ1, FX8_go 0 (nI M) τ = FX8_go_b115 0 (nI M) τ1 ∧ Fr τ τ1 ∧ rD τ1 S na n (mSt na d) ∧ ∀ q, q < n → τ1 24 q = -1 := by
    unfold FX8_go FX8_go_b17
    simp only [zlet_eq, zbd_s, zgd_t, zinr_s, Nat.zero_add, rn_3, rn_4, rn_5, rn_6, rn_7, rn_8, rn_9, rn_10, rn_11, rn_12, rn_13, rn_14, rn_15, rn_16, rn_17, rn_18, rn_19, rn_20, rn_21, rn_22, rn_23, rn_24, rn_25, rn_26, rn_27, rn_28, rn_29, rn_30, rn_31, rn_32, rn_33, rn_34, rn_35, rn_36, rn_37, rn_38, rn_39, rn_40, tn_0, tn_1, tn_2, tn_3, tn_4, tn_5, tn_6, tn_7, tn_8, zi_18_0, zi_18_1, zi_18_2, zi_18_3, zi_18_4, zi_18_5, zi_18_6, zi_18_7, zi_18_8, zi_7_0, zi_7_1, zi_7_2, zi_7_3, zi_7_4, zi_7_5, zi_7_6, zi_64_0, c1, c2, e30]
    have hz : (nI na = 0) ↔ na = 0 := nI_eq (b := 0) (by omega) (by omega)
    by_cases z1 : d 0 1 = 0
    · rw [if_pos z1]
      exact rows _ (by rw [mSt_12, if_pos (Or.inl z1)])
    · rw [if_neg z1]
      by_cases z2 : na = 0
      · rw [if_pos (hz.mpr z2)]
        exact rows _ (by rw [mSt_12, if_pos (Or.inr z2)])
      · rw [if_neg (fun z => z2 (hz.mp z))]
        by_cases z3 : d 0 1 = 3
        · rw [if_pos z3]
          exact rows _ (by rw [mSt_12, if_neg (fun z => z.elim z1 z2), if_pos z3])
        · rw [if_neg z3]
          exact rows _ (by rw [mSt_12, if_neg (fun z => z.elim z1 z2), if_neg z3])
  obtain ⟨τ1, s1, s2, s3, s4⟩ := start
  have hpl0 : ∀ q, q < n → τ1 24 q = pV S (d 0 5) q 0 := by
    intro q hq
    rw [s4 q hq]
    unfold pV
    obtain ⟨c, t, l, hP⟩ := hPs q hq
    have h0 : pX S q 0 = -1 := by
      rw [pX_p hP]
      exact if_pos hP.2.2.2.2.2.2.2.2.1
    rw [h0]
    split <;> rfl
  unfold mDy
  have hs : ∀ (i : Nat) (q : Int32 × zS), i < M → (q.1 = nI (i + 1) ∧ Fr τ q.2 ∧ rD q.2 S na n (fo (fun i => mMi S na n (i + 1)) i (mSt na d)) ∧ ST na n B (fo (fun i => mMi S na n (i + 1)) i (mSt na d)) ∧ cfg na n nr (fo (fun i => mMi S na n (i + 1)) i (mSt na d)) ∧ (∀ p, p < n → q.2 24 p = pV S (d 0 5) p i) ∧ ∀ j, j ≠ 12 → j ≠ 13 → (fo (fun i => mMi S na n (i + 1)) i (mSt na d)) 0 j = d 0 j) → ∃ q', FX8_go_L117 0 (nI M) q.1 q.2 = some (.inl q') ∧ (q'.1 = nI (i + 1 + 1) ∧ Fr τ q'.2 ∧ rD q'.2 S na n (fo (fun i => mMi S na n (i + 1)) (i + 1) (mSt na d)) ∧ ST na n B (fo (fun i => mMi S na n (i + 1)) (i + 1) (mSt na d)) ∧ cfg na n nr (fo (fun i => mMi S na n (i + 1)) (i + 1) (mSt na d)) ∧ (∀ p, p < n → q'.2 24 p = pV S (d 0 5) p (i + 1)) ∧ ∀ j, j ≠ 12 → j ≠ 13 → (fo (fun i => mMi S na n (i + 1)) (i + 1) (mSt na d)) 0 j = d 0 j) := by
    intro i q hi ⟨q1, q2, q3, q4, q5, q6, q7⟩
    obtain ⟨x, τ2⟩ := q
    simp only at q1 q2 q3 q4 q5 q6 q7
    subst q1
    rw [fo_s]
    generalize fo (fun i => mMi S na n (i + 1)) i (mSt na d) = e at q3 q4 q5 q7 ⊢
    obtain ⟨τ3, m1, m2, m3, m4, m5, m6⟩ := gMi hS h3 q2 (by omega : 1 ≤ i + 1) (by omega : i + 1 ≤ 60) q3 q4 hB q5 (fun p hp => by rw [q7 5 (by decide) (by decide)]; exact q6 p hp)
    refine ⟨(nI (i + 1 + 1), τ3), ?_, rfl, m2, m3, m4, m5, fun p hp => by rw [← q7 5 (by decide) (by decide)]; exact m6 p hp, fun j h1 h2 => by rw [mMi_c h1 h2]; exact q7 j h1 h2⟩
    show FX8_go_L117 0 (nI M) (nI (i + 1)) τ2 = _
    unfold FX8_go_L117
    rw [if_neg (nI_nlt (by omega) (by omega)), m1, zbd_s, zlet_eq, nI_1]
  obtain ⟨⟨x, τ'⟩, g1, g2, g3, g4, g5, g6, g7, g8⟩ := zlp_ex (f := fun q : Int32 × zS => FX8_go_L117 0 (nI M) q.1 q.2) (fun i q => q.1 = nI (i + 1) ∧ Fr τ q.2 ∧ rD q.2 S na n (fo (fun i => mMi S na n (i + 1)) i (mSt na d)) ∧ ST na n B (fo (fun i => mMi S na n (i + 1)) i (mSt na d)) ∧ cfg na n nr (fo (fun i => mMi S na n (i + 1)) i (mSt na d)) ∧ (∀ p, p < n → q.2 24 p = pV S (d 0 5) p i) ∧ ∀ j, j ≠ 12 → j ≠ 13 → (fo (fun i => mMi S na n (i + 1)) i (mSt na d)) 0 j = d 0 j) (n := M) (a := (1, τ1)) ⟨rfl, s2, s3, hST, hcfg, hpl0, fun j h1 h2 => mSt_0 h1 h2⟩ hs
  simp only at g2 g3 g4 g5 g6 g7 g8
  subst g2
  refine ⟨τ', ?_, g3, g4, g5, g6, g7, g8⟩
  rw [s1]
  unfold FX8_go_b115
  rw [zlet_eq, g1]
  refine zlp_end ?_
  show FX8_go_L117 0 (nI M) (nI (M + 1)) τ' = _
  unfold FX8_go_L117 FX8_go_b133
  rw [if_pos (nI_lt (by omega) (by omega))]
  rfl
