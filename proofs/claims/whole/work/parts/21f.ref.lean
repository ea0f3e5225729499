theorem mCh_o {S d : zS} {n r k : Nat} {m : Int32} (h : k ≠ 7) (h1 : k ≠ 11) (h2 : k ≠ 12) : (mCh S n r m d).2.2 k = d k := by
  unfold mCh
  exact fo_inv (fun _ (t : Int32 × Int32 × zS) => t.2.2 k = d k) rfl (fun _ t _ ht => by rw [mCh1_o h h1 h2, ht])
/-- b) he follows, on both sides -/
theorem gFo {τ0 τ S d : zS} {na n nr m : Nat} (hS : rS τ0 S na n nr) (hF : Fr τ0 τ) (hD : rD τ S na n d) (hc : cfg na n nr d) :
    ∃ τ', FX8_minuteNow_b108 0 (nI m) τ = FX8_minuteNow_b140 0 (nI m) τ' ∧ Fr τ0 τ' ∧ rD τ' S na n (mFo S na n (nI m) d) ∧ (∀ q, q < n → τ' 24 q = τ 24 q) := by
  have hSt := hS.fr hF
  obtain ⟨⟨h10, -, -⟩, ⟨h8, hSn, e33⟩, ⟨h4, -, -⟩, -, -, hPs, -, -⟩ := id hSt
  obtain ⟨n1, -⟩ := hD.2.1
  have hC := hD.1
  unfold FX8_minuteNow_b108 mFo
  rcases hD.2.2.1 with h12 | ⟨e, he, h12⟩
  · rw [if_pos (by rw [n1, h12]), if_pos h12]
    refine ⟨τ, ?_, hF, hD, fun _ _ => rfl⟩
    unfold FX8_minuteNow_b125
    rw [zlet_eq, if_pos rfl]
  · have hm1 : ¬ nI e = -1 := nI_m1 (by omega)
    rw [if_neg (by rw [n1, h12]; exact hm1), if_neg (by rw [h12]; exact hm1)]
    -- the end of both ways
    have fin : ∀ (τ1 : zS) (d1 : zS), (∀ k, k ≠ 20 → k ≠ 21 → τ1 k = τ k) → (∀ k, k ≠ 7 → k ≠ 11 → k ≠ 12 → d1 k = d k) → ∀ w : Int32, (w = -1 ∨ ∃ p, p < n ∧ w = nI p ∧ ¬ d 4 p = -1) → ∃ τ', FX8_minuteNow_b125 0 (nI m) w τ1 = FX8_minuteNow_b140 0 (nI m) τ' ∧ Fr τ0 τ' ∧ rD τ' S na n (mFo1 S na w d1) ∧ (∀ q, q < n → τ' 24 q = τ 24 q) := by
      intro τ1 d1 hk hd w hw
      have hD1 : rD τ1 S na n d1 := (hD.ask hk).mdl hd
      have hS1 : rS τ1 S na n nr := hSt.fr (Fr.rf.ask hk)
      have hF1 : Fr τ0 τ1 := hF.ask hk
      have h24 : ∀ q, q < n → τ1 24 q = τ 24 q := fun q _ => by rw [hk 24 (by decide) (by decide)]
      unfold FX8_minuteNow_b125 mFo1
      rw [zlet_eq]
      rcases hw with hw | ⟨p, hp, hw, hin⟩
      · rw [if_pos hw, if_pos hw]
        exact ⟨τ1, rfl, hF1, hD1, h24⟩
      · subst hw
        have hp8 : p < 8 := by omega
        rw [if_neg (nI_m1 (by omega)), if_neg (nI_m1 (by omega)), rd_n hp8 (by decide)]
        have k4 : d1 4 p = d 4 p := by rw [hd 4 (by decide) (by decide) (by decide)]
        rw [if_neg (by rw [k4]; exact hin)]
        rcases hD1.2.2.2.2.2 p hp with ⟨w1, w2⟩ | ⟨i, a, hi, ha, w1, w2, w3⟩
        · rw [k4] at w2; exact absurd w2 hin
        · have e12 : d1 0 12 = nI e := by rw [hd 0 (by decide) (by decide) (by decide)]; exact h12
          have e51 : τ1 0 51 = nI e := by rw [hk 0 (by decide) (by decide), n1]; exact h12
          rw [gAi hp8 hi w1, zbd_s, w2, gNr hS1 he ha e51, zbd_s, w3, e12]
          exact ⟨_, rfl, hF1.up rfl, hD1.eye (mNr_oa he) rfl, fun q hq => by rw [zup_n (by decide)]; exact h24 q hq⟩
    rcases hc with ⟨c1, c2⟩ | ⟨c1, r, hr, c2⟩ | ⟨c1, w, hw, c2⟩ | ⟨c1, a, ha, c2⟩
    · rw [h12] at c2; exact absurd c2 hm1
    · rw [c1, c2, if_neg (show ¬ (1 : Int32) = 3 from by decide), if_pos rfl, nI_clamp (by omega)]
      obtain ⟨τ1, g1, g2, g3⟩ := gCh (m := m) hS hF hD c1 hr c2 he h12
      rw [g1, zbd_s]
      exact fin τ1 _ g2 (fun k k1 k2 k3 => mCh_o k1 k2 k3) _ g3
    · rw [c1, if_neg (show ¬ (2 : Int32) = 3 from by decide), if_neg (show ¬ (2 : Int32) = 1 from by decide), c2]
      have hw8 : w < 8 := by omega
      unfold FX8_followed FX8_followed_b27
      rw [if_pos (by rw [hC.1, c1]), hC.2.1, c2, gIn hw8, zbd_s]
      rcases hD.2.2.2.2.2 w hw with ⟨w1, w2⟩ | ⟨i, a, hi, ha, w1, w2, w3⟩
      · rw [decide_eq_true w1, if_pos (show b01 (!true) = 0 from rfl), zbd_s]
        obtain ⟨τ', g1, g2, g3, g4⟩ := fin τ d (fun _ _ _ => rfl) (fun _ _ _ _ => rfl) (-1) (Or.inl rfl)
        refine ⟨τ', g1, g2, ?_, g4⟩
        unfold mFo1 at g3 ⊢
        rw [if_pos rfl] at g3
        rw [if_neg (nI_m1 (by omega)), rd_n hw8 (by decide), if_pos w2]
        exact g3
      · rw [decide_eq_false (by rw [w1]; exact nI_pos (by omega)), if_neg (show ¬ b01 (!false) = 0 from by decide), hC.2.1, c2, zbd_s]
        exact fin τ d (fun _ _ _ => rfl) (fun _ _ _ _ => rfl) (nI w) (Or.inr ⟨w, hw, rfl, by rw [w3]; exact nI_m1 (by omega)⟩)
    · rw [c1, if_pos rfl]
      refine ⟨τ, ?_, hF, hD, fun _ _ => rfl⟩
      unfold FX8_followed
      rw [if_neg (by rw [hC.1, c1]; decide), zlet_eq, zlet_eq, zlet_eq]
      have : zlp (fun q : Int32 × Int32 × Int32 × zS => FX8_followed_L35 0 (nI m) q.1 q.2.1 q.2.2.1 q.2.2.2) (-1, 0, 0, τ) = some (-1, τ) := by
        refine zlp_end ?_
        show FX8_followed_L35 0 (nI m) (-1) 0 0 τ = _
        unfold FX8_followed_L35 FX8_followed_b245
        have e46 : ¬ τ 0 46 = 1 := by rw [hC.1, c1]; decide
        simp only [zlet_eq, zbd_s, zgd_t, zinr_s, Nat.zero_add, rn_3, rn_4, rn_5, rn_6, rn_7, rn_8, rn_9, rn_10, rn_11, rn_12, rn_13, rn_14, rn_15, rn_16, rn_17, rn_18, rn_19, rn_20, rn_21, rn_22, rn_23, rn_24, rn_25, rn_26, rn_27, rn_28, rn_29, rn_30, rn_31, rn_32, rn_33, rn_34, rn_35, rn_36, rn_37, rn_38, rn_39, rn_40, tn_0, tn_1, tn_2, tn_3, tn_4, tn_5, tn_6, tn_7, tn_8, zi_18_0, zi_18_1, zi_18_2, zi_18_3, zi_18_4, zi_18_5, zi_18_6, zi_18_7, zi_18_8, zi_7_0, zi_7_1, zi_7_2, zi_7_3, zi_7_4, zi_7_5, zi_7_6, zi_64_0, e33, if_neg e46]
        split <;> rfl
      rw [this, zbd_s]
      unfold FX8_minuteNow_b125
      rw [zlet_eq, if_pos rfl]
theorem mNo1_c {S d : zS} {en : Int32} {p : Nat} : mNo1 S en p d 0 = d 0 := by
  unfold mNo1
  split
  · split
    · exact zup_n (by decide)
    · rw [mNh_c, zup_n (by decide)]
  · split
    · exact zup_n (by decide)
    · rw [mNh_c, zup_n (by decide)]
/-- c) who notices him, on both sides -/
theorem gPb {τ S d : zS} {na n p : Nat} (h10 : na ≤ 10) (hp8 : p < 8) (hp : p < n) (hD : rD τ S na n d) : ∃ τ', FX8_putBack 0 (nI p) τ = some (0, τ') ∧ Fr τ τ' ∧ rD τ' S na n (if d 5 p = -1 then d else zup (mBck d (d 5 p)) 5 p (-1)) ∧ τ' 24 = τ 24 := by
  obtain ⟨hC, hN, hS, hA, hH, hW⟩ := id hD
  obtain ⟨hH1, hH2, hH3⟩ := hH p hp
  unfold FX8_putBack FX8_putBack_b25
  rcases hH3 with hn | ⟨a, ha, hv⟩
  · rw [if_pos hn]
    refine ⟨zup τ 25 p (-1), ?_, Fr.rf.up rfl, ?_, zup_n (by decide)⟩
    · simp only [zlet_eq, zbd_s, zgd_t, zinr_s, Nat.zero_add, rn_3, rn_4, rn_5, rn_6, rn_7, rn_8, rn_9, rn_10, rn_11, rn_12, rn_13, rn_14, rn_15, rn_16, rn_17, rn_18, rn_19, rn_20, rn_21, rn_22, rn_23, rn_24, rn_25, rn_26, rn_27, rn_28, rn_29, rn_30, rn_31, rn_32, rn_33, rn_34, rn_35, rn_36, rn_37, rn_38, rn_39, rn_40, tn_0, tn_1, tn_2, tn_3, tn_4, tn_5, tn_6, tn_7, tn_8, zi_18_0, zi_18_1, zi_18_2, zi_18_3, zi_18_4, zi_18_5, zi_18_6, zi_18_7, zi_18_8, zi_7_0, zi_7_1, zi_7_2, zi_7_3, zi_7_4, zi_7_5, zi_7_6, zi_64_0, zin_n _ hp8 (by decide : 8 < 2 ^ 31), nI_clamp (by omega : p < 2 ^ 31), hH1, hn, if_true]
    · rw [zup_same (by rw [hH1, hn])]
      exact hD
  · have c0 : ¬ nI a = -1 := nI_m1 (by omega)
    rw [hv, if_neg c0, mBck_n (by omega)]
    refine ⟨zup (zup τ 23 a (τ 23 a + 1)) 25 p (-1), ?_, (Fr.rf.up rfl).up rfl, (hD.stock (by rw [hA a ha])).thing (Or.inl rfl) rfl, by rw [zup_n (by decide), zup_n (by decide)]⟩
    simp only [zlet_eq, zbd_s, zgd_t, zinr_s, Nat.zero_add, rn_3, rn_4, rn_5, rn_6, rn_7, rn_8, rn_9, rn_10, rn_11, rn_12, rn_13, rn_14, rn_15, rn_16, rn_17, rn_18, rn_19, rn_20, rn_21, rn_22, rn_23, rn_24, rn_25, rn_26, rn_27, rn_28, rn_29, rn_30, rn_31, rn_32, rn_33, rn_34, rn_35, rn_36, rn_37, rn_38, rn_39, rn_40, tn_0, tn_1, tn_2, tn_3, tn_4, tn_5, tn_6, tn_7, tn_8, zi_18_0, zi_18_1, zi_18_2, zi_18_3, zi_18_4, zi_18_5, zi_18_6, zi_18_7, zi_18_8, zi_7_0, zi_7_1, zi_7_2, zi_7_3, zi_7_4, zi_7_5, zi_7_6, zi_64_0, zin_n _ hp8 (by decide : 8 < 2 ^ 31), zin_n _ (by omega : a < 10) (by decide : 10 < 2 ^ 31), nI_clamp (by omega : p < 2 ^ 31), nI_clamp (by omega : a < 2 ^ 31), hH1, hv, if_neg c0]
theorem gNo {τ0 τ S d : zS} {na n nr m : Nat} (hS : rS τ0 S na n nr) (hF : Fr τ0 τ) (hD : rD τ S na n d) (h3 : 0 < S 0 3) :
    ∃ τ', FX8_minuteNow_b140 0 (nI m) τ = FX8_minuteNow_b263 0 (nI m) τ' ∧ Fr τ0 τ' ∧ rD τ' S na n (mNo S n d) ∧ (∀ q, q < n → τ' 24 q = τ 24 q) := by
  obtain ⟨⟨h10, -, -⟩, ⟨h8, hSn, -⟩, -⟩ := id hS
  unfold FX8_minuteNow_b140 mNo
  rw [zlet_eq]
  have hs : ∀ (p : Nat) (τ1 d1 : zS), p < n → (Fr τ0 τ1 ∧ rD τ1 S na n d1 ∧ d1 0 = d 0 ∧ τ1 24 = τ 24) → ∃ τ', FX8_minuteNow_L142 0 (nI m) (nI p) τ1 = some (.inl (nI (p + 1), τ')) ∧ (Fr τ0 τ' ∧ rD τ' S na n (mNo1 S (if d 0 3 = 1 then 1 else S 0 3) p d1) ∧ mNo1 S (if d 0 3 = 1 then 1 else S 0 3) p d1 0 = d 0 ∧ τ' 24 = τ 24) := by
    intro p τ1 d1 hp ⟨hF1, hD1, hd0, h24⟩
    have hp8 : p < 8 := by omega
    have hSt := hS.fr hF1
    obtain ⟨-, ⟨-, -, e33⟩, -, ⟨e35, -⟩, -, hPs, -, -⟩ := id hSt
    obtain ⟨c, t, l, hP⟩ := hPs p hp
    have e8 := hP.1
    obtain ⟨n1, n2, n3, n4, n5, n6, n7, n8, n9⟩ := hD1.2.1
    have e48 := hD1.1.2.2.1
    have hHp := hD1.2.2.2.2.1 p hp
    have he0 : 0 < (if d 0 3 = 1 then 1 else S 0 3) := by
      split
      · decide
      · exact h3
    have hc0 : mNo1 S (if d 0 3 = 1 then 1 else S 0 3) p d1 0 = d 0 := by
      rw [← hd0]
      exact mNo1_c
    have out : (¬ (¬ d1 0 12 = -1 ∧ d1 4 p = d1 0 12 ∧ S 8 p = 1)) → FX8_minuteNow_L142 0 (nI m) (nI p) τ1 = some (.inl (nI (p + 1), zup τ1 26 p 0)) := by
      intro hno
      unfold FX8_minuteNow_L142 FX8_minuteNow_b190 FX8_minuteNow_b257
      rcases hD1.2.2.2.2.2 p hp with ⟨w1, w2⟩ | ⟨i, a, hi, ha, w1, w2, w3⟩
      · simp only [zlet_eq, zbd_s, zgd_t, zinr_s, Nat.zero_add, rn_3, rn_4, rn_5, rn_6, rn_7, rn_8, rn_9, rn_10, rn_11, rn_12, rn_13, rn_14, rn_15, rn_16, rn_17, rn_18, rn_19, rn_20, rn_21, rn_22, rn_23, rn_24, rn_25, rn_26, rn_27, rn_28, rn_29, rn_30, rn_31, rn_32, rn_33, rn_34, rn_35, rn_36, rn_37, rn_38, rn_39, rn_40, tn_0, tn_1, tn_2, tn_3, tn_4, tn_5, tn_6, tn_7, tn_8, zi_18_0, zi_18_1, zi_18_2, zi_18_3, zi_18_4, zi_18_5, zi_18_6, zi_18_7, zi_18_8, zi_7_0, zi_7_1, zi_7_2, zi_7_3, zi_7_4, zi_7_5, zi_7_6, zi_64_0, e33, if_neg (nI_ge hp (by omega : n < 2 ^ 31)), gIn hp8, w1, decide_true, Bool.not_true, b01_f, if_true, zin_n _ hp8 (by decide : 8 < 2 ^ 31), nI_clamp (by omega : p < 2 ^ 31), nI_1]
      · have hneg : ¬ nI i < 0 := nI_pos (by omega)
        simp only [zlet_eq, zbd_s, zgd_t, zinr_s, Nat.zero_add, rn_3, rn_4, rn_5, rn_6, rn_7, rn_8, rn_9, rn_10, rn_11, rn_12, rn_13, rn_14, rn_15, rn_16, rn_17, rn_18, rn_19, rn_20, rn_21, rn_22, rn_23, rn_24, rn_25, rn_26, rn_27, rn_28, rn_29, rn_30, rn_31, rn_32, rn_33, rn_34, rn_35, rn_36, rn_37, rn_38, rn_39, rn_40, tn_0, tn_1, tn_2, tn_3, tn_4, tn_5, tn_6, tn_7, tn_8, zi_18_0, zi_18_1, zi_18_2, zi_18_3, zi_18_4, zi_18_5, zi_18_6, zi_18_7, zi_18_8, zi_7_0, zi_7_1, zi_7_2, zi_7_3, zi_7_4, zi_7_5, zi_7_6, zi_64_0, e33, if_neg (nI_ge hp (by omega : n < 2 ^ 31)), gIn hp8, w1, hneg, decide_false, Bool.not_false, b01_t, show ¬ (1 : Int32) = 0 from by decide, if_false, zin_n _ hp8 (by decide : 8 < 2 ^ 31), zin_n _ (by omega : p < 16) (by decide : 16 < 2 ^ 31), nI_clamp (by omega : p < 2 ^ 31), e8, n1, gAi hp8 hi w1, w2, nI_1]
        by_cases c1 : S 8 p = 1
        · by_cases c2 : d1 0 12 = -1
          · rw [if_pos c1, if_pos c2]
          · rw [if_pos c1, if_neg c2, if_neg (fun z => hno ⟨c2, by rw [w3, z], c1⟩)]
        · rw [if_neg c1]
    unfold mNo1 at hc0 ⊢
    by_cases hno : ¬ d1 0 12 = -1 ∧ d1 4 p = d1 0 12 ∧ S 8 p = 1
    · obtain ⟨k1, k2, k3⟩ := hno
      rw [if_pos ⟨k1, k2, k3⟩] at hc0 ⊢
      rcases hD1.2.2.2.2.2 p hp with ⟨w1, w2⟩ | ⟨i, a, hi, ha, w1, w2, w3⟩
      · rw [w2] at k2; exact absurd k2.symm k1
      · have hneg : ¬ nI i < 0 := nI_pos (by omega)
        have ka : nI a = d1 0 12 := by rw [← w3, k2]
        have hDb : rD (zup τ1 26 p (d1 6 p + 1)) S na n (zup d1 6 p (d1 6 p + 1)) := hD1.beside rfl
        have go : ∀ en : Int32, FX8_minuteNow_b234 0 (nI m) (nI p) (d1 6 p + 1) en (zup τ1 26 p (d1 6 p + 1)) = if d1 6 p + 1 < en then some (.inl (nI (p + 1), zup τ1 26 p (d1 6 p + 1))) else zbd (FX8_putBack 0 (nI p) (zup (zup τ1 26 p (d1 6 p + 1)) 0 54 (τ1 0 54 ||| sb p))) (fun _ σ => some (.inl (nI (p + 1), σ))) := by
          intro en
          unfold FX8_minuteNow_b234 FX8_minuteNow_b257
          simp only [zlet_eq, zbd_s, zgd_t, zinr_s, Nat.zero_add, rn_3, rn_4, rn_5, rn_6, rn_7, rn_8, rn_9, rn_10, rn_11, rn_12, rn_13, rn_14, rn_15, rn_16, rn_17, rn_18, rn_19, rn_20, rn_21, rn_22, rn_23, rn_24, rn_25, rn_26, rn_27, rn_28, rn_29, rn_30, rn_31, rn_32, rn_33, rn_34, rn_35, rn_36, rn_37, rn_38, rn_39, rn_40, tn_0, tn_1, tn_2, tn_3, tn_4, tn_5, tn_6, tn_7, tn_8, zi_18_0, zi_18_1, zi_18_2, zi_18_3, zi_18_4, zi_18_5, zi_18_6, zi_18_7, zi_18_8, zi_7_0, zi_7_1, zi_7_2, zi_7_3, zi_7_4, zi_7_5, zi_7_6, zi_64_0, nI_1]
          by_cases ce : en ≤ d1 6 p + 1
          · rw [if_pos ce, if_neg (show ¬ d1 6 p + 1 < en from by rw [fa_le] at ce; rw [fa_lt]; omega)]
            rfl
          · rw [if_neg ce, if_pos (show d1 6 p + 1 < en from by rw [fa_le] at ce; rw [fa_lt]; omega)]
        have base : FX8_minuteNow_L142 0 (nI m) (nI p) τ1 = FX8_minuteNow_b234 0 (nI m) (nI p) (d1 6 p + 1) (if d 0 3 = 1 then 1 else S 0 3) (zup τ1 26 p (d1 6 p + 1)) := by
          have hb6 : τ1 26 p = d1 6 p := hHp.2.1
          have e3 : zup τ1 26 p (d1 6 p + 1) 26 p = d1 6 p + 1 := by rw [zup_at, if_pos ⟨rfl, rfl⟩]
          have e48' : zup τ1 26 p (d1 6 p + 1) 0 48 = d 0 3 := by rw [zup_n (by decide), e48, hd0]
          unfold FX8_minuteNow_L142
          simp only [zlet_eq, zbd_s, zgd_t, zinr_s, Nat.zero_add, rn_3, rn_4, rn_5, rn_6, rn_7, rn_8, rn_9, rn_10, rn_11, rn_12, rn_13, rn_14, rn_15, rn_16, rn_17, rn_18, rn_19, rn_20, rn_21, rn_22, rn_23, rn_24, rn_25, rn_26, rn_27, rn_28, rn_29, rn_30, rn_31, rn_32, rn_33, rn_34, rn_35, rn_36, rn_37, rn_38, rn_39, rn_40, tn_0, tn_1, tn_2, tn_3, tn_4, tn_5, tn_6, tn_7, tn_8, zi_18_0, zi_18_1, zi_18_2, zi_18_3, zi_18_4, zi_18_5, zi_18_6, zi_18_7, zi_18_8, zi_7_0, zi_7_1, zi_7_2, zi_7_3, zi_7_4, zi_7_5, zi_7_6, zi_64_0, e33, if_neg (nI_ge hp (by omega : n < 2 ^ 31)), gIn hp8, w1, hneg, decide_false, Bool.not_false, b01_t, show ¬ (1 : Int32) = 0 from by decide, if_false, zin_n _ hp8 (by decide : 8 < 2 ^ 31), zin_n _ (by omega : p < 16) (by decide : 16 < 2 ^ 31), nI_clamp (by omega : p < 2 ^ 31), e8, n1, k1, gAi hp8 hi w1, w2, ka, k3, if_true, hb6, e3, e48', zup_n (by decide : 3 ≠ 26), e35]
          by_cases c : d 0 3 = 1
          · rw [if_pos c, if_pos c]
          · rw [if_neg c, if_neg c]
        rw [base, go]
        by_cases cl : d1 6 p + 1 < (if d 0 3 = 1 then 1 else S 0 3)
        · rw [if_pos cl] at hc0 ⊢
          rw [if_pos cl]
          exact ⟨_, rfl, hF1.up rfl, hDb, hc0, by rw [zup_n (by decide)]; exact h24⟩
        · rw [if_neg cl] at hc0 ⊢
          rw [if_neg cl]
          have hDn : rD (zup (zup τ1 26 p (d1 6 p + 1)) 0 54 (τ1 0 54 ||| sb p)) S na n (mMrk (zup d1 6 p (d1 6 p + 1)) 6 p) := hDb.notd (by rw [zup_n (by decide), n4])
          obtain ⟨τ2, g1, g2, g3, g4⟩ := gPb h10 hp8 hp hDn
          refine ⟨τ2, by rw [g1]; rfl, (hF1.up rfl |>.up rfl).tr g2, ?_, hc0, by rw [g4, zup_n (by decide), zup_n (by decide)]; exact h24⟩
          rw [mMrk_o (by decide), zup_n (by decide)] at g3
          unfold mNh
          rw [zup_n (by decide)]
          exact g3
    · rw [if_neg hno, if_pos he0] at hc0 ⊢
      exact ⟨_, out hno, hF1.up rfl, hD1.beside rfl, hc0, by rw [zup_n (by decide)]; exact h24⟩
  obtain ⟨τ', h1, ⟨h2, h3, h4, h5⟩⟩ := zlp_rel (f := fun q => FX8_minuteNow_L142 0 (nI m) q.1 q.2) (fun p τ1 d1 => Fr τ0 τ1 ∧ rD τ1 S na n d1 ∧ d1 0 = d 0 ∧ τ1 24 = τ 24) (mNo1 S (if d 0 3 = 1 then 1 else S 0 3)) (n := n) (τ := τ) (d := d) ⟨hF, hD, rfl, rfl⟩ hs
  refine ⟨τ', ?_, h2, h3, fun q _ => by rw [h5]⟩
  rw [h1]
  refine zlp_exit ?_
  have e3 := (hS.fr h2).2.1.2.2
  show FX8_minuteNow_L142 0 (nI m) (nI n) τ' = _
  unfold FX8_minuteNow_L142
  simp only [zlet_eq, zbd_s, zgd_t, zinr_s, Nat.zero_add, rn_3, rn_4, rn_5, rn_6, rn_7, rn_8, rn_9, rn_10, rn_11, rn_12, rn_13, rn_14, rn_15, rn_16, rn_17, rn_18, rn_19, rn_20, rn_21, rn_22, rn_23, rn_24, rn_25, rn_26, rn_27, rn_28, rn_29, rn_30, rn_31, rn_32, rn_33, rn_34, rn_35, rn_36, rn_37, rn_38, rn_39, rn_40, tn_0, tn_1, tn_2, tn_3, tn_4, tn_5, tn_6, tn_7, tn_8, zi_18_0, zi_18_1, zi_18_2, zi_18_3, zi_18_4, zi_18_5, zi_18_6, zi_18_7, zi_18_8, zi_7_0, zi_7_1, zi_7_2, zi_7_3, zi_7_4, zi_7_5, zi_7_6, zi_64_0, e3, if_pos (nI_le (Nat.le_refl n) (by omega : n < 2 ^ 31))]
