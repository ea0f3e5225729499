theorem sub1_eq (x y z : Int32) : x - y + 1 = z ↔ x + 1 = y + z := by
  constructor
  · intro h; grind
  · intro h; grind
theorem ST.tk1 {S d : zS} {na n B p : Nat} {m : Int32} (h : ST na n B d) (hp : p < n) (hna : na ≤ 10) (hB : B < 2 ^ 30) (h4 : oa na (d 4 p)) : ST na n B (mTk1 S m p d) := by
  unfold mTk1
  split
  · next hc =>
    obtain ⟨k1, k2, k3, k4⟩ := hc
    rcases h4 with h4 | ⟨a, ha, h4⟩
    · exact absurd h4 k1
    · rw [h4, rd_n (by omega) (by decide)] at k4
      rw [h4, rd_n (by omega) (by decide), pt_n (by omega) (by decide)]
      have g := h.take hp hna hB ha k4
      split
      · exact (g.cong (mMrk_o (by decide)) (mMrk_o (by decide))).cong (zup_n (by decide)) (zup_n (by decide))
      · exact g
  · exact h
theorem mTk1_o {S d : zS} {p k : Nat} {m : Int32} (h3 : k ≠ 3) (h5 : k ≠ 5) (h8 : k ≠ 8) (h0 : k ≠ 0) : mTk1 S m p d k = d k := by
  unfold mTk1
  split
  · split
    · rw [zup_n h0, mMrk_o h8, zup_n h5, pt_o h3]
    · rw [zup_n h5, pt_o h3]
  · rfl
theorem mTks_p {τ S : zS} {na p c t l m : Nat} (hp : p < 8) (hm : m ≤ 60) (h : rP τ S na p c t l) : mTks S (nI p) (nI m) = (!decide (t = 0) && decide (m + 1 = c + t)) := by
  obtain ⟨-, -, -, -, -, h1, h7, h2, h3, h4, h5, h6, h8, -⟩ := h
  unfold mTks
  rw [rd_n hp (by decide), rd_n hp (by decide), h1, h7, nI_add]
  obtain ⟨k, rfl⟩ : ∃ k, c = k + 1 := ⟨c - 1, by omega⟩
  rw [show k + 1 + t = (k + t) + 1 from by omega, nI_pred]
  congr 1
  · congr 1
    by_cases c0 : t = 0
    · subst c0; rfl
    · rw [decide_eq_false (nI_nle (by omega) (by omega)), decide_eq_false c0]
  · rw [decide_eq_decide, nI_eq (by omega) (by omega)]
    omega
/-- d) who takes, on both sides -/
theorem gTk {τ0 τ S d : zS} {na n nr m B : Nat} (hS : rS τ0 S na n nr) (hF : Fr τ0 τ) (hm0 : 1 ≤ m) (hm : m ≤ 60) (hD : rD τ S na n d) (hST : ST na n B d) (hB : B < 2 ^ 30) :
    ∃ τ', FX8_minuteNow_b263 0 (nI m) τ = FX8_minuteNow_b402 0 τ' ∧ Fr τ0 τ' ∧ rD τ' S na n (mTk S (nI m) n d) ∧ τ' 24 = τ 24 ∧ ST na n B (mTk S (nI m) n d) := by
  obtain ⟨⟨h10, -, -⟩, ⟨h8, hSn, -⟩, -⟩ := id hS
  unfold FX8_minuteNow_b263 mTk
  rw [zlet_eq]
  have hs : ∀ (p : Nat) (τ1 d1 : zS), p < n → (Fr τ0 τ1 ∧ rD τ1 S na n d1 ∧ τ1 24 = τ 24 ∧ ST na n B d1) → ∃ τ', FX8_minuteNow_L265 0 (nI m) (nI p) τ1 = some (.inl (nI (p + 1), τ')) ∧ (Fr τ0 τ' ∧ rD τ' S na n (mTk1 S (nI m) p d1) ∧ τ' 24 = τ 24 ∧ ST na n B (mTk1 S (nI m) p d1)) := by
    intro p τ1 d1 hp ⟨hF1, hD1, h24, hT⟩
    have hp8 : p < 8 := by omega
    have hSt := hS.fr hF1
    obtain ⟨-, ⟨-, -, e33⟩, -, -, -, hPs, -, -⟩ := id hSt
    obtain ⟨c, t, l, hP⟩ := hPs p hp
    have hmT := mTks_p hp8 hm hP
    obtain ⟨g8, g9, g10, -, -, f9, f10, f12, q1, q2, q3, q4, q5, -⟩ := id hP
    obtain ⟨n1, n2, n3, n4, n5, n6, n7, n8, n9⟩ := hD1.2.1
    have hA := hD1.2.2.2.1
    have hW := hD1.2.2.2.2.2 p hp
    have h4 : oa na (d1 4 p) := by
      rcases hW with h | ⟨i, a, h1, h2, h3, h4, h5⟩
      · exact Or.inl h.2
      · exact Or.inr ⟨a, h2, h5⟩
    have hT' := hT.tk1 (S := S) (m := nI m) hp h10 hB h4
    unfold mTk1 at hT' ⊢
    rcases hW with ⟨w1, w2⟩ | ⟨i, a, hi, ha, w1, w2, w3⟩
    · rw [if_neg (fun z => z.1 w2)] at hT' ⊢
      refine ⟨τ1, ?_, hF1, hD1, h24, hT'⟩
      unfold FX8_minuteNow_L265 FX8_minuteNow_b396
      simp only [zlet_eq, zbd_s, zgd_t, zinr_s, Nat.zero_add, rn_3, rn_4, rn_5, rn_6, rn_7, rn_8, rn_9, rn_10, rn_11, rn_12, rn_13, rn_14, rn_15, rn_16, rn_17, rn_18, rn_19, rn_20, rn_21, rn_22, rn_23, rn_24, rn_25, rn_26, rn_27, rn_28, rn_29, rn_30, rn_31, rn_32, rn_33, rn_34, rn_35, rn_36, rn_37, rn_38, rn_39, rn_40, tn_0, tn_1, tn_2, tn_3, tn_4, tn_5, tn_6, tn_7, tn_8, zi_18_0, zi_18_1, zi_18_2, zi_18_3, zi_18_4, zi_18_5, zi_18_6, zi_18_7, zi_18_8, zi_7_0, zi_7_1, zi_7_2, zi_7_3, zi_7_4, zi_7_5, zi_7_6, zi_64_0, e33, if_neg (nI_ge hp (by omega : n < 2 ^ 31)), gIn hp8, w1, decide_true, Bool.not_true, b01_f, if_true, nI_1]
    · have hneg : ¬ nI i < 0 := nI_pos (by omega)
      have h4n : ¬ d1 4 p = -1 := by rw [w3]; exact nI_m1 (by omega)
      have et : (τ1 10 p = 0) ↔ t = 0 := by rw [g10, f10]; exact nI_eq (b := 0) (by omega) (by omega)
      have es : (nI m - τ1 9 p + 1 = τ1 10 p) ↔ m + 1 = c + t := by
        rw [g9, f9, g10, f10]
        rw [sub1_eq, nI_1, nI_add]
        exact nI_eq (by omega) (by omega)
      have hse : τ1 0 51 = d1 0 12 := n1
      have base : FX8_minuteNow_L265 0 (nI m) (nI p) τ1 = if (¬ t = 0 ∧ m + 1 = c + t) ∧ bt (d1 8 6) p = false ∧ ¬ τ1 23 a = 0 then zbd (FX8_isSeen 0 (nI a) (zup (zup τ1 23 a (τ1 23 a - 1)) 25 p (nI a))) (fun r σ => if r = 0 then some (.inl (nI (p + 1), σ)) else some (.inl (nI (p + 1), zup (zup σ 0 52 (σ 0 52 ||| sb p)) 0 53 (zup σ 0 52 (σ 0 52 ||| sb p) 0 53 ||| sb p)))) else some (.inl (nI (p + 1), τ1)) := by
        unfold FX8_minuteNow_L265 FX8_minuteNow_b396
        simp only [zlet_eq, zbd_s, zgd_t, zinr_s, Nat.zero_add, rn_3, rn_4, rn_5, rn_6, rn_7, rn_8, rn_9, rn_10, rn_11, rn_12, rn_13, rn_14, rn_15, rn_16, rn_17, rn_18, rn_19, rn_20, rn_21, rn_22, rn_23, rn_24, rn_25, rn_26, rn_27, rn_28, rn_29, rn_30, rn_31, rn_32, rn_33, rn_34, rn_35, rn_36, rn_37, rn_38, rn_39, rn_40, tn_0, tn_1, tn_2, tn_3, tn_4, tn_5, tn_6, tn_7, tn_8, zi_18_0, zi_18_1, zi_18_2, zi_18_3, zi_18_4, zi_18_5, zi_18_6, zi_18_7, zi_18_8, zi_7_0, zi_7_1, zi_7_2, zi_7_3, zi_7_4, zi_7_5, zi_7_6, zi_64_0, e33, if_neg (nI_ge hp (by omega : n < 2 ^ 31)), gIn hp8, w1, hneg, decide_false, Bool.not_false, b01_t, show ¬ (1 : Int32) = 0 from by decide, if_false, zin_n _ (by omega : p < 16) (by decide : 16 < 2 ^ 31), zin_n _ hp8 (by decide : 8 < 2 ^ 31), nI_clamp (by omega : p < 2 ^ 31), gSc hp8, et, es, n4, fisOf _ (Nat.lt_trans hp8 (by decide : 8 < 32)), b01_eq0, gAi hp8 hi w1, w2, zin_n _ (by omega : a < 10) (by decide : 10 < 2 ^ 31), nI_clamp (by omega : a < 2 ^ 31), nI_1]
        by_cases k1 : t = 0
        · rw [if_pos k1, if_neg (fun z => z.1.1 k1)]
        · by_cases k2 : m + 1 = c + t
          · cases k3 : bt (d1 8 6) p
            · by_cases k4 : τ1 23 a = 0
              · rw [if_neg k1, if_pos k2, if_pos rfl, if_pos k4, if_neg (fun z => z.2.2 k4)]
              · rw [if_neg k1, if_pos k2, if_pos rfl, if_neg k4, if_pos ⟨⟨k1, k2⟩, rfl, k4⟩]
                rfl
            · rw [if_neg k1, if_pos k2, if_neg (by decide), if_neg (fun z => by cases z.2.1)]
          · rw [if_neg k1, if_neg k2, if_neg (fun z => k2 z.1.2)]
      obtain ⟨s, hs1, hs2⟩ := hT a ha
      have hs30 : s < 2 ^ 30 := by omega
      have ep : (0 < rd 10 (d1 3) (d1 4 p)) ↔ ¬ τ1 23 a = 0 := by
        rw [w3, rd_n (by omega) (by decide), hA a ha, hs1]
        constructor
        · intro z z2
          rw [z2] at z
          exact absurd z (by decide)
        · intro z
          have : s ≠ 0 := fun z2 => z (by rw [z2]; rfl)
          exact nI_lt (a := 0) (by omega) (by omega)
      have ec : (¬ d1 4 p = -1 ∧ mTks S (nI p) (nI m) = true ∧ bt (d1 8 6) p = false ∧ 0 < rd 10 (d1 3) (d1 4 p)) ↔ ((¬ t = 0 ∧ m + 1 = c + t) ∧ bt (d1 8 6) p = false ∧ ¬ τ1 23 a = 0) := by
        rw [hmT, ep]
        simp only [Bool.and_eq_true, Bool.not_eq_true', decide_eq_false_iff_not, decide_eq_true_eq]
        exact ⟨fun z => ⟨z.2.1, z.2.2⟩, fun z => ⟨h4n, z.1, z.2⟩⟩
      rw [base]
      by_cases hc : (¬ t = 0 ∧ m + 1 = c + t) ∧ bt (d1 8 6) p = false ∧ ¬ τ1 23 a = 0
      · rw [if_pos (ec.mpr hc)] at hT' ⊢
        rw [if_pos hc]
        rw [w3, rd_n (by omega) (by decide), pt_n (by omega) (by decide)] at hT' ⊢
        have hD2 : rD (zup (zup τ1 23 a (τ1 23 a - 1)) 25 p (nI a)) S na n (zup (zup d1 3 a (d1 3 a - 1)) 5 p (nI a)) := (hD1.stock (by rw [hA a ha])).thing (Or.inr ⟨a, ha, rfl⟩) rfl
        have hse2 : mSe (zup (zup d1 3 a (d1 3 a - 1)) 5 p (nI a)) (nI a) = mSe d1 (nI a) := mSe_o (by rw [zup_n (by decide), zup_n (by decide)]) (by rw [zup_n (by decide), zup_n (by decide)])
        have hseen := gSe h10 hD2.2.1.1 hD2.2.2.1 (fun a ha => (hD2.1.2.2.2.2.1 a ha).2) ha
        rw [hse2] at hseen
        rw [hseen, zbd_s]
        cases hb : mSe d1 (nI a)
        · rw [if_pos (show b01 false = 0 from rfl)]
          rw [if_neg (show ¬ mSe d1 (nI a) = true from by rw [hb]; decide)] at hT'
          rw [if_neg (by decide)]
          exact ⟨_, rfl, (hF1.up rfl).up rfl, hD2, by rw [zup_n (by decide), zup_n (by decide)]; exact h24, hT'⟩
        · rw [if_neg (show ¬ b01 true = 0 from by decide)]
          rw [if_pos hb] at hT'
          rw [if_pos rfl]
          refine ⟨_, rfl, (((hF1.up rfl).up rfl).up rfl).up rfl, ?_, by rw [zup_n (by decide), zup_n (by decide), zup_n (by decide), zup_n (by decide)]; exact h24, hT'⟩
          refine rD.sight (rD.took hD2 ?_) ?_
          · rw [zup_n (by decide), zup_n (by decide), n2, zup_n (by decide), zup_n (by decide)]
          · rw [zup_at, if_neg (by decide), zup_n (by decide), zup_n (by decide), n3]
      · rw [if_neg (fun z => hc (ec.mp z))] at hT' ⊢
        rw [if_neg hc]
        exact ⟨τ1, rfl, hF1, hD1, h24, hT'⟩
  obtain ⟨τ', h1, ⟨h2, h3, h4, h5⟩⟩ := zlp_rel (f := fun q => FX8_minuteNow_L265 0 (nI m) q.1 q.2) (fun p τ1 d1 => Fr τ0 τ1 ∧ rD τ1 S na n d1 ∧ τ1 24 = τ 24 ∧ ST na n B d1) (mTk1 S (nI m)) (n := n) (τ := τ) (d := d) ⟨hF, hD, rfl, hST⟩ hs
  refine ⟨τ', ?_, h2, h3, h4, h5⟩
  rw [h1]
  refine zlp_exit ?_
  have e3 := (hS.fr h2).2.1.2.2
  show FX8_minuteNow_L265 0 (nI m) (nI n) τ' = _
  unfold FX8_minuteNow_L265
  simp only [zlet_eq, zbd_s, zgd_t, zinr_s, Nat.zero_add, rn_3, rn_4, rn_5, rn_6, rn_7, rn_8, rn_9, rn_10, rn_11, rn_12, rn_13, rn_14, rn_15, rn_16, rn_17, rn_18, rn_19, rn_20, rn_21, rn_22, rn_23, rn_24, rn_25, rn_26, rn_27, rn_28, rn_29, rn_30, rn_31, rn_32, rn_33, rn_34, rn_35, rn_36, rn_37, rn_38, rn_39, rn_40, tn_0, tn_1, tn_2, tn_3, tn_4, tn_5, tn_6, tn_7, tn_8, zi_18_0, zi_18_1, zi_18_2, zi_18_3, zi_18_4, zi_18_5, zi_18_6, zi_18_7, zi_18_8, zi_7_0, zi_7_1, zi_7_2, zi_7_3, zi_7_4, zi_7_5, zi_7_6, zi_64_0, e3, if_pos (nI_le (Nat.le_refl n) (by omega : n < 2 ^ 31))]
/-- e) who is lost out of sight, on both sides -/
theorem gLo {τ0 τ S d : zS} {na n nr : Nat} (hS : rS τ0 S na n nr) (hF : Fr τ0 τ) (hD : rD τ S na n d) :
    ∃ τ', FX8_minuteNow_b402 0 τ = some (0, τ') ∧ Fr τ0 τ' ∧ rD τ' S na n (mLo n d) ∧ τ' 24 = τ 24 := by
  obtain ⟨⟨h10, -, -⟩, ⟨h8, hSn, -⟩, -⟩ := id hS
  unfold FX8_minuteNow_b402 mLo
  rw [zlet_eq]
  have hs : ∀ (p : Nat) (τ1 d1 : zS), p < n → (Fr τ0 τ1 ∧ rD τ1 S na n d1 ∧ τ1 24 = τ 24) → ∃ τ', FX8_minuteNow_L404 0 (nI p) τ1 = some (.inl (nI (p + 1), τ')) ∧ (Fr τ0 τ' ∧ rD τ' S na n (mLo1 p d1) ∧ τ' 24 = τ 24) := by
    intro p τ1 d1 hp ⟨hF1, hD1, h24⟩
    have hp8 : p < 8 := by omega
    have hSt := hS.fr hF1
    obtain ⟨-, ⟨-, -, e33⟩, -⟩ := id hSt
    obtain ⟨n1, n2, n3, n4, n5, n6, n7, n8, n9⟩ := hD1.2.1
    unfold mLo1
    rcases hD1.2.2.2.2.2 p hp with ⟨w1, w2⟩ | ⟨i, a, hi, ha, w1, w2, w3⟩
    · have hse : ¬ mSe d1 (d1 4 p) = true := by
        rw [w2]
        unfold mSe
        rcases hD1.2.2.1 with z | ⟨e, he, z⟩
        · rw [z, decide_eq_true rfl]
          simp
        · rw [z, decide_eq_false (nI_m1 (by omega : e < 2 ^ 31)), decide_eq_false (fun q => nI_m1 (by omega : e < 2 ^ 31) q.symm), decide_eq_true (show (-1 : Int32) < 0 from by decide)]
          simp
      rw [if_neg hse]
      refine ⟨zup τ1 0 53 (τ1 0 53 &&& (sb p ^^^ (-1))), ?_, hF1.up rfl, hD1.sight (by rw [n3]), by rw [zup_n (by decide)]; exact h24⟩
      unfold FX8_minuteNow_L404 FX8_minuteNow_b434 FX8_minuteNow_b448
      simp only [zlet_eq, zbd_s, zgd_t, zinr_s, Nat.zero_add, rn_3, rn_4, rn_5, rn_6, rn_7, rn_8, rn_9, rn_10, rn_11, rn_12, rn_13, rn_14, rn_15, rn_16, rn_17, rn_18, rn_19, rn_20, rn_21, rn_22, rn_23, rn_24, rn_25, rn_26, rn_27, rn_28, rn_29, rn_30, rn_31, rn_32, rn_33, rn_34, rn_35, rn_36, rn_37, rn_38, rn_39, rn_40, tn_0, tn_1, tn_2, tn_3, tn_4, tn_5, tn_6, tn_7, tn_8, zi_18_0, zi_18_1, zi_18_2, zi_18_3, zi_18_4, zi_18_5, zi_18_6, zi_18_7, zi_18_8, zi_7_0, zi_7_1, zi_7_2, zi_7_3, zi_7_4, zi_7_5, zi_7_6, zi_64_0, e33, if_neg (nI_ge hp (by omega : n < 2 ^ 31)), gIn hp8, w1, decide_true, Bool.not_true, b01_f, if_true, nI_1]
      rfl
    · have hneg : ¬ nI i < 0 := nI_pos (by omega)
      have hseen := gSe h10 n1 hD1.2.2.1 (fun a ha => (hD1.1.2.2.2.2.1 a ha).2) ha
      have base : FX8_minuteNow_L404 0 (nI p) τ1 = if b01 (mSe d1 (nI a)) = 0 then some (.inl (nI (p + 1), zup τ1 0 53 (τ1 0 53 &&& (sb p ^^^ (-1))))) else some (.inl (nI (p + 1), τ1)) := by
        unfold FX8_minuteNow_L404 FX8_minuteNow_b434 FX8_minuteNow_b448
        simp only [zlet_eq, zbd_s, zgd_t, zinr_s, Nat.zero_add, rn_3, rn_4, rn_5, rn_6, rn_7, rn_8, rn_9, rn_10, rn_11, rn_12, rn_13, rn_14, rn_15, rn_16, rn_17, rn_18, rn_19, rn_20, rn_21, rn_22, rn_23, rn_24, rn_25, rn_26, rn_27, rn_28, rn_29, rn_30, rn_31, rn_32, rn_33, rn_34, rn_35, rn_36, rn_37, rn_38, rn_39, rn_40, tn_0, tn_1, tn_2, tn_3, tn_4, tn_5, tn_6, tn_7, tn_8, zi_18_0, zi_18_1, zi_18_2, zi_18_3, zi_18_4, zi_18_5, zi_18_6, zi_18_7, zi_18_8, zi_7_0, zi_7_1, zi_7_2, zi_7_3, zi_7_4, zi_7_5, zi_7_6, zi_64_0, e33, if_neg (nI_ge hp (by omega : n < 2 ^ 31)), gIn hp8, w1, hneg, decide_false, Bool.not_false, b01_t, show ¬ (1 : Int32) = 0 from by decide, if_false, gAi hp8 hi w1, w2, hseen, nI_1]
        rfl
      rw [base, w3]
      cases hb : mSe d1 (nI a)
      · rw [if_pos (show b01 false = 0 from rfl), if_neg (by decide)]
        exact ⟨_, rfl, hF1.up rfl, hD1.sight (by rw [n3]), by rw [zup_n (by decide)]; exact h24⟩
      · rw [if_neg (show ¬ b01 true = 0 from by decide), if_pos rfl]
        exact ⟨τ1, rfl, hF1, hD1, h24⟩
  obtain ⟨τ', h1, ⟨h2, h3, h4⟩⟩ := zlp_rel (f := fun q => FX8_minuteNow_L404 0 q.1 q.2) (fun p τ1 d1 => Fr τ0 τ1 ∧ rD τ1 S na n d1 ∧ τ1 24 = τ 24) mLo1 (n := n) (τ := τ) (d := d) ⟨hF, hD, rfl⟩ hs
  refine ⟨τ', ?_, h2, h3, h4⟩
  rw [h1]
  refine zlp_end ?_
  have e3 := (hS.fr h2).2.1.2.2
  show FX8_minuteNow_L404 0 (nI n) τ' = _
  unfold FX8_minuteNow_L404 FX8_minuteNow_b454
  simp only [zlet_eq, zbd_s, zgd_t, zinr_s, Nat.zero_add, rn_3, rn_4, rn_5, rn_6, rn_7, rn_8, rn_9, rn_10, rn_11, rn_12, rn_13, rn_14, rn_15, rn_16, rn_17, rn_18, rn_19, rn_20, rn_21, rn_22, rn_23, rn_24, rn_25, rn_26, rn_27, rn_28, rn_29, rn_30, rn_31, rn_32, rn_33, rn_34, rn_35, rn_36, rn_37, rn_38, rn_39, rn_40, tn_0, tn_1, tn_2, tn_3, tn_4, tn_5, tn_6, tn_7, tn_8, zi_18_0, zi_18_1, zi_18_2, zi_18_3, zi_18_4, zi_18_5, zi_18_6, zi_18_7, zi_18_8, zi_7_0, zi_7_1, zi_7_2, zi_7_3, zi_7_4, zi_7_5, zi_7_6, zi_64_0, e3, if_pos (nI_le (Nat.le_refl n) (by omega : n < 2 ^ 31))]
