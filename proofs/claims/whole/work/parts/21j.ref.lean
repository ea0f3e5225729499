/-- at the day's end -/
def ctp (d : zS) (n p a : Nat) : Nat := fb_ct (fun q => decide (p ≤ q) && decide (d 5 q = nI a)) n
theorem ctp_0 {d : zS} {n a : Nat} : ctp d n 0 a = ctn d n a := by
  unfold ctp ctn
  exact fb_ct_cong (fun k _ => by simp)
theorem ctp_s {d : zS} {n p a : Nat} (hp : p < n) : ctp d n (p + 1) a + (if d 5 p = nI a then 1 else 0) = ctp d n p a := by
  have h := fb_ct_upd (fun q => decide (p ≤ q) && decide (d 5 q = nI a)) false hp
  have e : fb_ct (fun k => if k = p then false else (decide (p ≤ k) && decide (d 5 k = nI a))) n = ctp d n (p + 1) a := by
    unfold ctp
    refine fb_ct_cong (fun k _ => ?_)
    by_cases c : k = p
    · subst c; rw [if_pos rfl, decide_eq_false (by omega : ¬ k + 1 ≤ k)]; rfl
    · rw [if_neg c]
      have : (p ≤ k) ↔ (p + 1 ≤ k) := by omega
      simp [this]
  rw [e] at h
  simp only [Nat.le_refl, decide_true, Bool.true_and, decide_eq_true_eq, Bool.false_eq_true, if_false, Nat.add_zero] at h
  exact h
def rE (τ S : zS) (na n B : Nat) (d : zS) (p : Nat) : Prop := rC τ d na n ∧ rN τ S d ∧ (∀ a, a < na → τ 23 a = d 3 a ∧ ∃ s, d 3 a = nI s ∧ s + ctp d n p a ≤ B) ∧ ∀ q, q < n → p ≤ q → τ 25 q = d 5 q ∧ oa na (d 5 q)
theorem rE.next {τ S : zS} {na n B : Nat} {d : zS} {p : Nat} (h : rE τ S na n B d p) (hp : p < n) : rE τ S na n B d (p + 1) := by
  obtain ⟨h1, h2, h3, h4⟩ := h
  refine ⟨h1, h2, fun a ha => ?_, fun q hq hpq => h4 q hq (by omega)⟩
  obtain ⟨k1, s, k2, k3⟩ := h3 a ha
  refine ⟨k1, s, k2, ?_⟩
  have := ctp_s (d := d) (a := a) hp
  omega
theorem gCl1 {τ0 τ S d : zS} {na n nr B p : Nat} (hS : rS τ0 S na n nr) (hF : Fr τ0 τ) (hB : B < 2 ^ 30) (hp : p < n) (h : rE τ S na n B d p) :
    ∃ τ', FX8_dayNow_L8 0 (nI p) τ = some (.inl (nI (p + 1), τ')) ∧ Fr τ0 τ' ∧ rE τ' S na n B (mCl1 S p d) (p + 1) := by
  have hSt := hS.fr hF
  obtain ⟨⟨h10, -, -⟩, ⟨h8, -, e33⟩, -, -, -, hPs, -, -⟩ := id hSt
  have hp8 : p < 8 := by omega
  obtain ⟨c, t, l, hP⟩ := hPs p hp
  have e8 := hP.1
  obtain ⟨hC, hN, hA, hH⟩ := id h
  obtain ⟨hH1, hH2⟩ := hH p hp (Nat.le_refl p)
  obtain ⟨n1, n2, n3, n4, n5, n6, n7, n8, n9⟩ := hN
  unfold mCl1
  rcases hH2 with hn | ⟨a, ha, hv⟩
  · rw [if_pos hn]
    refine ⟨τ, ?_, hF, h.next hp⟩
    unfold FX8_dayNow_L8 FX8_dayNow_b58
    simp only [zlet_eq, zbd_s, zgd_t, zinr_s, Nat.zero_add, rn_3, rn_4, rn_5, rn_6, rn_7, rn_8, rn_9, rn_10, rn_11, rn_12, rn_13, rn_14, rn_15, rn_16, rn_17, rn_18, rn_19, rn_20, rn_21, rn_22, rn_23, rn_24, rn_25, rn_26, rn_27, rn_28, rn_29, rn_30, rn_31, rn_32, rn_33, rn_34, rn_35, rn_36, rn_37, rn_38, rn_39, rn_40, tn_0, tn_1, tn_2, tn_3, tn_4, tn_5, tn_6, tn_7, tn_8, zi_18_0, zi_18_1, zi_18_2, zi_18_3, zi_18_4, zi_18_5, zi_18_6, zi_18_7, zi_18_8, zi_7_0, zi_7_1, zi_7_2, zi_7_3, zi_7_4, zi_7_5, zi_7_6, zi_64_0, e33, if_neg (nI_ge hp (by omega : n < 2 ^ 31)), zin_n _ hp8 (by decide : 8 < 2 ^ 31), nI_clamp (by omega : p < 2 ^ 31), hH1, hn, if_true, nI_1]
  · have c0 : ¬ nI a = -1 := nI_m1 (by omega)
    rw [if_neg (by rw [hv]; exact c0)]
    by_cases k0 : S 8 p = 0
    · rw [if_pos k0]
      refine ⟨zup τ 0 59 (τ 0 59 + 1), ?_, hF.up rfl, ?_⟩
      · unfold FX8_dayNow_L8 FX8_dayNow_b58
        simp only [zlet_eq, zbd_s, zgd_t, zinr_s, Nat.zero_add, rn_3, rn_4, rn_5, rn_6, rn_7, rn_8, rn_9, rn_10, rn_11, rn_12, rn_13, rn_14, rn_15, rn_16, rn_17, rn_18, rn_19, rn_20, rn_21, rn_22, rn_23, rn_24, rn_25, rn_26, rn_27, rn_28, rn_29, rn_30, rn_31, rn_32, rn_33, rn_34, rn_35, rn_36, rn_37, rn_38, rn_39, rn_40, tn_0, tn_1, tn_2, tn_3, tn_4, tn_5, tn_6, tn_7, tn_8, zi_18_0, zi_18_1, zi_18_2, zi_18_3, zi_18_4, zi_18_5, zi_18_6, zi_18_7, zi_18_8, zi_7_0, zi_7_1, zi_7_2, zi_7_3, zi_7_4, zi_7_5, zi_7_6, zi_64_0, e33, if_neg (nI_ge hp (by omega : n < 2 ^ 31)), zin_n _ hp8 (by decide : 8 < 2 ^ 31), zin_n _ (by omega : p < 16) (by decide : 16 < 2 ^ 31), nI_clamp (by omega : p < 2 ^ 31), hH1, hv, if_neg c0, e8, k0, if_true, nI_1]
      · obtain ⟨r1, r2, r3, r4⟩ := h.next hp
        unfold mTal
        refine ⟨by simpa [rC, zup_at] using r1, by simp [rN, zup_at, n1, n2, n3, n4, n5, n6, n7, n8, n9], fun b hb => ?_, fun q hq hpq => by simpa [zup_at] using r4 q hq hpq⟩
        obtain ⟨z1, s, z2, z3⟩ := r3 b hb
        exact ⟨by simpa [zup_at] using z1, s, by simpa [zup_at] using z2, by unfold ctp at *; rw [zup_n (by decide)]; exact z3⟩
    · rw [if_neg k0, hv, mBck_n (by omega)]
      refine ⟨zup (zup τ 23 a (τ 23 a + 1)) 25 p (-1), ?_, (hF.up rfl).up rfl, ?_⟩
      · unfold FX8_dayNow_L8 FX8_dayNow_b58 FX8_putBack FX8_putBack_b25
        simp only [zlet_eq, zbd_s, zgd_t, zinr_s, Nat.zero_add, rn_3, rn_4, rn_5, rn_6, rn_7, rn_8, rn_9, rn_10, rn_11, rn_12, rn_13, rn_14, rn_15, rn_16, rn_17, rn_18, rn_19, rn_20, rn_21, rn_22, rn_23, rn_24, rn_25, rn_26, rn_27, rn_28, rn_29, rn_30, rn_31, rn_32, rn_33, rn_34, rn_35, rn_36, rn_37, rn_38, rn_39, rn_40, tn_0, tn_1, tn_2, tn_3, tn_4, tn_5, tn_6, tn_7, tn_8, zi_18_0, zi_18_1, zi_18_2, zi_18_3, zi_18_4, zi_18_5, zi_18_6, zi_18_7, zi_18_8, zi_7_0, zi_7_1, zi_7_2, zi_7_3, zi_7_4, zi_7_5, zi_7_6, zi_64_0, e33, if_neg (nI_ge hp (by omega : n < 2 ^ 31)), zin_n _ hp8 (by decide : 8 < 2 ^ 31), zin_n _ (by omega : p < 16) (by decide : 16 < 2 ^ 31), zin_n _ (by omega : a < 10) (by decide : 10 < 2 ^ 31), nI_clamp (by omega : p < 2 ^ 31), nI_clamp (by omega : a < 2 ^ 31), hH1, hv, if_neg c0, e8, if_neg k0, nI_1]
      · refine ⟨by simpa [rC, zup_at] using hC, by simpa [rN, zup_at] using h.2.1, fun b hb => ?_, fun q hq hpq => ?_⟩
        · obtain ⟨z1, s, z2, z3⟩ := hA b hb
          have hc := ctp_s (d := d) (a := b) hp
          have hc2 : ctp (zup d 3 a (d 3 a + 1)) n (p + 1) b = ctp d n (p + 1) b := by unfold ctp; rw [zup_n (by decide)]
          rw [hc2]
          by_cases cb : b = a
          · subst cb
            rw [if_pos hv] at hc
            refine ⟨?_, s + 1, ?_, by omega⟩
            · rw [zup_n (by decide), zup_at, if_pos ⟨rfl, rfl⟩, zup_at, if_pos ⟨rfl, rfl⟩, z1]
            · rw [zup_at, if_pos ⟨rfl, rfl⟩, z2, nI_1]
          · refine ⟨?_, s, ?_, by omega⟩
            · rw [zup_n (by decide), zup_at, if_neg (fun z => cb z.2), zup_at, if_neg (fun z => cb z.2), z1]
            · rw [zup_at, if_neg (fun z => cb z.2), z2]
        · obtain ⟨z1, z2⟩ := hH q hq (by omega)
          exact ⟨by rw [zup_at, if_neg (by omega), zup_n (by decide), zup_n (by decide)]; exact z1, by rw [zup_n (by decide)]; exact z2⟩
/-- a day's cost, on both sides -/
theorem gCo {τ S d : zS} {na n nr B : Nat} (hS : rS τ S na n nr) (h3 : 0 < S 0 3) (hR : rB τ na n nr B d) (hB : B < 2 ^ 30) :
    ∃ τ', FX8_costNow 0 τ = some (mRu S na n d 8 0, τ') ∧ Fr τ τ' ∧ rB τ' na n nr B (mRu S na n d) ∧ rN τ' S (mRu S na n d) ∧ ∀ j, j ≠ 12 → j ≠ 13 → mRu S na n d 0 j = d 0 j := by
  obtain ⟨⟨h10, -, -⟩, ⟨h8, -, e33⟩, -⟩ := id hS
  obtain ⟨τ1, g1, g2, g3, g4, g5, g6, g7⟩ := gGo hS h3 (Nat.le_refl 60) hR hB
  unfold mRu mCl
  generalize mDy S na n 60 d = e at g3 g4 g5 g7 ⊢
  have hE0 : rE τ1 S na n B e 0 := ⟨g3.1, g3.2.1, fun a ha => by
    obtain ⟨s, z1, z2⟩ := g4 a ha
    exact ⟨g3.2.2.2.1 a ha, s, z1, by rw [ctp_0]; exact z2⟩, fun q hq _ => ⟨(g3.2.2.2.2.1 q hq).1, (g3.2.2.2.2.1 q hq).2.2⟩⟩
  obtain ⟨τ', k1, ⟨k2, k3, k4⟩⟩ := zlp_rel (f := fun q => FX8_dayNow_L8 0 q.1 q.2) (fun p τ1 e1 => Fr τ τ1 ∧ rE τ1 S na n B e1 p ∧ e1 0 = e 0) (mCl1 S) (n := n) (τ := τ1) (d := e) ⟨g2, hE0, rfl⟩ (fun p τ1 e1 hp ⟨z1, z2, z3⟩ => by
    obtain ⟨τ2, y1, y2, y3⟩ := gCl1 hS z1 hB hp z2
    refine ⟨τ2, y1, y2, y3, ?_⟩
    rw [← z3]
    unfold mCl1
    split
    · rfl
    · split
      · exact mTal_o (by decide)
      · exact mBck_o (by decide))
  have eS := hS.fr k2
  obtain ⟨r1, r2, r3, -⟩ := k3
  have e0 : ∀ j, j ≠ 12 → j ≠ 13 → fo (mCl1 S) n e 0 j = d 0 j := fun j h1 h2 => by rw [k4]; exact g7 j h1 h2
  have hday : FX8_dayNow 0 τ = some (0, τ') := by
    unfold FX8_dayNow
    have : FX8_go 0 60 τ = some (0, τ1) := g1
    rw [this, zbd_s, zlet_eq, k1]
    refine zlp_end ?_
    have e3 := eS.2.1.2.2
    show FX8_dayNow_L8 0 (nI n) τ' = _
    unfold FX8_dayNow_L8 FX8_dayNow_b64
    simp only [zlet_eq, zbd_s, zgd_t, zinr_s, Nat.zero_add, rn_3, rn_4, rn_5, rn_6, rn_7, rn_8, rn_9, rn_10, rn_11, rn_12, rn_13, rn_14, rn_15, rn_16, rn_17, rn_18, rn_19, rn_20, rn_21, rn_22, rn_23, rn_24, rn_25, rn_26, rn_27, rn_28, rn_29, rn_30, rn_31, rn_32, rn_33, rn_34, rn_35, rn_36, rn_37, rn_38, rn_39, rn_40, tn_0, tn_1, tn_2, tn_3, tn_4, tn_5, tn_6, tn_7, tn_8, zi_18_0, zi_18_1, zi_18_2, zi_18_3, zi_18_4, zi_18_5, zi_18_6, zi_18_7, zi_18_8, zi_7_0, zi_7_1, zi_7_2, zi_7_3, zi_7_4, zi_7_5, zi_7_6, zi_64_0, e3, if_pos (nI_le (Nat.le_refl n) (by omega : n < 2 ^ 31))]
  refine ⟨τ', ?_, k2, ⟨r1, fun a ha => ?_, ?_⟩, r2, e0⟩
  · unfold FX8_costNow
    rw [hday, zbd_s]
    simp only [zlet_eq, zbd_s, zgd_t, zinr_s, Nat.zero_add, rn_3, rn_4, rn_5, rn_6, rn_7, rn_8, rn_9, rn_10, rn_11, rn_12, rn_13, rn_14, rn_15, rn_16, rn_17, rn_18, rn_19, rn_20, rn_21, rn_22, rn_23, rn_24, rn_25, rn_26, rn_27, rn_28, rn_29, rn_30, rn_31, rn_32, rn_33, rn_34, rn_35, rn_36, rn_37, rn_38, rn_39, rn_40, tn_0, tn_1, tn_2, tn_3, tn_4, tn_5, tn_6, tn_7, tn_8, zi_18_0, zi_18_1, zi_18_2, zi_18_3, zi_18_4, zi_18_5, zi_18_6, zi_18_7, zi_18_8, zi_7_0, zi_7_1, zi_7_2, zi_7_3, zi_7_4, zi_7_5, zi_7_6, zi_64_0, eS.2.2.2.1.2.1]
    rw [r2.2.2.2.2.2.2.2.2]
  · obtain ⟨z1, s, z2, z3⟩ := r3 a ha
    exact ⟨z1, s, by omega, z2⟩
  · unfold cf0
    rw [e0 1 (by decide) (by decide), e0 2 (by decide) (by decide)]
    exact hR.2.2
