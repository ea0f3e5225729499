theorem bits_n : ∀ n, n ≤ 8 → ∀ p, p < n → bt (((1 : Int32) <<< (nI n &&& 31)) - 1) p = true := by decide +kernel
/-- the reference makes its day ready -/
theorem gSt {τ : zS} {n : Nat} (e33 : τ 3 3 = nI n) : ∃ τ', FX8_set 0 τ = some (0, τ') ∧ Fr τ τ' ∧ (∀ a, a < 10 → τ' 22 a = τ 4 a ∧ τ' 23 a = τ 5 a) ∧ τ' 0 46 = τ 0 29 ∧ τ' 0 47 = τ 0 30 ∧ τ' 0 48 = τ 0 31 ∧ τ' 0 49 = τ 0 32 ∧ τ' 0 50 = ((1 : Int32) <<< (nI n &&& 31)) - 1 := by
  unfold FX8_set
  rw [zlet_eq]
  have hs : ∀ (i : Nat) (q : Int32 × zS), i < 10 → (q.1 = nI i ∧ (∀ k, k ≠ 22 → k ≠ 23 → q.2 k = τ k) ∧ ∀ a, a < i → q.2 22 a = τ 4 a ∧ q.2 23 a = τ 5 a) → ∃ q', FX8_set_L2 0 q.1 q.2 = some (.inl q') ∧ (q'.1 = nI (i + 1) ∧ (∀ k, k ≠ 22 → k ≠ 23 → q'.2 k = τ k) ∧ ∀ a, a < i + 1 → q'.2 22 a = τ 4 a ∧ q'.2 23 a = τ 5 a) := by
    intro i q hi ⟨q1, q2, q3⟩
    obtain ⟨x, τ1⟩ := q
    simp only at q1 q2 q3
    subst q1
    refine ⟨(nI (i + 1), zup (zup τ1 22 i (τ 4 i)) 23 i (τ 5 i)), ?_, rfl, fun k k1 k2 => ?_, fun a ha => ?_⟩
    · show FX8_set_L2 0 (nI i) τ1 = _
      unfold FX8_set_L2
      simp only [zlet_eq, zbd_s, zgd_t, zinr_s, Nat.zero_add, rn_3, rn_4, rn_5, rn_6, rn_7, rn_8, rn_9, rn_10, rn_11, rn_12, rn_13, rn_14, rn_15, rn_16, rn_17, rn_18, rn_19, rn_20, rn_21, rn_22, rn_23, rn_24, rn_25, rn_26, rn_27, rn_28, rn_29, rn_30, rn_31, rn_32, rn_33, rn_34, rn_35, rn_36, rn_37, rn_38, rn_39, rn_40, tn_0, tn_1, tn_2, tn_3, tn_4, tn_5, tn_6, tn_7, tn_8, zi_18_0, zi_18_1, zi_18_2, zi_18_3, zi_18_4, zi_18_5, zi_18_6, zi_18_7, zi_18_8, zi_7_0, zi_7_1, zi_7_2, zi_7_3, zi_7_4, zi_7_5, zi_7_6, zi_64_0, if_neg (show ¬ (10 : Int32) ≤ nI i from nI_ge (b := 10) hi (by omega)), zin_n _ (by omega : i < 20) (by decide : 20 < 2 ^ 31), zin_n _ hi (by decide : 10 < 2 ^ 31), nI_clamp (by omega : i < 2 ^ 31), zup_n (by decide : 5 ≠ 22), q2 4 (by decide) (by decide), q2 5 (by decide) (by decide), nI_1]
    · show zup (zup τ1 22 i (τ 4 i)) 23 i (τ 5 i) k = τ k
      rw [zup_n k2, zup_n k1]
      exact q2 k k1 k2
    · simp only [zup_at]
      by_cases c : a = i
      · subst c; simp
      · obtain ⟨z1, z2⟩ := q3 a (by omega)
        simp [c, z1, z2]
  obtain ⟨⟨x, τ1⟩, g1, g2, g3, g4⟩ := zlp_ex (f := fun q : Int32 × zS => FX8_set_L2 0 q.1 q.2) (fun i q => q.1 = nI i ∧ (∀ k, k ≠ 22 → k ≠ 23 → q.2 k = τ k) ∧ ∀ a, a < i → q.2 22 a = τ 4 a ∧ q.2 23 a = τ 5 a) (n := 10) (a := (0, τ)) ⟨rfl, fun _ _ _ => rfl, fun a ha => by omega⟩ hs
  simp only at g2 g3 g4
  subst g2
  have hF : Fr τ τ1 := by
    intro k j hkj
    by_cases c2 : k = 22
    · subst c2; unfold sc at hkj; simp at hkj
    · by_cases c3 : k = 23
      · subst c3; unfold sc at hkj; simp at hkj
      · rw [g3 k c2 c3]
  have e0 := g3 0 (by decide) (by decide)
  have e3 : τ1 3 3 = nI n := by rw [g3 3 (by decide) (by decide), e33]
  refine ⟨zup (zup (zup (zup (zup τ1 0 46 (τ 0 29)) 0 47 (τ 0 30)) 0 48 (τ 0 31)) 0 49 (τ 0 32)) 0 50 (((1 : Int32) <<< (nI n &&& 31)) - 1), ?_, ((((hF.up rfl).up rfl).up rfl).up rfl).up rfl, fun a ha => ?_, by simp [zup_at], by simp [zup_at], by simp [zup_at], by simp [zup_at], by simp [zup_at]⟩
  · rw [g1]
    refine zlp_end ?_
    show FX8_set_L2 0 (nI 10) τ1 = _
    unfold FX8_set_L2 FX8_set_b38
    rw [if_pos (by decide)]
    simp only [zlet_eq, zbd_s, zgd_t, zinr_s, Nat.zero_add, rn_3, rn_4, rn_5, rn_6, rn_7, rn_8, rn_9, rn_10, rn_11, rn_12, rn_13, rn_14, rn_15, rn_16, rn_17, rn_18, rn_19, rn_20, rn_21, rn_22, rn_23, rn_24, rn_25, rn_26, rn_27, rn_28, rn_29, rn_30, rn_31, rn_32, rn_33, rn_34, rn_35, rn_36, rn_37, rn_38, rn_39, rn_40, tn_0, tn_1, tn_2, tn_3, tn_4, tn_5, tn_6, tn_7, tn_8, zi_18_0, zi_18_1, zi_18_2, zi_18_3, zi_18_4, zi_18_5, zi_18_6, zi_18_7, zi_18_8, zi_7_0, zi_7_1, zi_7_2, zi_7_3, zi_7_4, zi_7_5, zi_7_6, zi_64_0, zup_n (by decide : 3 ≠ 0), e3]
    simp [zup_at, e0]
  · obtain ⟨z1, z2⟩ := g4 a ha
    simp [zup_at, z1, z2]
/-- both are ready for a day -/
theorem gRdy {σ τ : zS} {q na n nr k0 : Nat} (h : RQ σ τ q na n nr) (hk : k0 = 24 ∨ k0 = 35) : ∃ τ', FX8_set 0 τ = some (0, τ') ∧ Fr τ τ' ∧ rB τ' na n nr 99 (mPr k0 q σ) := by
  obtain ⟨-, ⟨hq, -⟩, ⟨hS, -⟩, ⟨⟨w1, w2, w3, -, w5⟩, -⟩, -⟩ := h
  obtain ⟨⟨h10, -, -⟩, ⟨h8, -, e33⟩, -, -, hA, -⟩ := id hS
  obtain ⟨τ', g1, g2, g3, g4, g5, g6, g7, g8⟩ := gSt e33
  have d0 : ∀ j, mPr k0 q σ 0 j = if j = 5 then 0 else if j = 4 then σ 6 3 else if j = 3 then σ 6 2 else if j = 2 then σ 6 1 else if j = 1 then σ 6 0 else exd k0 q σ 0 j := by
    intro j
    unfold mPr
    rw [zrow_at, if_neg (by decide), zrow_at, if_neg (by decide), zrow_at, if_neg (by decide), zup_at, zup_at, zup_at, zup_at, zup_at]
    simp
  have dr : ∀ a, a < 10 → mPr k0 q σ 1 a = σ (q + 2) a ∧ mPr k0 q σ 2 a = σ 7 a ∧ mPr k0 q σ 3 a = σ 8 a := by
    intro a ha
    unfold mPr
    refine ⟨?_, ?_, ?_⟩
    · rw [zrow_at, if_neg (by decide), zrow_at, if_neg (by decide), zrow_at, if_pos rfl, sb_cpy0 ha]
    · rw [zrow_at, if_neg (by decide), zrow_at, if_pos rfl, sb_cpy0 ha]
    · rw [zrow_at, if_pos rfl, sb_cpy0 ha]
  refine ⟨τ', g1, g2, ⟨?_, ?_, ?_, ?_, fun a ha => ?_, fun p hp => ?_⟩, fun a ha => ?_, ?_⟩
  · rw [g4, d0]; exact (w1 0 (by decide)).symm
  · rw [g5, d0]; exact (w1 1 (by decide)).symm
  · rw [g6, d0]; exact (w1 2 (by decide)).symm
  · rw [g7, d0]; exact (w1 3 (by decide)).symm
  · obtain ⟨r1, r2, r3⟩ := dr a (by omega)
    obtain ⟨s1, s2⟩ := g3 a (by omega)
    refine ⟨?_, ?_⟩
    · rw [s1, r1, (hA a ha).1, ss_i (by decide) (by decide)]
    · rw [r2, g2.row 7 (by decide) (by decide)]
      exact (w5 a ha).1.symm
  · rw [g8, d0, bits_n n h8 p hp]
    simp [b_0]
  · obtain ⟨r1, r2, r3⟩ := dr a (by omega)
    obtain ⟨s1, s2⟩ := g3 a (by omega)
    obtain ⟨-, v2, s, v3, v4⟩ := w5 a ha
    have e8 : σ 8 a = τ 5 a := v2
    exact ⟨by rw [s2, r3, e8], s, v3, by rw [r3]; exact v4⟩
  · unfold cf0
    rw [d0, d0]
    exact w2
theorem rR_v {τ S : zS} {na n nr : Nat} (hS : rS τ S na n nr) {d : zS} (hc : cf0 na n nr d) : d 0 1 = 1 → ∃ r, d 0 2 = nI r ∧ vR S r := by
  intro h1
  rcases hc with z | ⟨-, r, hr, z⟩ | z | z
  · rw [h1] at z; exact absurd z (by decide)
  · exact ⟨r, z, (hS.2.2.2.2.2.2.2 r hr).1⟩
  · rw [h1] at z; exact absurd z.1 (by decide)
  · rw [h1] at z; exact absurd z.1 (by decide)
/-- a day on both sides -/
theorem gRun {σ τ d : zS} {q na n nr k0 B : Nat} (hq : dH k0 q) (hS : rSh τ (ss q σ) na n nr) (hB : rB τ na n nr B d) (h30 : B < 2 ^ 30) : FX0_run k0 (dE k0 q σ d) = some (mRu (ss q σ) na n d 8 0, dE k0 q σ (mRu (ss q σ) na n d)) ∧ ∃ τ', FX8_costNow 0 τ = some (mRu (ss q σ) na n d 8 0, τ') ∧ Fr τ τ' ∧ rB τ' na n nr B (mRu (ss q σ) na n d) ∧ rN τ' (ss q σ) (mRu (ss q σ) na n d) ∧ ∀ j, j ≠ 12 → j ≠ 13 → mRu (ss q σ) na n d 0 j = d 0 j := by
  obtain ⟨⟨h10, e1, -⟩, ⟨h8, e7, -⟩, -⟩ := id hS.1
  exact ⟨fru hq e1 h10 e7 h8 (rR_v hS.1 hB.2.2), gCo hS.1 hS.2.1 hB h30⟩
theorem rSh.fr {τ τ' S : zS} {na n nr : Nat} (h : rSh τ S na n nr) (hf : Fr τ τ') : rSh τ' S na n nr := h.m hf.m
/-- the class's shop, by its number -/
theorem rPt.q {σ : zS} {q : Nat} (h : rPt σ q) : (kd 0 (σ 0 2).toNatClampNeg == 5) = true ∧ (σ 0 2).toNatClampNeg = q := by
  obtain ⟨h1, h2, -⟩ := h
  rw [h2]
  rcases h1 with rfl | rfl <;> exact ⟨rfl, rfl⟩
theorem rPt.d {σ : zS} {q k0 : Nat} (h : rPt σ q) (hk : k0 = 24 ∨ k0 = 35) : dH k0 q := ⟨hk, h.1⟩
/-- cost(open) -/
theorem rel_cost {σ τ : zS} (h : RR σ τ) (x : Int32) : ∃ r σ' τ', FX7_cost 0 x σ = some (r, σ') ∧ FX8_cost 0 x τ = some (r, τ') ∧ RR σ' τ' := by
  obtain ⟨q, na, n, nr, h⟩ := h
  have hp := h.2.1
  have hd := hp.d (Or.inr rfl)
  have h0 : RQ σ (zup τ 0 2 0) q na n nr := h.m (Fm.rf.up rfl)
  obtain ⟨τ1, g1, g2, g3⟩ := gRdy h0 (Or.inr rfl : 35 = 24 ∨ 35 = 35)
  have key : ∀ v : Int32, ∃ r σ' τ', zbd (FX0_run 35 (zup (dE 35 q σ (mPr 35 q σ)) 35 3 v)) (fun r_3 σ_2 => some (r_3, σ_2)) = some (r, σ') ∧ FX8_costNow 0 (zup τ1 0 48 v) = some (r, τ') ∧ RR σ' τ' := by
    intro v
    rw [dw_3]
    have hB : rB (zup τ1 0 48 v) na n nr 99 (zup (mPr 35 q σ) 0 3 v) := by
      obtain ⟨⟨c1, c2, c3, c4, c5, c6⟩, b2, b3⟩ := g3
      refine ⟨⟨by simpa [zup_at] using c1, by simpa [zup_at] using c2, by simp [zup_at], by simpa [zup_at] using c4, by simpa [zup_at] using c5, by simpa [zup_at] using c6⟩, by simpa [zup_at] using b2, by simpa [cf0, zup_at] using b3⟩
    have hS := (h0.2.2.1.fr g2).fr (Fr.rf.up (k := 0) (j := 48) (v := v) rfl)
    obtain ⟨k1, τ', k2, k3, -⟩ := gRun hd hS hB (by decide)
    refine ⟨_, _, τ', by rw [k1]; rfl, k2, q, na, n, nr, ?_⟩
    exact (h0.m (g2.m.tr ((Fr.rf.up rfl).tr k3).m)).x (Fx_dE hp.1)
  have hc : FX7_cost 0 x σ = zbd (FX0_run 35 (zup (dE 35 q σ (mPr 35 q σ)) 35 3 (if x = 0 then 0 else 1))) (fun r_3 σ_2 => some (r_3, σ_2)) := by
    unfold FX7_cost FX7_cost_b28
    simp only [hp.q.2, kd_q hd, zgd_t, zlet_eq, Nat.zero_add, fpr hd, zbd_s]
    by_cases c : x = 0 <;> simp [c]
  have hm : FX8_cost 0 x τ = FX8_costNow 0 (zup τ1 0 48 (if x = 0 then 0 else 1)) := by
    unfold FX8_cost FX8_cost_b19
    simp only [zlet_eq, g1, zbd_s]
    by_cases c : x = 0
    · rw [if_pos c, if_pos c]
      cases FX8_costNow 0 (zup τ1 0 48 0) <;> rfl
    · rw [if_neg c, if_neg c]
      cases FX8_costNow 0 (zup τ1 0 48 1) <;> rfl
  rw [hc, hm]
  exact key _
