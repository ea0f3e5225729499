theorem fru {k0 q na n : Nat} {σ d : zS} (h : dH k0 q) (hna : ss q σ 1 0 = nI na) (h10 : na ≤ 10) (hn : ss q σ 7 0 = nI n) (h8 : n ≤ 8) (hr : d 0 1 = 1 → ∃ r, d 0 2 = nI r ∧ vR (ss q σ) r) : FX0_run k0 (dE k0 q σ d) = some (mRu (ss q σ) na n d 8 0, dE k0 q σ (mRu (ss q σ) na n d)) := by
  have hfo : ∀ (b i : Nat) (v : Int32) (k : Nat) (e : zS), i ≠ b → mFi b v k e i = e i := fun b i v k e hib => fo_inv (fun _ (x : zS) => x i = e i) rfl (fun p x _ hx => by rw [zup_n hib, hx])
  have key : ∀ e : zS, (e 0 1 = 1 → ∃ r, e 0 2 = nI r ∧ vR (ss q σ) r) → ∀ v : Int32, FX0_run_b88 k0 k0 v (dE k0 q σ e) = some (mCl (ss q σ) n (fo (fun i => mMi (ss q σ) na n (i + 1)) 60 (zup e 0 12 v)) 8 0, dE k0 q σ (mCl (ss q σ) n (fo (fun i => mMi (ss q σ) na n (i + 1)) 60 (zup e 0 12 v)))) := by
    intro e he v
    unfold FX0_run_b88
    simp only [zlet_eq, zbd_s, zgd_t, zinr_s, dE_ptr h, kd_q h, Nat.add_assoc, Nat.reduceAdd, dE_q0 h, dE_ss h, dE_17 h, dE_t h, dU_17 h, dU_t h, dr_1, da_1 h, dp_1 h, dr_2, da_2 h, dp_2 h, dr_3, da_3 h, dp_3 h, dr_4, da_4 h, dp_4 h, dr_5, da_5 h, dp_5 h, dr_6, da_6 h, dp_6 h, dr_7, da_7 h, dp_7 h, dr_8, da_8 h, dp_8 h, dr_9, da_9 h, dp_9 h, dr_10, da_10 h, dp_10 h, qr_2 h, qa_2 h, qr_3 h, qa_3 h, qr_4 h, qa_4 h, qr_5 h, qa_5 h, qr_6 h, qa_6 h, qr_8 h, qa_8 h, qr_9 h, qa_9 h, qr_10 h, qa_10 h, qr_11 h, qa_11 h, qr_12 h, qa_12 h, qr_13 h, qa_13 h, qr_15 h, qa_15 h, qr_16 h, qa_16 h, qr_1 h, qr_7 h, qa_17 h, qp_17 h, q14_0 h, q14_1 h, dg_1, dw_1, dg_2, dw_2, dg_3, dw_3, dg_4, dw_4, dg_5, dw_5, dg_12, dw_12, dg_13, dw_13, rl8_0, pl8_0, rl8_1, pl8_1, rl8_2, pl8_2, rl8_3, pl8_3, rl8_4, pl8_4, rl8_5, pl8_5, rl8_6, pl8_6, rl8_7, pl8_7, pl7_0, pl7_1, pl7_2, pl7_3, pl7_4, pl7_5, pl7_6]
    have he2 : (zup e 0 12 v) 0 1 = 1 → ∃ r, (zup e 0 12 v) 0 2 = nI r ∧ vR (ss q σ) r := by
      rw [zup_at, zup_at, if_neg (by omega), if_neg (by omega)]
      exact he
    generalize zup e 0 12 v = e at he2 ⊢
    have hI : ∀ k, (fo (fun i => mMi (ss q σ) na n (i + 1)) k e) 0 1 = e 0 1 ∧ (fo (fun i => mMi (ss q σ) na n (i + 1)) k e) 0 2 = e 0 2 := by
      intro k
      exact fo_inv (fun _ (x : zS) => x 0 1 = e 0 1 ∧ x 0 2 = e 0 2) ⟨rfl, rfl⟩ (fun p x _ hx => by rw [mMi_c1, mMi_c2]; exact hx)
    refine zlp_for (fun i => (nI (i + 1), dE k0 q σ (fo (fun i => mMi (ss q σ) na n (i + 1)) i e))) 60 (fun i hi => ?_) ?_
    · obtain ⟨i1, i2⟩ := hI i
      show FX0_run_L93 k0 (nI (i + 1)) (dE k0 q σ (fo (fun i => mMi (ss q σ) na n (i + 1)) i e)) = some (.inl (nI (i + 1 + 1), dE k0 q σ (mMi (ss q σ) na n (i + 1) (fo (fun i => mMi (ss q σ) na n (i + 1)) i e))))
      generalize fo (fun i => mMi (ss q σ) na n (i + 1)) i e = x at i1 i2
      unfold FX0_run_L93 mMi
      have hm : ¬ (60 : Int32) < nI (i + 1) := nI_nlt (a := 60) (by omega) (by omega)
      have hx : mWk (ss q σ) (nI (i + 1)) n x 0 1 = 1 → ∃ r, mWk (ss q σ) (nI (i + 1)) n x 0 2 = nI r ∧ vR (ss q σ) r := by
        rw [mWk_c1, mWk_c2, i1, i2]
        exact he2
      rw [if_neg hm, fwk h hn h8, zbd_s, ffo h hna h10 hn h8 hx, zbd_s, fno h hn h8, zbd_s, ftk h hn h8, zbd_s, flo h hn h8, zbd_s, fnt h hn h8 (by omega), zbd_s, zlet_eq, nI_1]
    · show FX0_run_L93 k0 (nI 61) _ = _
      unfold FX0_run_L93 FX0_run_b133
      rw [if_pos (by decide), fcl h hn h8]
      simp only [zlet_eq, zbd_s, zgd_t, zinr_s, dE_ptr h, kd_q h, Nat.add_assoc, Nat.reduceAdd, dE_q0 h, dE_ss h, dE_17 h, dE_t h, dU_17 h, dU_t h, dr_1, da_1 h, dp_1 h, dr_2, da_2 h, dp_2 h, dr_3, da_3 h, dp_3 h, dr_4, da_4 h, dp_4 h, dr_5, da_5 h, dp_5 h, dr_6, da_6 h, dp_6 h, dr_7, da_7 h, dp_7 h, dr_8, da_8 h, dp_8 h, dr_9, da_9 h, dp_9 h, dr_10, da_10 h, dp_10 h, qr_2 h, qa_2 h, qr_3 h, qa_3 h, qr_4 h, qa_4 h, qr_5 h, qa_5 h, qr_6 h, qa_6 h, qr_8 h, qa_8 h, qr_9 h, qa_9 h, qr_10 h, qa_10 h, qr_11 h, qa_11 h, qr_12 h, qa_12 h, qr_13 h, qa_13 h, qr_15 h, qa_15 h, qr_16 h, qa_16 h, qr_1 h, qr_7 h, qa_17 h, qp_17 h, q14_0 h, q14_1 h, dg_1, dw_1, dg_2, dw_2, dg_3, dw_3, dg_4, dw_4, dg_5, dw_5, dg_12, dw_12, dg_13, dw_13, rl8_0, pl8_0, rl8_1, pl8_1, rl8_2, pl8_2, rl8_3, pl8_3, rl8_4, pl8_4, rl8_5, pl8_5, rl8_6, pl8_6, rl8_7, pl8_7, pl7_0, pl7_1, pl7_2, pl7_3, pl7_4, pl7_5, pl7_6]
  unfold FX0_run mRu mDy mSt
  rw [ffi (dl_4 h) (by decide) (by decide) (by decide), zbd_s, ffi (dl_5 h) (by decide) (by decide) (by decide), zbd_s, ffi (dl_6 h) (by decide) (by decide) (by decide), zbd_s, ffi (dl_8 h) (by decide) (by decide) (by decide), zbd_s]
  have e1 : ∀ j, mFi 8 0 8 (mFi 6 0 8 (mFi 5 (-1) 8 (mFi 4 (-1) 8 d))) 0 j = d 0 j := fun j => by rw [hfo _ _ _ _ _ (by decide), hfo _ _ _ _ _ (by decide), hfo _ _ _ _ _ (by decide), hfo _ _ _ _ _ (by decide)]
  generalize mFi 8 0 8 (mFi 6 0 8 (mFi 5 (-1) 8 (mFi 4 (-1) 8 d))) = e at e1 ⊢
  have e2 : (zup e 0 13 0) 0 1 = d 0 1 := by rw [zup_at, if_neg (by omega), e1]
  have e3 : (zup e 0 13 0) 0 2 = d 0 2 := by rw [zup_at, if_neg (by omega), e1]
  have key2 := key (zup e 0 13 0) (by rw [e2, e3]; exact hr)
  unfold FX0_run_b61 FX0_run_b62
  simp only [zlet_eq, zbd_s, zgd_t, zinr_s, dE_ptr h, kd_q h, Nat.add_assoc, Nat.reduceAdd, dE_q0 h, dE_ss h, dE_17 h, dE_t h, dU_17 h, dU_t h, dr_1, da_1 h, dp_1 h, dr_2, da_2 h, dp_2 h, dr_3, da_3 h, dp_3 h, dr_4, da_4 h, dp_4 h, dr_5, da_5 h, dp_5 h, dr_6, da_6 h, dp_6 h, dr_7, da_7 h, dp_7 h, dr_8, da_8 h, dp_8 h, dr_9, da_9 h, dp_9 h, dr_10, da_10 h, dp_10 h, qr_2 h, qa_2 h, qr_3 h, qa_3 h, qr_4 h, qa_4 h, qr_5 h, qa_5 h, qr_6 h, qa_6 h, qr_8 h, qa_8 h, qr_9 h, qa_9 h, qr_10 h, qa_10 h, qr_11 h, qa_11 h, qr_12 h, qa_12 h, qr_13 h, qa_13 h, qr_15 h, qa_15 h, qr_16 h, qa_16 h, qr_1 h, qr_7 h, qa_17 h, qp_17 h, q14_0 h, q14_1 h, dg_1, dw_1, dg_2, dw_2, dg_3, dw_3, dg_4, dw_4, dg_5, dw_5, dg_12, dw_12, dg_13, dw_13, rl8_0, pl8_0, rl8_1, pl8_1, rl8_2, pl8_2, rl8_3, pl8_3, rl8_4, pl8_4, rl8_5, pl8_5, rl8_6, pl8_6, rl8_7, pl8_7, pl7_0, pl7_1, pl7_2, pl7_3, pl7_4, pl7_5, pl7_6, e2, e3, hna, key2]
  by_cases c1 : d 0 1 = 0
  · simp [c1]
  by_cases c2 : na = 0
  · subst c2
    simp [c1, nI_0]
  have c3 : ¬ nI na ≤ 0 := nI_nle (by omega) (by omega)
  by_cases c4 : d 0 1 = 3 <;> simp [c1, c2, c3, c4]
