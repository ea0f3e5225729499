/-! asking what a day would cost -/
theorem gAsk {t d S : zS} {na n nr : Nat} {v : Int32} (hS : rSh t S na n nr) (hB : ∀ t', (∀ k, k ≠ 23 → t' k = t k) → (∀ a, a < 10 → t' 23 a = t 5 a) → rB t' na n nr 99 d) : ∃ t', FX8_ask 0 v t = some (0, t') ∧ (∀ k j, sc k j = false → ¬ (k = 0 ∧ 60 ≤ j ∧ j ≤ 62) → t' k j = t k j) ∧ rC t' (mRu S na n d) na n ∧ (∀ j, j ≠ 12 → j ≠ 13 → mRu S na n d 0 j = d 0 j) ∧ ((t 0 62 = 0 ∨ mRu S na n d 8 0 < t 0 61) → t' 0 62 = 1 ∧ t' 0 60 = v ∧ t' 0 61 = mRu S na n d 8 0) ∧ (¬ (t 0 62 = 0 ∨ mRu S na n d 8 0 < t 0 61) → t' 0 62 = t 0 62 ∧ t' 0 60 = t 0 60 ∧ t' 0 61 = t 0 61) := by
  have hs : ∀ (i : Nat) (w : Int32 × zS), i < 10 → (w.1 = nI i ∧ (∀ k, k ≠ 23 → w.2 k = t k) ∧ ∀ a, a < i → w.2 23 a = t 5 a) → ∃ w', FX8_ask_L2 0 v w.1 w.2 = some (.inl w') ∧ (w'.1 = nI (i + 1) ∧ (∀ k, k ≠ 23 → w'.2 k = t k) ∧ ∀ a, a < i + 1 → w'.2 23 a = t 5 a) := by
    intro i w hi ⟨q1, q2, q3⟩
    obtain ⟨z, u⟩ := w
    simp only at q1 q2 q3
    subst q1
    refine ⟨(nI (i + 1), zup u 23 i (t 5 i)), ?_, rfl, fun k k1 => (zup_n k1).trans (q2 k k1), fun a ha => ?_⟩
    · show FX8_ask_L2 0 v (nI i) u = _
      unfold FX8_ask_L2
      simp only [zlet_eq, zbd_s, zgd_t, zinr_s, Nat.zero_add, rn_3, rn_4, rn_5, rn_6, rn_7, rn_8, rn_9, rn_10, rn_11, rn_12, rn_13, rn_14, rn_15, rn_16, rn_17, rn_18, rn_19, rn_20, rn_21, rn_22, rn_23, rn_24, rn_25, rn_26, rn_27, rn_28, rn_29, rn_30, rn_31, rn_32, rn_33, rn_34, rn_35, rn_36, rn_37, rn_38, rn_39, rn_40, tn_0, tn_1, tn_2, tn_3, tn_4, tn_5, tn_6, tn_7, tn_8, zi_18_0, zi_18_1, zi_18_2, zi_18_3, zi_18_4, zi_18_5, zi_18_6, zi_18_7, zi_18_8, zi_7_0, zi_7_1, zi_7_2, zi_7_3, zi_7_4, zi_7_5, zi_7_6, zi_64_0, if_neg (show ¬ (10 : Int32) ≤ nI i from nI_ge (b := 10) hi (by decide)), zin_n _ (by omega : i < 20) (by decide : 20 < 2 ^ 31), zin_n _ hi (by decide : 10 < 2 ^ 31), nI_clamp (by omega : i < 2 ^ 31), q2 5 (by decide), nI_1]
    · show zup u 23 i (t 5 i) 23 a = t 5 a
      rw [zup_at]
      by_cases c : a = i
      · rw [if_pos ⟨rfl, c⟩, c]
      · rw [if_neg (fun z => c z.2)]; exact q3 a (by omega)
  obtain ⟨⟨z, u⟩, j1, j2, j3, j4⟩ := zlp_ex (f := fun w : Int32 × zS => FX8_ask_L2 0 v w.1 w.2) (fun i w => w.1 = nI i ∧ (∀ k, k ≠ 23 → w.2 k = t k) ∧ ∀ a, a < i → w.2 23 a = t 5 a) (n := 10) (a := (0, t)) ⟨rfl, fun _ _ => rfl, fun a ha => by omega⟩ hs
  simp only at j2 j3 j4
  subst j2
  have fu : Fr t u := fun k j hk => by
    rw [j3 k (fun z => by subst z; cases hk)]
  obtain ⟨t', f1, f2, f3, f4, f5⟩ := gCo (hS.fr fu).1 hS.2.1 (hB u j3 j4) (by decide)
  have e0 : ∀ j, sc 0 j = false → t' 0 j = t 0 j := fun j hj => by rw [f2 0 j hj, j3 0 (by decide)]
  have fr : ∀ k j, sc k j = false → t' k j = t k j := fun k j hk => by rw [f2 k j hk]; exact fu k j hk
  have e62 := e0 62 rfl
  have e61 := e0 61 rfl
  have step : FX8_ask 0 v t = if t 0 62 = 0 then some (0, zup (zup (zup t' 0 62 1) 0 60 v) 0 61 (mRu S na n d 8 0)) else if mRu S na n d 8 0 < t 0 61 then some (0, zup (zup (zup t' 0 62 1) 0 60 v) 0 61 (mRu S na n d 8 0)) else some (0, t') := by
    unfold FX8_ask
    rw [zlet_eq, j1]
    refine (zlp_exit (x := FX8_ask_b26 0 v u) ?_).trans ?_
    · show FX8_ask_L2 0 v (nI 10) u = _
      unfold FX8_ask_L2
      rw [if_pos (by decide)]
    · unfold FX8_ask_b26 FX8_ask_b47
      rw [f1, zbd_s, zlet_eq, e62, e61]
      rfl
  have hrc : ∀ w : zS, (∀ k j, ¬ (k = 0 ∧ 60 ≤ j ∧ j ≤ 62) → w k j = t' k j) → rC w (mRu S na n d) na n := by
    intro w hw
    obtain ⟨c1, c2, c3, c4, c5, c6⟩ := f3.1
    refine ⟨by rw [hw 0 46 (by omega)]; exact c1, by rw [hw 0 47 (by omega)]; exact c2, by rw [hw 0 48 (by omega)]; exact c3, by rw [hw 0 49 (by omega)]; exact c4, fun a ha => ?_, fun p hp => by rw [hw 0 50 (by omega)]; exact c6 p hp⟩
    rw [hw 22 a (by omega), hw 7 a (by omega)]; exact c5 a ha
  have upd : ∀ k j, ¬ (k = 0 ∧ 60 ≤ j ∧ j ≤ 62) → zup (zup (zup t' 0 62 1) 0 60 v) 0 61 (mRu S na n d 8 0) k j = t' k j := fun k j hk => by
    rw [zup_at, if_neg (by omega), zup_at, if_neg (by omega), zup_at, if_neg (by omega)]
  by_cases c : t 0 62 = 0 ∨ mRu S na n d 8 0 < t 0 61
  · refine ⟨zup (zup (zup t' 0 62 1) 0 60 v) 0 61 (mRu S na n d 8 0), ?_, fun k j h1 h2 => by rw [upd k j h2]; exact fr k j h1, hrc _ upd, f5, fun _ => ⟨by simp [zup_at], by simp [zup_at], by simp [zup_at]⟩, fun z => absurd c z⟩
    rw [step]
    by_cases c0 : t 0 62 = 0
    · rw [if_pos c0]
    · rw [if_neg c0, if_pos (c.resolve_left c0)]
  · refine ⟨t', ?_, fun k j h1 _ => fr k j h1, hrc _ (fun _ _ _ => rfl), f5, fun z => absurd z c, fun _ => ⟨e62, e0 60 rfl, e61⟩⟩
    rw [step, if_neg (fun z => c (Or.inl z)), if_neg (fun z => c (Or.inr z))]
