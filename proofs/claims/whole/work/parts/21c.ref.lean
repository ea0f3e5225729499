/-- a loop with an invariant by its turns -/
theorem zlp_ex {α β : Type} {f : α → Option (α ⊕ β)} (I : Nat → α → Prop) {n : Nat} {a : α} (h0 : I 0 a) (hs : ∀ i a, i < n → I i a → ∃ a', f a = some (.inl a') ∧ I (i + 1) a') : ∃ a', zlp f a = zlp f a' ∧ I n a' := by
  have : ∀ k, k ≤ n → ∃ a', zlp f a = zlp f a' ∧ I k a' := by
    intro k
    induction k with
    | zero => intro _; exact ⟨a, rfl, h0⟩
    | succ k ih =>
      intro hk
      obtain ⟨a1, h1, h2⟩ := ih (by omega)
      obtain ⟨a2, h3, h4⟩ := hs k a1 (by omega) h2
      exact ⟨a2, by rw [h1, zlp_step h3], h4⟩
  exact this n (Nat.le_refl n)
theorem grek {τ : zS} {s t a b : Int32} (h : sg s t) (h1 : ¬ -8 < s) (h2 : ¬ s = -12) : FX8_reckon t a b τ = some (mJn s a b, τ) := by
  have hz : ∀ r : Option (Int32 × zS), ¬ b = 0 → zgd (b != 0) r = r := fun r hb => by rw [bne_iff_ne.mpr hb]; rfl
  unfold FX8_reckon FX8_reckon_b102 FX8_reckon_b103 FX8_reckon_b89 FX8_reckon_b78 FX8_reckon_b67 FX8_reckon_b112 FX8_reckon_b117 mJn
  rcases h with h | h | h | h | h | h | h | h | h | h
  · exact absurd h.2 h1
  all_goals obtain ⟨rfl, rfl⟩ := h
  · by_cases c1 : a = 0 <;> by_cases c2 : b = 0 <;> simp [c1, c2, b01]
  · by_cases c1 : a = 0 <;> by_cases c2 : b = 0 <;> simp [c1, c2, b01]
  · exact absurd rfl h2
  · by_cases c1 : b ≤ a <;> simp [c1, b01]
  · by_cases c1 : a = b <;> simp [c1, b01]
  · simp
  · simp
  · simp
  · by_cases c2 : b = 0
    · simp [c2]
    · simp [c2, hz]
theorem fo_s {α : Type} {f : Nat → α → α} {n : Nat} {a : α} : fo f (n + 1) a = f n (fo f n a) := rfl
/-- what a stack has in common -/
def stk (h : Nat) (τ D : zS) : Prop := D 12 0 = nI h ∧ ∀ j, j < h → D 11 j = τ 21 j
theorem mPu_n {D : zS} {h : Nat} {v : Int32} (h0 : D 12 0 = nI h) (h1 : h < 40) : mPu D v = zup (zup D 11 h v) 12 0 (nI (h + 1)) := by
  unfold mPu
  rw [h0, pt_n h1 (by decide), nI_1]
theorem mPo_n {D : zS} {h : Nat} (h0 : D 12 0 = nI (h + 1)) : mPo D = zup D 12 0 (nI h) := by
  unfold mPo
  rw [h0, nI_pred]
theorem mTo_n {D : zS} {h : Nat} (h0 : D 12 0 = nI (h + 1)) (h1 : h < 40) : mTo D = D 11 h := by
  unfold mTo
  rw [h0, nI_pred, rd_n h1 (by decide)]
theorem stk_push {h : Nat} {τ D : zS} {v : Int32} (hs : stk h τ D) (h1 : h < 40) : stk (h + 1) (zup τ 21 h v) (mPu D v) := by
  rw [mPu_n hs.1 h1]
  refine ⟨by rw [zup_at, if_pos ⟨rfl, rfl⟩], fun j hj => ?_⟩
  rw [zup_n (by decide), zup_at, zup_at]
  by_cases e : j = h
  · rw [if_pos ⟨rfl, e⟩, if_pos ⟨rfl, e⟩]
  · rw [if_neg (by omega), if_neg (by omega)]
    exact hs.2 j (by omega)
theorem stk_pop {h : Nat} {τ D : zS} (hs : stk (h + 1) τ D) : stk h τ (mPo D) := by
  rw [mPo_n hs.1]
  refine ⟨by rw [zup_at, if_pos ⟨rfl, rfl⟩], fun j hj => ?_⟩
  rw [zup_n (by decide)]
  exact hs.2 j (by omega)
theorem sg_m8 {s : Int32} (h : -8 < s) (h0 : s < 0) : ∃ k, k < 7 ∧ -1 - s = nI k := by
  rw [fa_lt] at h h0
  have e1 : (-8 : Int32).toInt = -8 := rfl
  have e2 : (0 : Int32).toInt = 0 := rfl
  rw [e1] at h
  rw [e2] at h0
  have hk : ∃ k : Nat, k < 7 ∧ s.toInt = -1 - (k : Int) := ⟨(-1 - s.toInt).toNat, by omega, by omega⟩
  obtain ⟨k, hk, hs⟩ := hk
  refine ⟨k, hk, ?_⟩
  have : s = -1 - nI k := by
    rw [fa_eq, hs]
    exact ((by decide +kernel : ∀ k, k < 7 → ((-1 : Int32) - nI k).toInt = -1 - (k : Int)) k hk).symm
  rw [this]
  exact (by decide +kernel : ∀ k, k < 7 → (-1 : Int32) - (-1 - nI k) = nI k) k hk
/-- a rule's value, on both sides -/
theorem gVb {τ S d : zS} {r : Nat} (hr : rR τ S r) (ha : ∀ j, j < 7 → τ 20 j = d 7 j) : ∃ τ', FX8_valueBy 0 (nI r) τ = some (mTo (mVd S r d), τ') ∧ ∀ k, k ≠ 21 → τ' k = τ k := by
  obtain ⟨⟨h4, hA, hB, hab, h7⟩, g14, g14', hsg, h, hh0, hhm, hh⟩ := hr
  have key : ∀ a : Int32, a = nI (mA S r) → ∃ τ', FX8_valueBy_b18 0 (nI r) 0 a τ = some (mTo (mVd S r d), τ') ∧ ∀ k, k ≠ 21 → τ' k = τ k := by
    intro a ha0
    subst ha0
    unfold FX8_valueBy_b18
    rw [zlet_eq]
    have hs : ∀ (i : Nat) (q : Int32 × Int32 × zS), i < mB S r - mA S r → (q.1 = nI (h i) ∧ q.2.1 = nI (mA S r + i) ∧ (∀ k, k ≠ 21 → q.2.2 k = τ k) ∧ stk (h i) q.2.2 (fo (fun i => mV1 (S 16 (mA S r + i))) i (zup d 12 0 0))) → ∃ q', FX8_valueBy_L19 0 (nI r) q.1 q.2.1 q.2.2 = some (.inl q') ∧ (q'.1 = nI (h (i + 1)) ∧ q'.2.1 = nI (mA S r + (i + 1)) ∧ (∀ k, k ≠ 21 → q'.2.2 k = τ k) ∧ stk (h (i + 1)) q'.2.2 (fo (fun i => mV1 (S 16 (mA S r + i))) (i + 1) (zup d 12 0 0))) := by
      intro i q hi ⟨q1, q2, q3, q4⟩
      obtain ⟨x2, x3, τ1⟩ := q
      simp only at q1 q2 q3 q4
      subst q1 q2
      obtain ⟨j, hjd⟩ : ∃ j, j = mA S r + i := ⟨_, rfl⟩
      obtain ⟨k1, k2⟩ := hh i hi
      replace k2 : if -8 < S 16 j then h (i + 1) = h i + 1 else if S 16 j = -12 then 1 ≤ h i ∧ h (i + 1) = h i else 2 ≤ h i ∧ h (i + 1) + 1 = h i := by rw [hjd]; exact k2
      have hsg1 := hsg j (by omega) (by omega)
      have hD7 : (fo (fun i => mV1 (S 16 (mA S r + i))) i (zup d 12 0 0)) 7 = d 7 := fo_inv (fun _ (e : zS) => e 7 = d 7) (zup_n (by decide)) (fun p e _ he => by rw [mV1_o (by decide) (by decide), he])
      have e1 : fo (fun i => mV1 (S 16 (mA S r + i))) (i + 1) (zup d 12 0 0) = mV1 (S 16 j) (fo (fun i => mV1 (S 16 (mA S r + i))) i (zup d 12 0 0)) := by rw [hjd]; exact fo_s
      rw [e1]
      generalize fo (fun i => mV1 (S 16 (mA S r + i))) i (zup d 12 0 0) = D at q4 hD7
      have hj : j < mB S r := by omega
      have hj7 : j < 700 := by omega
      have e15 : τ1 15 = τ 15 := q3 15 (by decide)
      have e14 : τ1 14 = τ 14 := q3 14 (by decide)
      have e20 : τ1 20 = τ 20 := q3 20 (by decide)
      have hh36 : h i < 36 := by omega
      have base : FX8_valueBy_L19 0 (nI r) (nI (h i)) (nI (j)) τ1 = (if τ 15 (j) ≤ -20 then (if τ 15 (j) = -28 then zin 64 (nI (h i) - 1) (if τ1 21 (Int32.toNatClampNeg (nI (h i) - 1)) = 0 then FX8_valueBy_b105 0 (nI r) (nI (h i)) (nI (j)) 21 (nI (h i) - 1) 1 τ1 else FX8_valueBy_b105 0 (nI r) (nI (h i)) (nI (j)) 21 (nI (h i) - 1) 0 τ1) else zin 64 (nI (h i) + -1 - 1) (zin 64 (nI (h i) + -1) (zbd (FX8_reckon (τ 15 (j)) (τ1 21 (Int32.toNatClampNeg (nI (h i) + -1 - 1))) (τ1 21 (Int32.toNatClampNeg (nI (h i) + -1))) τ1) (fun r_8 σ_7 => zin 64 (nI (h i) + -1 - 1) (FX8_valueBy_b139 0 (nI r) (nI (h i) + -1) (nI (j)) (zup σ_7 21 (Int32.toNatClampNeg (nI (h i) + -1 - 1)) r_8)))))) else if τ 15 (j) < 0 then zin 7 (-1 - τ 15 (j)) (FX8_valueBy_b68 0 (nI r) (nI (h i)) (nI (j)) 21 (nI (h i)) (τ 20 (Int32.toNatClampNeg (-1 - τ 15 (j)))) τ1) else FX8_valueBy_b68 0 (nI r) (nI (h i)) (nI (j)) 21 (nI (h i)) (τ 15 (j)) τ1) := by
        unfold FX8_valueBy_L19
        simp only [zlet_eq, zbd_s, zgd_t, zinr_s, Nat.zero_add, rn_3, rn_4, rn_5, rn_6, rn_7, rn_8, rn_9, rn_10, rn_11, rn_12, rn_13, rn_14, rn_15, rn_16, rn_17, rn_18, rn_19, rn_20, rn_21, rn_22, rn_23, rn_24, rn_25, rn_26, rn_27, rn_28, rn_29, rn_30, rn_31, rn_32, rn_33, rn_34, rn_35, rn_36, rn_37, rn_38, rn_39, rn_40, tn_0, tn_1, tn_2, tn_3, tn_4, tn_5, tn_6, tn_7, tn_8, zi_18_0, zi_18_1, zi_18_2, zi_18_3, zi_18_4, zi_18_5, zi_18_6, zi_18_7, zi_18_8, zi_7_0, zi_7_1, zi_7_2, zi_7_3, zi_7_4, zi_7_5, zi_7_6, zi_64_0, zin_n _ (by omega : r < 8) (by decide : 8 < 2 ^ 31), nI_clamp (by omega : r < 2 ^ 31), e14, e15, e20, g14, hB, if_neg (nI_ge hj (by omega : mB S r < 2 ^ 31)), zin_n _ (by omega : j < 1400) (by decide : 1400 < 2 ^ 31), nI_clamp (by omega : j < 2 ^ 31)]
      show ∃ q', FX8_valueBy_L19 0 (nI r) (nI (h i)) (nI (mA S r + i)) τ1 = some (.inl q') ∧ _
      rw [← hjd, base, show mA S r + (i + 1) = j + 1 from by omega]
      by_cases c1 : -8 < S 16 j
      · -- a number, a value
        rw [if_pos c1] at k2
        have hst : S 16 j = τ 15 j := by
          rcases hsg1 with z | z | z | z | z | z | z | z | z | z
          · exact z.1
          all_goals (rw [z.1] at c1; exact absurd c1 (by decide))
        rw [← hst]
        have n1 : ¬ S 16 j ≤ -20 := by
          rw [fa_lt] at c1; rw [fa_le]
          have e1 : (-8 : Int32).toInt = -8 := rfl
          have e2 : (-20 : Int32).toInt = -20 := rfl
          omega
        have n2 : ¬ S 16 j ≤ -10 := by
          rw [fa_lt] at c1; rw [fa_le]
          have e1 : (-8 : Int32).toInt = -8 := rfl
          have e2 : (-10 : Int32).toInt = -10 := rfl
          omega
        have push : ∀ v : Int32, FX8_valueBy_b68 0 (nI r) (nI (h i)) (nI j) 21 (nI (h i)) v τ1 = some (.inl (nI (h i + 1), nI (j + 1), zup τ1 21 (h i) v)) := by
          intro v
          unfold FX8_valueBy_b68 FX8_valueBy_b139
          simp only [zlet_eq, zbd_s, zgd_t, zinr_s, Nat.zero_add, rn_3, rn_4, rn_5, rn_6, rn_7, rn_8, rn_9, rn_10, rn_11, rn_12, rn_13, rn_14, rn_15, rn_16, rn_17, rn_18, rn_19, rn_20, rn_21, rn_22, rn_23, rn_24, rn_25, rn_26, rn_27, rn_28, rn_29, rn_30, rn_31, rn_32, rn_33, rn_34, rn_35, rn_36, rn_37, rn_38, rn_39, rn_40, tn_0, tn_1, tn_2, tn_3, tn_4, tn_5, tn_6, tn_7, tn_8, zi_18_0, zi_18_1, zi_18_2, zi_18_3, zi_18_4, zi_18_5, zi_18_6, zi_18_7, zi_18_8, zi_7_0, zi_7_1, zi_7_2, zi_7_3, zi_7_4, zi_7_5, zi_7_6, zi_64_0, zin_n _ (by omega : h i < 64) (by decide : 64 < 2 ^ 31), nI_clamp (by omega : h i < 2 ^ 31), nI_1]
        rw [if_neg n1, push, push]
        unfold mV1
        by_cases c2 : S 16 j < 0
        · obtain ⟨k, hk, hk2⟩ := sg_m8 c1 c2
          rw [if_pos c2, hk2, zin_n _ hk (by decide), nI_clamp (by omega), if_pos c2, if_neg n2, rd_n hk (by decide), hD7, ha k hk]
          exact ⟨_, rfl, by rw [k2], rfl, fun a ha => (zup_n ha).trans (q3 a ha), by rw [k2]; exact stk_push q4 (by omega)⟩
        · rw [if_neg c2, if_neg c2]
          exact ⟨_, rfl, by rw [k2], rfl, fun a ha => (zup_n ha).trans (q3 a ha), by rw [k2]; exact stk_push q4 (by omega)⟩
      · rw [if_neg c1] at k2
        have hneg : S 16 j < 0 ∧ S 16 j ≤ -10 ∧ τ 15 j ≤ -20 := by
          rcases hsg1 with z | z | z | z | z | z | z | z | z | z
          · exact absurd z.2 c1
          all_goals (rw [z.1, z.2]; decide)
        rw [if_pos hneg.2.2]
        unfold mV1
        rw [if_pos hneg.1, if_pos hneg.2.1]
        by_cases c2 : S 16 j = -12
        · -- not
          rw [if_pos c2] at k2
          have ht : τ 15 j = -28 := by
            rcases hsg1 with z | z | z | z | z | z | z | z | z | z
            · exact absurd z.2 c1
            all_goals (rw [z.1] at c2)
            all_goals first | exact z.2 | exact absurd c2 (by decide)
          obtain ⟨k, hk⟩ : ∃ k, h i = k + 1 := ⟨h i - 1, by omega⟩
          rw [if_pos c2, if_pos ht]
          rw [hk] at q4 hh36 ⊢
          rw [nI_pred, zin_n _ (by omega : k < 64) (by decide), nI_clamp (by omega)]
          have hto : mTo D = τ1 21 k := by rw [mTo_n q4.1 (by omega), q4.2 k (by omega)]
          have b : ∀ v : Int32, FX8_valueBy_b105 0 (nI r) (nI (k + 1)) (nI j) 21 (nI k) v τ1 = some (.inl (nI (k + 1), nI (j + 1), zup τ1 21 k v)) := by
            intro v
            unfold FX8_valueBy_b105 FX8_valueBy_b139
            simp only [zlet_eq, zbd_s, zgd_t, zinr_s, Nat.zero_add, rn_3, rn_4, rn_5, rn_6, rn_7, rn_8, rn_9, rn_10, rn_11, rn_12, rn_13, rn_14, rn_15, rn_16, rn_17, rn_18, rn_19, rn_20, rn_21, rn_22, rn_23, rn_24, rn_25, rn_26, rn_27, rn_28, rn_29, rn_30, rn_31, rn_32, rn_33, rn_34, rn_35, rn_36, rn_37, rn_38, rn_39, rn_40, tn_0, tn_1, tn_2, tn_3, tn_4, tn_5, tn_6, tn_7, tn_8, zi_18_0, zi_18_1, zi_18_2, zi_18_3, zi_18_4, zi_18_5, zi_18_6, zi_18_7, zi_18_8, zi_7_0, zi_7_1, zi_7_2, zi_7_3, zi_7_4, zi_7_5, zi_7_6, zi_64_0, zin_n _ (by omega : k < 64) (by decide : 64 < 2 ^ 31), nI_clamp (by omega : k < 2 ^ 31), nI_1]
          rw [b, b, hto]
          have hst := fun v => stk_push (v := v) (stk_pop q4) (by omega : k < 40)
          by_cases c3 : τ1 21 k = 0
          · rw [if_pos c3, decide_eq_true c3]
            exact ⟨_, rfl, by rw [k2.2, hk], rfl, fun a ha => (zup_n ha).trans (q3 a ha), by rw [k2.2, hk]; exact hst 1⟩
          · rw [if_neg c3, decide_eq_false c3]
            exact ⟨_, rfl, by rw [k2.2, hk], rfl, fun a ha => (zup_n ha).trans (q3 a ha), by rw [k2.2, hk]; exact hst 0⟩
        · -- two are joined
          rw [if_neg c2] at k2
          have ht : ¬ τ 15 j = -28 := by
            rcases hsg1 with z | z | z | z | z | z | z | z | z | z
            · exact absurd z.2 c1
            all_goals first | exact absurd z.1 c2 | (rw [z.2]; decide)
          obtain ⟨k, hk⟩ : ∃ k, h i = k + 2 := ⟨h i - 2, by omega⟩
          rw [if_neg c2, if_neg ht]
          rw [hk] at q4 hh36 ⊢
          have q5 := stk_pop q4
          have ho : mTo (mPo D) = τ1 21 k := by rw [mTo_n q5.1 (by omega), q5.2 k (by omega)]
          have hto : mTo D = τ1 21 (k + 1) := by rw [mTo_n q4.1 (by omega), q4.2 (k + 1) (by omega)]
          rw [pk_m1, nI_pred, zin_n _ (by omega : k < 64) (by decide), zin_n _ (by omega : k + 1 < 64) (by decide), nI_clamp (by omega), nI_clamp (by omega), grek hsg1 c1 c2, zbd_s, zin_n _ (by omega : k < 64) (by decide), ho, hto]
          unfold FX8_valueBy_b139
          rw [zlet_eq, nI_1]
          exact ⟨_, rfl, by rw [show h (i + 1) = k + 1 from by omega], rfl, fun a ha => (zup_n ha).trans (q3 a ha), by rw [show h (i + 1) = k + 1 from by omega]; exact stk_push (stk_pop q5) (by omega)⟩
    obtain ⟨⟨x2, x3, τ'⟩, h1, h2, h3, h4, h5⟩ := zlp_ex (f := fun q : Int32 × Int32 × zS => FX8_valueBy_L19 0 (nI r) q.1 q.2.1 q.2.2) (fun i q => q.1 = nI (h i) ∧ q.2.1 = nI (mA S r + i) ∧ (∀ k, k ≠ 21 → q.2.2 k = τ k) ∧ stk (h i) q.2.2 (fo (fun i => mV1 (S 16 (mA S r + i))) i (zup d 12 0 0))) (n := mB S r - mA S r) (a := (0, nI (mA S r), τ)) ⟨by rw [hh0]; rfl, rfl, fun _ _ => rfl, by rw [hh0]; exact ⟨by show zup d 12 0 0 12 0 = nI 0; rw [zup_at, if_pos ⟨rfl, rfl⟩]; rfl, fun j hj => by omega⟩⟩ hs
    simp only at h2 h3 h4
    subst h2 h3
    replace h5 : stk (h (mB S r - mA S r)) τ' (mVd S r d) := h5
    refine ⟨τ', ?_, h4⟩
    rw [h1]
    refine zlp_end ?_
    show FX8_valueBy_L19 0 (nI r) _ (nI (mA S r + (mB S r - mA S r))) τ' = _
    rw [Nat.add_sub_cancel' hab, hhm]
    rw [hhm] at h5
    have e0 : mTo (mVd S r d) = τ' 21 0 := by
      rw [← h5.2 0 (by omega)]
      exact mTo_n h5.1 (by decide)
    rw [e0]
    unfold FX8_valueBy_L19 FX8_valueBy_b145
    have e14 : τ' 14 = τ 14 := h4 14 (by decide)
    simp only [zlet_eq, zbd_s, zgd_t, zinr_s, Nat.zero_add, rn_3, rn_4, rn_5, rn_6, rn_7, rn_8, rn_9, rn_10, rn_11, rn_12, rn_13, rn_14, rn_15, rn_16, rn_17, rn_18, rn_19, rn_20, rn_21, rn_22, rn_23, rn_24, rn_25, rn_26, rn_27, rn_28, rn_29, rn_30, rn_31, rn_32, rn_33, rn_34, rn_35, rn_36, rn_37, rn_38, rn_39, rn_40, tn_0, tn_1, tn_2, tn_3, tn_4, tn_5, tn_6, tn_7, tn_8, zi_18_0, zi_18_1, zi_18_2, zi_18_3, zi_18_4, zi_18_5, zi_18_6, zi_18_7, zi_18_8, zi_7_0, zi_7_1, zi_7_2, zi_7_3, zi_7_4, zi_7_5, zi_7_6, zi_64_0, zin_n _ (by omega : r < 8) (by decide : 8 < 2 ^ 31), nI_clamp (by omega : r < 2 ^ 31), e14, g14, hB, if_pos (nI_le (Nat.le_refl _) (by omega : mB S r < 2 ^ 31))]
  unfold FX8_valueBy
  rw [zlet_eq]
  by_cases hr0 : r = 0
  · subst hr0
    rw [if_pos (show nI 0 = 0 from rfl)]
    exact key 0 (by rw [show mA S 0 = 0 from if_pos rfl]; rfl)
  · rw [if_neg (nI_ne0 (by omega) (by omega))]
    have e : nI r - 1 = nI (r - 1) := by
      obtain ⟨r', rfl⟩ : ∃ r', r = r' + 1 := ⟨r - 1, by omega⟩
      exact nI_pred r'
    rw [e]
    simp only [zlet_eq, zbd_s, zgd_t, zinr_s, Nat.zero_add, rn_3, rn_4, rn_5, rn_6, rn_7, rn_8, rn_9, rn_10, rn_11, rn_12, rn_13, rn_14, rn_15, rn_16, rn_17, rn_18, rn_19, rn_20, rn_21, rn_22, rn_23, rn_24, rn_25, rn_26, rn_27, rn_28, rn_29, rn_30, rn_31, rn_32, rn_33, rn_34, rn_35, rn_36, rn_37, rn_38, rn_39, rn_40, tn_0, tn_1, tn_2, tn_3, tn_4, tn_5, tn_6, tn_7, tn_8, zi_18_0, zi_18_1, zi_18_2, zi_18_3, zi_18_4, zi_18_5, zi_18_6, zi_18_7, zi_18_8, zi_7_0, zi_7_1, zi_7_2, zi_7_3, zi_7_4, zi_7_5, zi_7_6, zi_64_0, zin_n _ (by omega : r - 1 < 8) (by decide : 8 < 2 ^ 31), nI_clamp (by omega : r - 1 < 2 ^ 31)]
    exact key _ (by rw [g14' (by omega)]; exact hA (by omega))
