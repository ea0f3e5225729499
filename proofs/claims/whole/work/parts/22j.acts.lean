/-! acts are kept, and undone -/
theorem fku {σ : zS} {A : Nat} (hA : A < 40) (h8 : σ 6 8 = nI A) : ∃ σ', FX6_keepAct_b36 6 σ = some (0, σ') ∧ σ' 6 8 = nI (A + 1) ∧ (∀ j, j ≠ 8 → σ' 6 j = σ 6 j) ∧ (∀ k, k ≠ 6 → k ≠ 9 → σ' k = σ k) ∧ (∀ i, i < 6 → σ' 9 (26 * A + i) = σ 6 i) ∧ (∀ a, a < 10 → σ' 9 (26 * A + 6 + a) = σ 7 a ∧ σ' 9 (26 * A + 16 + a) = σ 8 a) ∧ ∀ j, j < 26 * A → σ' 9 j = σ 9 j := by
  have e26 : nI A * 26 = nI (26 * A) := by rw [show (26 : Int32) = nI 26 from rfl, pk_mul, Nat.mul_comm]
  have lt : ∀ i, i < 26 → 26 * A + i < 1040 := fun i hi => by omega
  have w : ∀ (s : zS) (i : Nat) (v : Int32), i < 26 → FX7_put 9 (nI (26 * A + i)) v s = some (0, zup s 9 (26 * A + i) v) := fun s i v hi => by
    rw [fput', show ln 0 9 = 1040 from rfl, pt_n (lt i hi) (by decide)]
  unfold FX6_keepAct_b36
  have a1 : nI (26 * A) + 1 = nI (26 * A + 1) := nI_1 _
  have a2 : nI (26 * A) + 2 = nI (26 * A + 2) := nI_add _ 2
  have a3 : nI (26 * A) + 3 = nI (26 * A + 3) := nI_add _ 3
  have a4 : nI (26 * A) + 4 = nI (26 * A + 4) := nI_add _ 4
  have a5 : nI (26 * A) + 5 = nI (26 * A + 5) := nI_add _ 5
  have w0 : ∀ (s : zS) (v : Int32), FX7_put 9 (nI (26 * A)) v s = some (0, zup s 9 (26 * A) v) := fun s v => w s 0 v (by decide)
  simp only [h8, zlet_eq, e26, a1, a2, a3, a4, a5, Nat.reduceAdd, w0, w _ 1 _ (by decide), w _ 2 _ (by decide), w _ 3 _ (by decide), w _ 4 _ (by decide), w _ 5 _ (by decide), zbd_s, zup_n (by decide : 6 ≠ 9)]
  have hk : ∀ k, k ≠ 9 → (zup (zup (zup (zup (zup (zup σ 9 (26 * A) (σ 6 0)) 9 (26 * A + 1) (σ 6 1)) 9 (26 * A + 2) (σ 6 2)) 9 (26 * A + 3) (σ 6 3)) 9 (26 * A + 4) (σ 6 4)) 9 (26 * A + 5) (σ 6 5)) k = σ k := fun k hk => by rw [zup_n hk, zup_n hk, zup_n hk, zup_n hk, zup_n hk, zup_n hk]
  have h6 : ∀ i, i < 6 → (zup (zup (zup (zup (zup (zup σ 9 (26 * A) (σ 6 0)) 9 (26 * A + 1) (σ 6 1)) 9 (26 * A + 2) (σ 6 2)) 9 (26 * A + 3) (σ 6 3)) 9 (26 * A + 4) (σ 6 4)) 9 (26 * A + 5) (σ 6 5)) 9 (26 * A + i) = σ 6 i := by
    intro i hi
    rcases (by omega : i = 0 ∨ i = 1 ∨ i = 2 ∨ i = 3 ∨ i = 4 ∨ i = 5) with z | z | z | z | z | z <;> subst z <;> simp [zup_at]
  have h9 : ∀ j, j < 26 * A → (zup (zup (zup (zup (zup (zup σ 9 (26 * A) (σ 6 0)) 9 (26 * A + 1) (σ 6 1)) 9 (26 * A + 2) (σ 6 2)) 9 (26 * A + 3) (σ 6 3)) 9 (26 * A + 4) (σ 6 4)) 9 (26 * A + 5) (σ 6 5)) 9 j = σ 9 j := by
    intro j hj
    rw [zup_at, if_neg (by omega), zup_at, if_neg (by omega), zup_at, if_neg (by omega), zup_at, if_neg (by omega), zup_at, if_neg (by omega), zup_at, if_neg (by omega)]
  generalize zup (zup (zup (zup (zup (zup σ 9 (26 * A) (σ 6 0)) 9 (26 * A + 1) (σ 6 1)) 9 (26 * A + 2) (σ 6 2)) 9 (26 * A + 3) (σ 6 3)) 9 (26 * A + 4) (σ 6 4)) 9 (26 * A + 5) (σ 6 5) = s at hk h6 h9 ⊢
  have hs : ∀ (i : Nat) (q : Int32 × zS), i < 10 → (q.1 = nI i ∧ (∀ k, k ≠ 9 → q.2 k = σ k) ∧ (∀ j, j < 26 * A + 6 → q.2 9 j = s 9 j) ∧ ∀ a, a < i → q.2 9 (26 * A + 6 + a) = σ 7 a ∧ q.2 9 (26 * A + 16 + a) = σ 8 a) → ∃ q', FX6_keepAct_L128 6 (nI (26 * A)) q.1 q.2 = some (.inl q') ∧ (q'.1 = nI (i + 1) ∧ (∀ k, k ≠ 9 → q'.2 k = σ k) ∧ (∀ j, j < 26 * A + 6 → q'.2 9 j = s 9 j) ∧ ∀ a, a < i + 1 → q'.2 9 (26 * A + 6 + a) = σ 7 a ∧ q'.2 9 (26 * A + 16 + a) = σ 8 a) := by
    intro i q hi ⟨q1, q2, q3, q4⟩
    obtain ⟨x, t⟩ := q
    simp only at q1 q2 q3 q4
    subst q1
    have b1 : nI (26 * A) + 6 + nI i = nI (26 * A + (6 + i)) := by rw [show (6 : Int32) = nI 6 from rfl, nI_add, nI_add, Nat.add_assoc]
    have b2 : nI (26 * A) + 6 + 10 + nI i = nI (26 * A + (16 + i)) := by rw [show (6 : Int32) = nI 6 from rfl, show (10 : Int32) = nI 10 from rfl, nI_add, nI_add, nI_add, Nat.add_assoc, Nat.add_assoc, ← Nat.add_assoc 6 10 i]
    refine ⟨(nI (i + 1), zup (zup t 9 (26 * A + (6 + i)) (σ 7 i)) 9 (26 * A + (16 + i)) (σ 8 i)), ?_, rfl, fun k k1 => ?_, fun j hj => ?_, fun a ha => ?_⟩
    · show FX6_keepAct_L128 6 (nI (26 * A)) (nI i) t = _
      unfold FX6_keepAct_L128
      simp only [if_neg (show ¬ (10 : Int32) ≤ nI i from nI_ge (b := 10) hi (by decide)), Nat.reduceAdd, fat', show ln 0 7 = 10 from rfl, show ln 0 8 = 10 from rfl, rd_n hi (by decide : 10 < 2 ^ 31), zbd_s, b1, b2, w _ (6 + i) _ (by omega), w _ (16 + i) _ (by omega), q2 7 (by decide), q2 8 (by decide), zup_n (by decide : 8 ≠ 9), zlet_eq, nI_1]
    · show zup (zup t 9 _ _) 9 _ _ k = σ k
      rw [zup_n k1, zup_n k1]; exact q2 k k1
    · show zup (zup t 9 _ _) 9 _ _ 9 j = s 9 j
      rw [zup_at, if_neg (by omega), zup_at, if_neg (by omega)]; exact q3 j hj
    · show zup (zup t 9 _ _) 9 _ _ 9 _ = _ ∧ zup (zup t 9 _ _) 9 _ _ 9 _ = _
      by_cases c : a = i
      · subst c
        exact ⟨by rw [zup_at, if_neg (by omega), zup_at, if_pos ⟨rfl, by omega⟩], by rw [zup_at, if_pos ⟨rfl, by omega⟩]⟩
      · obtain ⟨z1, z2⟩ := q4 a (by omega)
        exact ⟨by rw [zup_at, if_neg (by omega), zup_at, if_neg (by omega)]; exact z1, by rw [zup_at, if_neg (by omega), zup_at, if_neg (by omega)]; exact z2⟩
  obtain ⟨⟨x, t⟩, g1, g2, g3, g4, g5⟩ := zlp_ex (f := fun q : Int32 × zS => FX6_keepAct_L128 6 (nI (26 * A)) q.1 q.2) (fun i q => q.1 = nI i ∧ (∀ k, k ≠ 9 → q.2 k = σ k) ∧ (∀ j, j < 26 * A + 6 → q.2 9 j = s 9 j) ∧ ∀ a, a < i → q.2 9 (26 * A + 6 + a) = σ 7 a ∧ q.2 9 (26 * A + 16 + a) = σ 8 a) (n := 10) (a := (0, s)) ⟨rfl, hk, fun _ _ => rfl, fun a ha => by omega⟩ hs
  simp only at g2 g3 g4 g5
  subst g2
  have e6 := g3 6 (by decide)
  refine ⟨zup t 6 8 (nI (A + 1)), ?_, by rw [zup_at, if_pos ⟨rfl, rfl⟩], fun j hj => by rw [zup_at, if_neg (by omega), e6], fun k k1 k2 => by rw [zup_n k1]; exact g3 k k2, fun i hi => by rw [zup_n (by decide), g4 _ (by omega), h6 i hi], fun a ha => by rw [zup_n (by decide)]; exact g5 a ha, fun j hj => by rw [zup_n (by decide), g4 j (by omega), h9 j hj]⟩
  rw [g1]
  refine zlp_end ?_
  show FX6_keepAct_L128 6 (nI (26 * A)) (nI 10) t = _
  unfold FX6_keepAct_L128 FX6_keepAct_b185
  rw [if_pos (by decide), zlet_eq, e6, h8, nI_1]
  rfl
/-- packed, in the reference -/
theorem gpk {τ : zS} {k1 b L : Nat} (hl : ln 1 k1 = L) (hL : L < 2 ^ 30) (hb : b + 26 ≤ L) (hk1 : k1 ≠ 0 ∧ k1 ≠ 5 ∧ k1 ≠ 7) : ∃ τ', FX8_pack 0 k1 (nI b) τ = some (0, τ') ∧ (∀ k, k ≠ k1 → τ' k = τ k) ∧ (∀ i, i < 6 → τ' k1 (b + i) = τ 0 (29 + i)) ∧ (∀ a, a < 10 → τ' k1 (b + 6 + a) = τ 7 a ∧ τ' k1 (b + 16 + a) = τ 5 a) ∧ ∀ j, j < b → τ' k1 j = τ k1 j := by
  obtain ⟨n0, n5, n7⟩ := hk1
  unfold FX8_pack
  have a1 : nI b + 1 = nI (b + 1) := nI_1 _
  have a2 : nI b + 2 = nI (b + 2) := nI_add _ 2
  have a3 : nI b + 3 = nI (b + 3) := nI_add _ 3
  have a4 : nI b + 4 = nI (b + 4) := nI_add _ 4
  have a5 : nI b + 5 = nI (b + 5) := nI_add _ 5
  simp only [hl, zlet_eq, a1, a2, a3, a4, a5, zin_n _ (by omega : b < L) (by omega : L < 2 ^ 31), zin_n _ (by omega : b + 1 < L) (by omega : L < 2 ^ 31), zin_n _ (by omega : b + 2 < L) (by omega : L < 2 ^ 31), zin_n _ (by omega : b + 3 < L) (by omega : L < 2 ^ 31), zin_n _ (by omega : b + 4 < L) (by omega : L < 2 ^ 31), zin_n _ (by omega : b + 5 < L) (by omega : L < 2 ^ 31), nI_clamp (by omega : b < 2 ^ 31), nI_clamp (by omega : b + 1 < 2 ^ 31), nI_clamp (by omega : b + 2 < 2 ^ 31), nI_clamp (by omega : b + 3 < 2 ^ 31), nI_clamp (by omega : b + 4 < 2 ^ 31), nI_clamp (by omega : b + 5 < 2 ^ 31), zup_n (fun z => n0 z.symm : 0 ≠ k1)]
  have hk : ∀ k, k ≠ k1 → (zup (zup (zup (zup (zup (zup τ k1 b (τ 0 29)) k1 (b + 1) (τ 0 30)) k1 (b + 2) (τ 0 31)) k1 (b + 3) (τ 0 32)) k1 (b + 4) (τ 0 33)) k1 (b + 5) (τ 0 34)) k = τ k := fun k hk => by rw [zup_n hk, zup_n hk, zup_n hk, zup_n hk, zup_n hk, zup_n hk]
  have h6 : ∀ i, i < 6 → (zup (zup (zup (zup (zup (zup τ k1 b (τ 0 29)) k1 (b + 1) (τ 0 30)) k1 (b + 2) (τ 0 31)) k1 (b + 3) (τ 0 32)) k1 (b + 4) (τ 0 33)) k1 (b + 5) (τ 0 34)) k1 (b + i) = τ 0 (29 + i) := by
    intro i hi
    rcases (by omega : i = 0 ∨ i = 1 ∨ i = 2 ∨ i = 3 ∨ i = 4 ∨ i = 5) with z | z | z | z | z | z <;> subst z <;> simp [zup_at]
  have h9 : ∀ j, j < b → (zup (zup (zup (zup (zup (zup τ k1 b (τ 0 29)) k1 (b + 1) (τ 0 30)) k1 (b + 2) (τ 0 31)) k1 (b + 3) (τ 0 32)) k1 (b + 4) (τ 0 33)) k1 (b + 5) (τ 0 34)) k1 j = τ k1 j := by
    intro j hj
    rw [zup_at, if_neg (by omega), zup_at, if_neg (by omega), zup_at, if_neg (by omega), zup_at, if_neg (by omega), zup_at, if_neg (by omega), zup_at, if_neg (by omega)]
  generalize zup (zup (zup (zup (zup (zup τ k1 b (τ 0 29)) k1 (b + 1) (τ 0 30)) k1 (b + 2) (τ 0 31)) k1 (b + 3) (τ 0 32)) k1 (b + 4) (τ 0 33)) k1 (b + 5) (τ 0 34) = s at hk h6 h9 ⊢
  have hs : ∀ (i : Nat) (q : Int32 × zS), i < 10 → (q.1 = nI i ∧ (∀ k, k ≠ k1 → q.2 k = τ k) ∧ (∀ j, j < b + 6 → q.2 k1 j = s k1 j) ∧ ∀ a, a < i → q.2 k1 (b + 6 + a) = τ 7 a ∧ q.2 k1 (b + 16 + a) = τ 5 a) → ∃ q', FX8_pack_L54 0 k1 (nI b) q.1 q.2 = some (.inl q') ∧ (q'.1 = nI (i + 1) ∧ (∀ k, k ≠ k1 → q'.2 k = τ k) ∧ (∀ j, j < b + 6 → q'.2 k1 j = s k1 j) ∧ ∀ a, a < i + 1 → q'.2 k1 (b + 6 + a) = τ 7 a ∧ q'.2 k1 (b + 16 + a) = τ 5 a) := by
    intro i q hi ⟨q1, q2, q3, q4⟩
    obtain ⟨x, t⟩ := q
    simp only at q1 q2 q3 q4
    subst q1
    have b1 : nI b + 6 + nI i = nI (b + (6 + i)) := by rw [show (6 : Int32) = nI 6 from rfl, nI_add, nI_add, Nat.add_assoc]
    have b2 : nI b + 6 + 10 + nI i = nI (b + (16 + i)) := by rw [show (6 : Int32) = nI 6 from rfl, show (10 : Int32) = nI 10 from rfl, nI_add, nI_add, nI_add, Nat.add_assoc, Nat.add_assoc, ← Nat.add_assoc 6 10 i]
    refine ⟨(nI (i + 1), zup (zup t k1 (b + (6 + i)) (τ 7 i)) k1 (b + (16 + i)) (τ 5 i)), ?_, rfl, fun k kk => ?_, fun j hj => ?_, fun a ha => ?_⟩
    · show FX8_pack_L54 0 k1 (nI b) (nI i) t = _
      unfold FX8_pack_L54
      simp only [zlet_eq, zbd_s, zgd_t, zinr_s, Nat.zero_add, rn_3, rn_4, rn_5, rn_6, rn_7, rn_8, rn_9, rn_10, rn_11, rn_12, rn_13, rn_14, rn_15, rn_16, rn_17, rn_18, rn_19, rn_20, rn_21, rn_22, rn_23, rn_24, rn_25, rn_26, rn_27, rn_28, rn_29, rn_30, rn_31, rn_32, rn_33, rn_34, rn_35, rn_36, rn_37, rn_38, rn_39, rn_40, tn_0, tn_1, tn_2, tn_3, tn_4, tn_5, tn_6, tn_7, tn_8, zi_18_0, zi_18_1, zi_18_2, zi_18_3, zi_18_4, zi_18_5, zi_18_6, zi_18_7, zi_18_8, zi_7_0, zi_7_1, zi_7_2, zi_7_3, zi_7_4, zi_7_5, zi_7_6, zi_64_0, if_neg (show ¬ (10 : Int32) ≤ nI i from nI_ge (b := 10) hi (by decide)), zin_n _ (by omega : i < 20) (by decide : 20 < 2 ^ 31), nI_clamp (by omega : i < 2 ^ 31), b1, b2, hl, zin_n _ (by omega : b + (6 + i) < L) (by omega : L < 2 ^ 31), zin_n _ (by omega : b + (16 + i) < L) (by omega : L < 2 ^ 31), nI_clamp (by omega : b + (6 + i) < 2 ^ 31), nI_clamp (by omega : b + (16 + i) < 2 ^ 31), q2 7 (fun z => n7 z.symm), zup_n (fun z => n5 z.symm : 5 ≠ k1), q2 5 (fun z => n5 z.symm), nI_1]
    · show zup (zup t k1 _ _) k1 _ _ k = τ k
      rw [zup_n kk, zup_n kk]; exact q2 k kk
    · show zup (zup t k1 _ _) k1 _ _ k1 j = s k1 j
      rw [zup_at, if_neg (by omega), zup_at, if_neg (by omega)]; exact q3 j hj
    · show zup (zup t k1 _ _) k1 _ _ k1 _ = _ ∧ zup (zup t k1 _ _) k1 _ _ k1 _ = _
      by_cases c : a = i
      · subst c
        exact ⟨by rw [zup_at, if_neg (by omega), zup_at, if_pos ⟨rfl, by omega⟩], by rw [zup_at, if_pos ⟨rfl, by omega⟩]⟩
      · obtain ⟨z1, z2⟩ := q4 a (by omega)
        exact ⟨by rw [zup_at, if_neg (by omega), zup_at, if_neg (by omega)]; exact z1, by rw [zup_at, if_neg (by omega), zup_at, if_neg (by omega)]; exact z2⟩
  obtain ⟨⟨x, t⟩, g1, g2, g3, g4, g5⟩ := zlp_ex (f := fun q : Int32 × zS => FX8_pack_L54 0 k1 (nI b) q.1 q.2) (fun i q => q.1 = nI i ∧ (∀ k, k ≠ k1 → q.2 k = τ k) ∧ (∀ j, j < b + 6 → q.2 k1 j = s k1 j) ∧ ∀ a, a < i → q.2 k1 (b + 6 + a) = τ 7 a ∧ q.2 k1 (b + 16 + a) = τ 5 a) (n := 10) (a := (0, s)) ⟨rfl, hk, fun _ _ => rfl, fun a ha => by omega⟩ hs
  simp only at g2 g3 g4 g5
  subst g2
  refine ⟨t, ?_, g3, fun i hi => by rw [g4 _ (by omega), h6 i hi], g5, fun j hj => by rw [g4 j (by omega), h9 j hj]⟩
  rw [g1]
  refine zlp_end ?_
  show FX8_pack_L54 0 k1 (nI b) (nI 10) t = _
  unfold FX8_pack_L54 FX8_pack_b97
  rw [if_pos (by decide)]
  rfl
