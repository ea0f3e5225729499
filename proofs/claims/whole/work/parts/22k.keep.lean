theorem fun_ {σ : zS} {A : Nat} (hA : A < 40) (h8 : σ 6 8 = nI (A + 1)) : ∃ σ', FX6_undoLast 6 σ = some (0, σ') ∧ σ' 6 8 = nI A ∧ (∀ i, i < 6 → σ' 6 i = σ 9 (26 * A + i)) ∧ (∀ j, 6 ≤ j → j ≠ 8 → σ' 6 j = σ 6 j) ∧ (∀ k, k ≠ 6 → k ≠ 7 → k ≠ 8 → σ' k = σ k) ∧ ∀ a, a < 10 → σ' 7 a = σ 9 (26 * A + 6 + a) ∧ σ' 8 a = σ 9 (26 * A + 16 + a) := by
  have e26 : nI A * 26 = nI (26 * A) := by rw [show (26 : Int32) = nI 26 from rfl, pk_mul, Nat.mul_comm]
  have r : ∀ (s : zS) (i : Nat), i < 26 → s 9 = σ 9 → FX7_at 9 (nI (26 * A + i)) s = some (σ 9 (26 * A + i), s) := fun s i hi hs => by
    rw [fat', show ln 0 9 = 1040 from rfl, rd_n (by omega) (by decide), hs]
  have r0 : ∀ (s : zS), s 9 = σ 9 → FX7_at 9 (nI (26 * A)) s = some (σ 9 (26 * A), s) := fun s hs => r s 0 (by decide) hs
  have a1 : nI (26 * A) + 1 = nI (26 * A + 1) := nI_1 _
  have a2 : nI (26 * A) + 2 = nI (26 * A + 2) := nI_add _ 2
  have a3 : nI (26 * A) + 3 = nI (26 * A + 3) := nI_add _ 3
  have a4 : nI (26 * A) + 4 = nI (26 * A + 4) := nI_add _ 4
  have a5 : nI (26 * A) + 5 = nI (26 * A + 5) := nI_add _ 5
  have u : ∀ (s : zS) (j : Nat) (v : Int32), s 9 = σ 9 → (zup s 6 j v) 9 = σ 9 := fun s j v hs => by rw [zup_n (by decide), hs]
  unfold FX6_undoLast
  rw [zlet_eq, zlet_eq, h8, nI_pred, show zup σ 6 8 (nI A) 6 8 = nI A from by rw [zup_at, if_pos ⟨rfl, rfl⟩], e26, show (6 + 3 : Nat) = 9 from rfl]
  rw [r0 _ (u _ _ _ rfl), zbd_s, zlet_eq, a1, r _ 1 (by decide) (u _ _ _ (u _ _ _ rfl)), zbd_s, zlet_eq, a2, r _ 2 (by decide) (u _ _ _ (u _ _ _ (u _ _ _ rfl))), zbd_s, zlet_eq, a3, r _ 3 (by decide) (u _ _ _ (u _ _ _ (u _ _ _ (u _ _ _ rfl)))), zbd_s, zlet_eq, a4, r _ 4 (by decide) (u _ _ _ (u _ _ _ (u _ _ _ (u _ _ _ (u _ _ _ rfl))))), zbd_s, zlet_eq, a5, r _ 5 (by decide) (u _ _ _ (u _ _ _ (u _ _ _ (u _ _ _ (u _ _ _ (u _ _ _ rfl)))))), zbd_s, zlet_eq, zlet_eq]
  have hk : ∀ k, k ≠ 6 → (zup (zup (zup (zup (zup (zup (zup σ 6 8 (nI A)) 6 0 (σ 9 (26 * A))) 6 1 (σ 9 (26 * A + 1))) 6 2 (σ 9 (26 * A + 2))) 6 3 (σ 9 (26 * A + 3))) 6 4 (σ 9 (26 * A + 4))) 6 5 (σ 9 (26 * A + 5))) k = σ k := fun k hk => by rw [zup_n hk, zup_n hk, zup_n hk, zup_n hk, zup_n hk, zup_n hk, zup_n hk]
  have h6 : ∀ i, i < 6 → (zup (zup (zup (zup (zup (zup (zup σ 6 8 (nI A)) 6 0 (σ 9 (26 * A))) 6 1 (σ 9 (26 * A + 1))) 6 2 (σ 9 (26 * A + 2))) 6 3 (σ 9 (26 * A + 3))) 6 4 (σ 9 (26 * A + 4))) 6 5 (σ 9 (26 * A + 5))) 6 i = σ 9 (26 * A + i) := by
    intro i hi
    rcases (by omega : i = 0 ∨ i = 1 ∨ i = 2 ∨ i = 3 ∨ i = 4 ∨ i = 5) with z | z | z | z | z | z <;> subst z <;> simp [zup_at]
  have h8' : (zup (zup (zup (zup (zup (zup (zup σ 6 8 (nI A)) 6 0 (σ 9 (26 * A))) 6 1 (σ 9 (26 * A + 1))) 6 2 (σ 9 (26 * A + 2))) 6 3 (σ 9 (26 * A + 3))) 6 4 (σ 9 (26 * A + 4))) 6 5 (σ 9 (26 * A + 5))) 6 8 = nI A := by simp [zup_at]
  have h9 : ∀ j, 6 ≤ j → j ≠ 8 → (zup (zup (zup (zup (zup (zup (zup σ 6 8 (nI A)) 6 0 (σ 9 (26 * A))) 6 1 (σ 9 (26 * A + 1))) 6 2 (σ 9 (26 * A + 2))) 6 3 (σ 9 (26 * A + 3))) 6 4 (σ 9 (26 * A + 4))) 6 5 (σ 9 (26 * A + 5))) 6 j = σ 6 j := by
    intro j hj hj2
    rw [zup_at, if_neg (by omega), zup_at, if_neg (by omega), zup_at, if_neg (by omega), zup_at, if_neg (by omega), zup_at, if_neg (by omega), zup_at, if_neg (by omega), zup_at, if_neg (by omega)]
  generalize zup (zup (zup (zup (zup (zup (zup σ 6 8 (nI A)) 6 0 (σ 9 (26 * A))) 6 1 (σ 9 (26 * A + 1))) 6 2 (σ 9 (26 * A + 2))) 6 3 (σ 9 (26 * A + 3))) 6 4 (σ 9 (26 * A + 4))) 6 5 (σ 9 (26 * A + 5)) = s at hk h6 h8' h9 ⊢
  have hs : ∀ (i : Nat) (q : Int32 × zS), i < 10 → (q.1 = nI i ∧ (∀ k, k ≠ 7 → k ≠ 8 → q.2 k = s k) ∧ ∀ a, a < i → q.2 7 a = σ 9 (26 * A + 6 + a) ∧ q.2 8 a = σ 9 (26 * A + 16 + a)) → ∃ q', FX6_undoLast_L102 6 (nI (26 * A)) q.1 q.2 = some (.inl q') ∧ (q'.1 = nI (i + 1) ∧ (∀ k, k ≠ 7 → k ≠ 8 → q'.2 k = s k) ∧ ∀ a, a < i + 1 → q'.2 7 a = σ 9 (26 * A + 6 + a) ∧ q'.2 8 a = σ 9 (26 * A + 16 + a)) := by
    intro i q hi ⟨q1, q2, q3⟩
    obtain ⟨x, t⟩ := q
    simp only at q1 q2 q3
    subst q1
    have b1 : nI (26 * A) + 6 + nI i = nI (26 * A + (6 + i)) := by rw [show (6 : Int32) = nI 6 from rfl, nI_add, nI_add, Nat.add_assoc]
    have b2 : nI (26 * A) + 6 + 10 + nI i = nI (26 * A + (16 + i)) := by rw [show (6 : Int32) = nI 6 from rfl, show (10 : Int32) = nI 10 from rfl, nI_add, nI_add, nI_add, Nat.add_assoc, Nat.add_assoc, ← Nat.add_assoc 6 10 i]
    have t9 : t 9 = σ 9 := (q2 9 (by decide) (by decide)).trans (hk 9 (by decide))
    refine ⟨(nI (i + 1), zup (zup t 7 i (σ 9 (26 * A + (6 + i)))) 8 i (σ 9 (26 * A + (16 + i)))), ?_, rfl, fun k k1 k2 => ?_, fun a ha => ?_⟩
    · show FX6_undoLast_L102 6 (nI (26 * A)) (nI i) t = _
      unfold FX6_undoLast_L102
      rw [if_neg (show ¬ (10 : Int32) ≤ nI i from nI_ge (b := 10) hi (by decide)), b1, show (6 + 3 : Nat) = 9 from rfl, r _ (6 + i) (by omega) t9, zbd_s, show (6 + 1 : Nat) = 7 from rfl, fput', show ln 0 7 = 10 from rfl, pt_n hi (by decide), zbd_s, b2, r _ (16 + i) (by omega) (by rw [zup_n (by decide), t9]), zbd_s, show (6 + 2 : Nat) = 8 from rfl, fput', show ln 0 8 = 10 from rfl, pt_n hi (by decide), zbd_s, zlet_eq, nI_1]
    · show zup (zup t 7 _ _) 8 _ _ k = s k
      rw [zup_n k2, zup_n k1]; exact q2 k k1 k2
    · show (zup (zup t 7 i (σ 9 (26 * A + (6 + i)))) 8 i (σ 9 (26 * A + (16 + i)))) 7 a = _ ∧ (zup (zup t 7 i (σ 9 (26 * A + (6 + i)))) 8 i (σ 9 (26 * A + (16 + i)))) 8 a = _
      by_cases c : a = i
      · subst c
        exact ⟨by rw [zup_n (by decide), zup_at, if_pos ⟨rfl, rfl⟩, Nat.add_assoc], by rw [zup_at, if_pos ⟨rfl, rfl⟩, Nat.add_assoc]⟩
      · obtain ⟨z1, z2⟩ := q3 a (by omega)
        exact ⟨by rw [zup_n (by decide), zup_at, if_neg (by omega)]; exact z1, by rw [zup_at, if_neg (by omega), zup_n (by decide)]; exact z2⟩
  obtain ⟨⟨x, t⟩, g1, g2, g3, g4⟩ := zlp_ex (f := fun q : Int32 × zS => FX6_undoLast_L102 6 (nI (26 * A)) q.1 q.2) (fun i q => q.1 = nI i ∧ (∀ k, k ≠ 7 → k ≠ 8 → q.2 k = s k) ∧ ∀ a, a < i → q.2 7 a = σ 9 (26 * A + 6 + a) ∧ q.2 8 a = σ 9 (26 * A + 16 + a)) (n := 10) (a := (0, s)) ⟨rfl, fun _ _ _ => rfl, fun a ha => by omega⟩ hs
  simp only at g2 g3 g4
  subst g2
  have e6 := g3 6 (by decide) (by decide)
  refine ⟨t, ?_, by rw [e6, h8'], fun i hi => by rw [e6, h6 i hi], fun j h1 h2 => by rw [e6, h9 j h1 h2], fun k k1 k2 k3 => by rw [g3 k k2 k3, hk k k1], g4⟩
  rw [g1]
  refine zlp_end ?_
  show FX6_undoLast_L102 6 (nI (26 * A)) (nI 10) t = _
  unfold FX6_undoLast_L102 FX6_undoLast_b159
  rw [if_pos (by decide)]
  rfl
/-- unpacked, in the reference -/
theorem gup {τ : zS} {k1 b L : Nat} (hl : ln 1 k1 = L) (hL : L < 2 ^ 30) (hb : b + 26 ≤ L) (hk1 : k1 ≠ 0 ∧ k1 ≠ 5 ∧ k1 ≠ 7) : ∃ τ', FX8_unpack 0 k1 (nI b) τ = some (0, τ') ∧ (∀ k, k ≠ 0 → k ≠ 5 → k ≠ 7 → τ' k = τ k) ∧ (∀ i, i < 6 → τ' 0 (29 + i) = τ k1 (b + i)) ∧ (∀ j, (j < 29 ∨ 34 < j) → τ' 0 j = τ 0 j) ∧ ∀ a, a < 10 → τ' 7 a = τ k1 (b + 6 + a) ∧ τ' 5 a = τ k1 (b + 16 + a) := by
  obtain ⟨n0, n5, n7⟩ := hk1
  unfold FX8_unpack
  have a1 : nI b + 1 = nI (b + 1) := nI_1 _
  have a2 : nI b + 2 = nI (b + 2) := nI_add _ 2
  have a3 : nI b + 3 = nI (b + 3) := nI_add _ 3
  have a4 : nI b + 4 = nI (b + 4) := nI_add _ 4
  have a5 : nI b + 5 = nI (b + 5) := nI_add _ 5
  simp only [hl, zlet_eq, a1, a2, a3, a4, a5, zin_n _ (by omega : b < L) (by omega : L < 2 ^ 31), zin_n _ (by omega : b + 1 < L) (by omega : L < 2 ^ 31), zin_n _ (by omega : b + 2 < L) (by omega : L < 2 ^ 31), zin_n _ (by omega : b + 3 < L) (by omega : L < 2 ^ 31), zin_n _ (by omega : b + 4 < L) (by omega : L < 2 ^ 31), zin_n _ (by omega : b + 5 < L) (by omega : L < 2 ^ 31), nI_clamp (by omega : b < 2 ^ 31), nI_clamp (by omega : b + 1 < 2 ^ 31), nI_clamp (by omega : b + 2 < 2 ^ 31), nI_clamp (by omega : b + 3 < 2 ^ 31), nI_clamp (by omega : b + 4 < 2 ^ 31), nI_clamp (by omega : b + 5 < 2 ^ 31), zup_n n0]
  have hk : ∀ k, k ≠ 0 → (zup (zup (zup (zup (zup (zup τ 0 29 (τ k1 b)) 0 30 (τ k1 (b + 1))) 0 31 (τ k1 (b + 2))) 0 32 (τ k1 (b + 3))) 0 33 (τ k1 (b + 4))) 0 34 (τ k1 (b + 5))) k = τ k := fun k hk => by rw [zup_n hk, zup_n hk, zup_n hk, zup_n hk, zup_n hk, zup_n hk]
  have h6 : ∀ i, i < 6 → (zup (zup (zup (zup (zup (zup τ 0 29 (τ k1 b)) 0 30 (τ k1 (b + 1))) 0 31 (τ k1 (b + 2))) 0 32 (τ k1 (b + 3))) 0 33 (τ k1 (b + 4))) 0 34 (τ k1 (b + 5))) 0 (29 + i) = τ k1 (b + i) := by
    intro i hi
    rcases (by omega : i = 0 ∨ i = 1 ∨ i = 2 ∨ i = 3 ∨ i = 4 ∨ i = 5) with z | z | z | z | z | z <;> subst z <;> simp [zup_at]
  have h9 : ∀ j, (j < 29 ∨ 34 < j) → (zup (zup (zup (zup (zup (zup τ 0 29 (τ k1 b)) 0 30 (τ k1 (b + 1))) 0 31 (τ k1 (b + 2))) 0 32 (τ k1 (b + 3))) 0 33 (τ k1 (b + 4))) 0 34 (τ k1 (b + 5))) 0 j = τ 0 j := by
    intro j hj
    rw [zup_at, if_neg (by omega), zup_at, if_neg (by omega), zup_at, if_neg (by omega), zup_at, if_neg (by omega), zup_at, if_neg (by omega), zup_at, if_neg (by omega)]
  generalize zup (zup (zup (zup (zup (zup τ 0 29 (τ k1 b)) 0 30 (τ k1 (b + 1))) 0 31 (τ k1 (b + 2))) 0 32 (τ k1 (b + 3))) 0 33 (τ k1 (b + 4))) 0 34 (τ k1 (b + 5)) = s at hk h6 h9 ⊢
  have hs : ∀ (i : Nat) (q : Int32 × zS), i < 10 → (q.1 = nI i ∧ (∀ k, k ≠ 5 → k ≠ 7 → q.2 k = s k) ∧ ∀ a, a < i → q.2 7 a = τ k1 (b + 6 + a) ∧ q.2 5 a = τ k1 (b + 16 + a)) → ∃ q', FX8_unpack_L54 0 k1 (nI b) q.1 q.2 = some (.inl q') ∧ (q'.1 = nI (i + 1) ∧ (∀ k, k ≠ 5 → k ≠ 7 → q'.2 k = s k) ∧ ∀ a, a < i + 1 → q'.2 7 a = τ k1 (b + 6 + a) ∧ q'.2 5 a = τ k1 (b + 16 + a)) := by
    intro i q hi ⟨q1, q2, q3⟩
    obtain ⟨x, t⟩ := q
    simp only at q1 q2 q3
    subst q1
    have b1 : nI b + 6 + nI i = nI (b + (6 + i)) := by rw [show (6 : Int32) = nI 6 from rfl, nI_add, nI_add, Nat.add_assoc]
    have b2 : nI b + 6 + 10 + nI i = nI (b + (16 + i)) := by rw [show (6 : Int32) = nI 6 from rfl, show (10 : Int32) = nI 10 from rfl, nI_add, nI_add, nI_add, Nat.add_assoc, Nat.add_assoc, ← Nat.add_assoc 6 10 i]
    have tk : t k1 = τ k1 := (q2 k1 n5 n7).trans (hk k1 n0)
    refine ⟨(nI (i + 1), zup (zup t 7 i (τ k1 (b + (6 + i)))) 5 i (τ k1 (b + (16 + i)))), ?_, rfl, fun k kk k2 => ?_, fun a ha => ?_⟩
    · show FX8_unpack_L54 0 k1 (nI b) (nI i) t = _
      unfold FX8_unpack_L54
      simp only [zlet_eq, zbd_s, zgd_t, zinr_s, Nat.zero_add, rn_3, rn_4, rn_5, rn_6, rn_7, rn_8, rn_9, rn_10, rn_11, rn_12, rn_13, rn_14, rn_15, rn_16, rn_17, rn_18, rn_19, rn_20, rn_21, rn_22, rn_23, rn_24, rn_25, rn_26, rn_27, rn_28, rn_29, rn_30, rn_31, rn_32, rn_33, rn_34, rn_35, rn_36, rn_37, rn_38, rn_39, rn_40, tn_0, tn_1, tn_2, tn_3, tn_4, tn_5, tn_6, tn_7, tn_8, zi_18_0, zi_18_1, zi_18_2, zi_18_3, zi_18_4, zi_18_5, zi_18_6, zi_18_7, zi_18_8, zi_7_0, zi_7_1, zi_7_2, zi_7_3, zi_7_4, zi_7_5, zi_7_6, zi_64_0, if_neg (show ¬ (10 : Int32) ≤ nI i from nI_ge (b := 10) hi (by decide)), zin_n _ (by omega : i < 20) (by decide : 20 < 2 ^ 31), nI_clamp (by omega : i < 2 ^ 31), b1, b2, hl, zin_n _ (by omega : b + (6 + i) < L) (by omega : L < 2 ^ 31), zin_n _ (by omega : b + (16 + i) < L) (by omega : L < 2 ^ 31), nI_clamp (by omega : b + (6 + i) < 2 ^ 31), nI_clamp (by omega : b + (16 + i) < 2 ^ 31), tk, zup_n n7, nI_1]
    · show zup (zup t 7 _ _) 5 _ _ k = s k
      rw [zup_n kk, zup_n k2]; exact q2 k kk k2
    · show (zup (zup t 7 i (τ k1 (b + (6 + i)))) 5 i (τ k1 (b + (16 + i)))) 7 a = _ ∧ (zup (zup t 7 i (τ k1 (b + (6 + i)))) 5 i (τ k1 (b + (16 + i)))) 5 a = _
      by_cases c : a = i
      · subst c
        exact ⟨by rw [zup_n (by decide), zup_at, if_pos ⟨rfl, rfl⟩, Nat.add_assoc], by rw [zup_at, if_pos ⟨rfl, rfl⟩, Nat.add_assoc]⟩
      · obtain ⟨z1, z2⟩ := q3 a (by omega)
        exact ⟨by rw [zup_n (by decide), zup_at, if_neg (by omega)]; exact z1, by rw [zup_at, if_neg (by omega), zup_n (by decide)]; exact z2⟩
  obtain ⟨⟨x, t⟩, g1, g2, g3, g4⟩ := zlp_ex (f := fun q : Int32 × zS => FX8_unpack_L54 0 k1 (nI b) q.1 q.2) (fun i q => q.1 = nI i ∧ (∀ k, k ≠ 5 → k ≠ 7 → q.2 k = s k) ∧ ∀ a, a < i → q.2 7 a = τ k1 (b + 6 + a) ∧ q.2 5 a = τ k1 (b + 16 + a)) (n := 10) (a := (0, s)) ⟨rfl, fun _ _ _ => rfl, fun a ha => by omega⟩ hs
  simp only at g2 g3 g4
  subst g2
  have e0 := g3 0 (by decide) (by decide)
  refine ⟨t, ?_, fun k k1 k2 k3 => by rw [g3 k k2 k3, hk k k1], fun i hi => by rw [e0, h6 i hi], fun j hj => by rw [e0, h9 j hj], g4⟩
  rw [g1]
  refine zlp_end ?_
  show FX8_unpack_L54 0 k1 (nI b) (nI 10) t = _
  unfold FX8_unpack_L54 FX8_unpack_b97
  rw [if_pos (by decide)]
  rfl
/-- undo -/
theorem rel_undo {σ τ : zS} (h : RR σ τ) : relI (FX7_undo 0 σ) (FX8_undo 0 τ) := by
  have h0 := h.code 0
  obtain ⟨q, na, n, nr, h⟩ := h0
  obtain ⟨k1, ⟨A, a1, a2, a3, a4⟩, k3, k4, k5⟩ := id h.2.2.2.1
  have h10 := h.2.2.1.1.1.1
  unfold FX7_undo FX8_undo
  simp only [zlet_eq, Nat.zero_add]
  generalize zup τ 0 2 0 = t at *
  rw [a2, a3]
  cases A with
  | zero =>
    rw [if_neg (by decide), if_pos (show nI 0 = 0 from rfl)]
    exact ⟨-1, σ, t, rfl, rfl, q, na, n, nr, h⟩
  | succ A =>
    obtain ⟨σ1, u1, u2, u3, u4, u5, u6⟩ := fun_ (by omega : A < 40) a2
    have e26 : 26 * nI A = nI (26 * A) := by rw [show (26 : Int32) = nI 26 from rfl, pk_mul]
    obtain ⟨τ1, v1, v2, v3, v4, v5⟩ := gup (τ := zup t 0 35 (nI A)) (k1 := 19) (b := 26 * A) (L := 1040) rfl (by decide) (by omega) (by decide)
    have ec : zup t 0 35 (nI A) 0 35 = nI A := by rw [zup_at, if_pos ⟨rfl, rfl⟩]
    rw [if_pos (show 0 < nI (A + 1) from nI_lt (a := 0) (by omega) (by omega)), if_neg (nI_ne0 (by omega : 0 < A + 1) (by omega)), u1, zbd_s, nI_pred, ec, e26, v1, zbd_s]
    have e35 : τ1 0 35 = nI A := by rw [v4 35 (by decide), ec]
    have e8 : zup σ1 0 9 0 6 8 = nI A := by rw [zup_n (by decide), u2]
    rw [e8, e35]
    have hf : Fn σ (zup σ1 0 9 0) := by
      intro k j hk h9
      rw [zup_at, if_neg h9, u5 k (by omega) (by omega) (by omega)]
    have t19 : (zup t 0 35 (nI A)) 19 = t 19 := zup_n (by decide)
    rw [t19] at v3 v5
    have hg : Gn t τ1 := by
      intro k j hk h2 hm
      by_cases c : k = 0
      · subst c
        rw [v4 j (by omega), zup_at, if_neg (by omega)]
      · rw [v2 k c (by omega) (by omega), zup_n c]
    obtain ⟨w1, w2, w3, w4, w5⟩ := a4 A (by omega)
    refine ⟨nI A, _, _, rfl, rfl, q, na, n, nr, h.now hf hg ⟨?_, ⟨A, by omega, e8, e35, fun s hs => ?_⟩, ?_, ?_, ?_⟩ (rTd.z (by rw [zup_at, if_pos ⟨rfl, rfl⟩]))⟩
    · refine ⟨fun i hi => ?_, ?_, ?_, ?_, fun a ha => ?_⟩
      · show zup σ1 0 9 0 6 i = τ1 0 (29 + i)
        rw [zup_n (by decide), u3 i hi, v3 i hi]; exact w1 i hi
      · rw [zup_n (by decide), u3 0 (by decide), u3 1 (by decide)]; exact w2
      · rw [zup_n (by decide), u3 2 (by decide)]; exact w3
      · rw [zup_n (by decide), u3 4 (by decide)]; exact w4
      · obtain ⟨y1, y2, y3⟩ := w5 a ha
        obtain ⟨x1, x2⟩ := u6 a (by omega)
        obtain ⟨x3, x4⟩ := v5 a (by omega)
        rw [zup_n (by decide), zup_n (by decide)]
        exact ⟨by rw [show (6 + 1 : Nat) = 7 from rfl, x1, x3]; exact y1, by rw [show (6 + 2 : Nat) = 8 from rfl, x2, x4]; exact y2, by rw [show (6 + 2 : Nat) = 8 from rfl, x2]; exact y3⟩
    · have e9 : zup σ1 0 9 0 (6 + 3) = σ 9 := by rw [zup_n (by decide), u5 _ (by decide) (by decide) (by decide)]
      have e19 : τ1 19 = t 19 := by rw [v2 19 (by decide) (by decide) (by decide), t19]
      rw [e9, e19]
      exact a4 s (by omega)
    · have f4 : zup σ1 0 9 0 (6 + 4) = σ 10 := by rw [zup_n (by decide), u5 _ (by decide) (by decide) (by decide)]
      have f5 : zup σ1 0 9 0 (6 + 5) = σ 11 := by rw [zup_n (by decide), u5 _ (by decide) (by decide) (by decide)]
      rw [f4, f5, zup_n (by decide), u4 10 (by decide) (by decide), v4 36 (by decide), v2 29 (by decide) (by decide) (by decide), v2 30 (by decide) (by decide) (by decide), zup_at, if_neg (by decide), zup_n (by decide), zup_n (by decide)]
      exact k3
    · have f4 : zup σ1 0 9 0 (6 + 6) = σ 12 := by rw [zup_n (by decide), u5 _ (by decide) (by decide) (by decide)]
      have f5 : zup σ1 0 9 0 (6 + 7) = σ 13 := by rw [zup_n (by decide), u5 _ (by decide) (by decide) (by decide)]
      rw [f4, f5, zup_n (by decide), u4 13 (by decide) (by decide), v4 37 (by decide), v2 31 (by decide) (by decide) (by decide), v2 32 (by decide) (by decide) (by decide), zup_at, if_neg (by decide), zup_n (by decide), zup_n (by decide)]
      exact k4
    · have f4 : zup σ1 0 9 0 (6 + 8) = σ 14 := by rw [zup_n (by decide), u5 _ (by decide) (by decide) (by decide)]
      rw [f4, v2 16 (by decide) (by decide) (by decide), zup_n (by decide)]
      exact k5
