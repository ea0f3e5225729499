/-- an act begins, on both sides: what is now is kept; nothing else has changed -/
theorem rKeep {σ t : zS} {q na n nr : Nat} (h : RQ σ t q na n nr) : ∃ σ' t', FX7_beginAct 0 σ = some (0, σ') ∧ FX8_keep 0 t = some (0, t') ∧ RQ σ' t' q na n nr ∧ Fn σ σ' ∧ Gn t t' ∧ σ' 0 9 = 0 ∧ (∀ j, j ≠ 8 → σ' 6 j = σ 6 j) ∧ (∀ k, k ≠ 0 → k ≠ 6 → k ≠ 9 → σ' k = σ k) ∧ (∀ j, j ≠ 35 → t' 0 j = t 0 j) ∧ (∀ k, k ≠ 0 → k ≠ 19 → t' k = t k) := by
  obtain ⟨k1, ⟨A, a1, a2, a3, a4⟩, k3, k4, k5⟩ := id h.2.2.2.1
  have h10 := h.2.2.1.1.1.1
  -- room is made
  have room : ∃ B s t1, B < 40 ∧ FX6_keepAct 6 σ = FX6_keepAct_b36 6 s ∧ FX8_keep 0 t = FX8_keep_b52 0 t1 ∧ s 6 8 = nI B ∧ t1 0 35 = nI B ∧ (∀ j, j ≠ 8 → s 6 j = σ 6 j) ∧ (∀ k, k ≠ 6 → k ≠ 9 → s k = σ k) ∧ (∀ j, j ≠ 35 → t1 0 j = t 0 j) ∧ (∀ k, k ≠ 0 → k ≠ 19 → t1 k = t k) ∧ ∀ u, u < B → nwR na n nr (fun i => s 9 (26 * u + i)) (fun a => s 9 (26 * u + 6 + a)) (fun a => s 9 (26 * u + 16 + a)) (fun i => t1 19 (26 * u + i)) (fun a => t1 19 (26 * u + 6 + a)) (fun a => t1 19 (26 * u + 16 + a)) := by
    unfold FX6_keepAct FX8_keep
    by_cases c : A = 40
    · subst c
      rw [a2, a3, if_pos (show nI 40 = 40 from rfl), if_pos (show nI 40 = 40 from rfl)]
      have hl : ln 0 (6 + 3) = 1040 := rfl
      rw [hl, show zcpok 1040 1040 26 0 1014 = true from by decide]
      simp only [zgd_t, zlet_eq]
      have e8 : zrow σ (6 + 3) (va_cpy (σ (6 + 3)) (σ (6 + 3)) (Int32.toNatClampNeg 26) (Int32.toNatClampNeg 0) (Int32.toNatClampNeg 1014)) 6 8 = nI 40 := by rw [zrow_at, if_neg (by decide), a2]
      rw [e8]
      have hs : ∀ (i : Nat) (w : Int32 × zS), i < 1014 → (w.1 = nI (26 + i) ∧ (∀ k, k ≠ 19 → w.2 k = t k) ∧ ∀ j, w.2 19 j = if j < i then t 19 (j + 26) else t 19 j) → ∃ w', FX8_keep_L12 0 w.1 w.2 = some (.inl w') ∧ (w'.1 = nI (26 + (i + 1)) ∧ (∀ k, k ≠ 19 → w'.2 k = t k) ∧ ∀ j, w'.2 19 j = if j < i + 1 then t 19 (j + 26) else t 19 j) := by
        intro i w hi ⟨q1, q2, q3⟩
        obtain ⟨x, t2⟩ := w
        simp only at q1 q2 q3
        subst q1
        have es : nI (26 + i) - 26 = nI i := by
          rw [show (26 : Int32) = nI 26 from rfl, pk_sub (by omega), Nat.add_sub_cancel_left]
        have ev : t2 19 (26 + i) = t 19 (i + 26) := by rw [q3, if_neg (by omega), Nat.add_comm]
        refine ⟨(nI (26 + (i + 1)), zup t2 19 i (t 19 (i + 26))), ?_, rfl, fun k kk => ?_, fun j => ?_⟩
        · show FX8_keep_L12 0 (nI (26 + i)) t2 = _
          unfold FX8_keep_L12
          simp only [zlet_eq, zbd_s, zgd_t, zinr_s, Nat.zero_add, rn_3, rn_4, rn_5, rn_6, rn_7, rn_8, rn_9, rn_10, rn_11, rn_12, rn_13, rn_14, rn_15, rn_16, rn_17, rn_18, rn_19, rn_20, rn_21, rn_22, rn_23, rn_24, rn_25, rn_26, rn_27, rn_28, rn_29, rn_30, rn_31, rn_32, rn_33, rn_34, rn_35, rn_36, rn_37, rn_38, rn_39, rn_40, tn_0, tn_1, tn_2, tn_3, tn_4, tn_5, tn_6, tn_7, tn_8, zi_18_0, zi_18_1, zi_18_2, zi_18_3, zi_18_4, zi_18_5, zi_18_6, zi_18_7, zi_18_8, zi_7_0, zi_7_1, zi_7_2, zi_7_3, zi_7_4, zi_7_5, zi_7_6, zi_64_0, if_neg (show ¬ nI 1040 ≤ nI (26 + i) from nI_ge (by omega) (by decide)), zin_n _ (by omega : 26 + i < 1040) (by decide : 1040 < 2 ^ 31), es, zin_n _ (by omega : i < 1040) (by decide : 1040 < 2 ^ 31), nI_clamp (by omega : i < 2 ^ 31), nI_clamp (by omega : 26 + i < 2 ^ 31), ev, nI_1]
          rfl
        · show zup t2 19 i _ k = t k
          rw [zup_n kk]; exact q2 k kk
        · show zup t2 19 i _ 19 j = _
          rw [zup_at, q3]
          by_cases c : j = i
          · rw [if_pos ⟨rfl, c⟩, if_pos (by omega), c]
          · rw [if_neg (fun z => c z.2)]
            by_cases c2 : j < i
            · rw [if_pos c2, if_pos (by omega)]
            · rw [if_neg c2, if_neg (by omega)]
      obtain ⟨⟨x, t2⟩, g1, g2, g3, g4⟩ := zlp_ex (f := fun w : Int32 × zS => FX8_keep_L12 0 w.1 w.2) (fun i w => w.1 = nI (26 + i) ∧ (∀ k, k ≠ 19 → w.2 k = t k) ∧ ∀ j, w.2 19 j = if j < i then t 19 (j + 26) else t 19 j) (n := 1014) (a := (26, t)) ⟨rfl, fun _ _ => rfl, fun j => by rw [if_neg (by omega)]⟩ hs
      simp only at g2 g3 g4
      subst g2
      have e0 := g3 0 (by decide)
      refine ⟨39, zup (zrow σ (6 + 3) (va_cpy (σ (6 + 3)) (σ (6 + 3)) (Int32.toNatClampNeg 26) (Int32.toNatClampNeg 0) (Int32.toNatClampNeg 1014))) 6 8 (nI 40 - 1), zup t2 0 35 (nI 39), by decide, rfl, ?_, by rw [zup_at, if_pos ⟨rfl, rfl⟩]; rfl, by rw [zup_at, if_pos ⟨rfl, rfl⟩], fun j hj => by rw [zup_at, if_neg (by omega), zrow_at, if_neg (by decide)], fun k kk k2 => by rw [zup_n kk, zrow_at, if_neg k2], fun j hj => by rw [zup_at, if_neg (by omega), e0], fun k kk k2 => by rw [zup_n kk]; exact g3 k k2, fun u hu => ?_⟩
      · rw [g1]
        refine zlp_exit ?_
        show FX8_keep_L12 0 (nI (26 + 1014)) t2 = _
        unfold FX8_keep_L12 FX8_keep_b42
        rw [Nat.zero_add, rn_19, if_pos (nI_le (by decide) (by decide)), zlet_eq, e0, a3]
        rfl
      · have e9 : ∀ j, j < 1014 → zup (zrow σ (6 + 3) (va_cpy (σ (6 + 3)) (σ (6 + 3)) (Int32.toNatClampNeg 26) (Int32.toNatClampNeg 0) (Int32.toNatClampNeg 1014))) 6 8 (nI 40 - 1) 9 j = σ 9 (j + 26) := by
          intro j hj
          rw [zup_n (by decide), zrow_at, if_pos rfl]
          show va_cpy (σ 9) (σ 9) 26 0 1014 j = _
          rw [pk_cpy_in (by omega) (by omega), Nat.sub_zero, Nat.add_comm]
        have e19 : ∀ j, j < 1014 → zup t2 0 35 (nI 39) 19 j = t 19 (j + 26) := fun j hj => by rw [zup_n (by decide), g4, if_pos hj]
        have ha := a4 (u + 1) (by omega)
        refine ha.c (fun i hi => ?_) (fun a haa => ?_) (fun a haa => ?_) (fun i hi => ?_) (fun a haa => ?_) (fun a haa => ?_)
        · rw [e9 _ (by omega)]; congr 1; omega
        · rw [e9 _ (by omega)]; congr 1; omega
        · rw [e9 _ (by omega)]; congr 1; omega
        · rw [e19 _ (by omega)]; congr 1; omega
        · rw [e19 _ (by omega)]; congr 1; omega
        · rw [e19 _ (by omega)]; congr 1; omega
    · have n40 : ¬ nI A = 40 := fun z => c ((nI_eq (b := 40) (by omega) (by decide)).mp z)
      rw [a2, a3, if_neg n40, if_neg n40]
      exact ⟨A, σ, t, by omega, rfl, rfl, a2, a3, fun _ _ => rfl, fun _ _ _ => rfl, fun _ _ => rfl, fun _ _ _ => rfl, a4⟩
  obtain ⟨B, s, t1, hB, r1, r2, r3, r4, r5, r6, r7, r8, r9⟩ := room
  obtain ⟨σ1, u1, u2, u3, u4, u5, u6, u7⟩ := fku hB r3
  have e26 : 26 * nI B = nI (26 * B) := by rw [show (26 : Int32) = nI 26 from rfl, pk_mul]
  obtain ⟨t2, v1, v2, v3, v4, v5⟩ := gpk (τ := t1) (k1 := 19) (b := 26 * B) (L := 1040) rfl (by decide) (by omega) (by decide)
  have v0 := v2 0 (by decide)
  have hc : FX7_beginAct 0 σ = some (0, zup σ1 0 9 0) := by
    unfold FX7_beginAct
    rw [show (0 + 6 : Nat) = 6 from rfl, r1, u1, zbd_s, zlet_eq]
  have hm : FX8_keep 0 t = some (0, zup t2 0 35 (nI (B + 1))) := by
    rw [r2]
    unfold FX8_keep_b52
    rw [r4, e26, show (0 + 19 : Nat) = 19 from rfl, v1, zbd_s, zlet_eq, v0, r4, nI_1]
  have hf : Fn σ (zup σ1 0 9 0) := by
    intro k j hk h9
    rw [zup_at, if_neg h9, u4 k (by omega) (by omega), r6 k (by omega) (by omega)]
  have s6 : ∀ j, j ≠ 8 → zup σ1 0 9 0 6 j = σ 6 j := fun j hj => by rw [zup_n (by decide), u3 j hj, r5 j hj]
  have sk : ∀ k, k ≠ 0 → k ≠ 6 → k ≠ 9 → zup σ1 0 9 0 k = σ k := fun k k0 kk k2 => by rw [zup_n k0, u4 k kk k2, r6 k kk k2]
  have m0 : ∀ j, j ≠ 35 → zup t2 0 35 (nI (B + 1)) 0 j = t 0 j := fun j hj => by rw [zup_at, if_neg (by omega), v0, r7 j hj]
  have mk : ∀ k, k ≠ 0 → k ≠ 19 → zup t2 0 35 (nI (B + 1)) k = t k := fun k k0 kk => by rw [zup_n k0, v2 k kk, r8 k k0 kk]
  have hg : Gn t (zup t2 0 35 (nI (B + 1))) := by
    intro k j hk h2 hmm
    by_cases c : k = 0
    · subst c; exact m0 j (by omega)
    · rw [mk k c (by omega)]
  refine ⟨_, _, hc, hm, h.now hf hg ⟨?_, ⟨B + 1, by omega, by rw [zup_n (by decide), u2], by rw [zup_at, if_pos ⟨rfl, rfl⟩], fun w hw => ?_⟩, ?_, ?_, ?_⟩ (rTd.z (by rw [zup_at, if_pos ⟨rfl, rfl⟩])), hf, hg, by rw [zup_at, if_pos ⟨rfl, rfl⟩], s6, sk, m0, mk⟩
  · exact k1.c (fun i hi => s6 i (by omega)) (fun a _ => by rw [sk _ (by decide) (by decide) (by decide)]) (fun a _ => by rw [sk _ (by decide) (by decide) (by decide)]) (fun i hi => m0 _ (by omega)) (fun a _ => by rw [mk 7 (by decide) (by decide)]) (fun a _ => by rw [mk 5 (by decide) (by decide)])
  · have e9 : ∀ j, zup σ1 0 9 0 (6 + 3) j = σ1 9 j := fun j => by rw [zup_n (by decide)]
    have e19 : ∀ j, zup t2 0 35 (nI (B + 1)) 19 j = t2 19 j := fun j => by rw [zup_n (by decide)]
    by_cases c : w = B
    · subst c
      refine k1.c (fun i hi => ?_) (fun a ha => ?_) (fun a ha => ?_) (fun i hi => ?_) (fun a ha => ?_) (fun a ha => ?_)
      · rw [e9, u5 i hi, r5 i (by omega)]
      · rw [e9, (u6 a (by omega)).1, r6 7 (by decide) (by decide)]
      · rw [e9, (u6 a (by omega)).2, r6 8 (by decide) (by decide)]
      · rw [e19, v3 i hi, r7 _ (by omega)]
      · rw [e19, (v4 a (by omega)).1, r8 7 (by decide) (by decide)]
      · rw [e19, (v4 a (by omega)).2, r8 5 (by decide) (by decide)]
    · have hwB : w < B := by omega
      refine (r9 w hwB).c (fun i hi => ?_) (fun a ha => ?_) (fun a ha => ?_) (fun i hi => ?_) (fun a ha => ?_) (fun a ha => ?_)
      · rw [e9, u7 _ (by omega)]
      · rw [e9, u7 _ (by omega)]
      · rw [e9, u7 _ (by omega)]
      · rw [e19, v5 _ (by omega)]
      · rw [e19, v5 _ (by omega)]
      · rw [e19, v5 _ (by omega)]
  · rw [sk (6 + 4) (by decide) (by decide) (by decide), sk (6 + 5) (by decide) (by decide) (by decide), s6 10 (by decide), m0 36 (by decide), mk 29 (by decide) (by decide), mk 30 (by decide) (by decide)]
    exact k3
  · rw [sk (6 + 6) (by decide) (by decide) (by decide), sk (6 + 7) (by decide) (by decide) (by decide), s6 13 (by decide), m0 37 (by decide), mk 31 (by decide) (by decide), mk 32 (by decide) (by decide)]
    exact k4
  · rw [sk (6 + 8) (by decide) (by decide) (by decide), mk 16 (by decide) (by decide)]
    exact k5
