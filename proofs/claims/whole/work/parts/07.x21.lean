noncomputable def FJ6_bitCount_0f7a4 (x0 : Int32) (σ : zS) : Option (Int32 × zS) := zlet (x0 - (((Int32.toUInt32 x0) >>> ((Int32.toUInt32 1) &&& Int32.toUInt32 31)).toInt32 &&& 1431655765)) (fun x0_1 => zlet ((x0_1 &&& 858993459) + (((Int32.toUInt32 x0_1) >>> ((Int32.toUInt32 2) &&& Int32.toUInt32 31)).toInt32 &&& 858993459)) (fun x0_2 => zlet ((x0_2 + ((Int32.toUInt32 x0_2) >>> ((Int32.toUInt32 4) &&& Int32.toUInt32 31)).toInt32) &&& 252645135) (fun x0_3 => zlet (x0_3 + ((Int32.toUInt32 x0_3) >>> ((Int32.toUInt32 8) &&& Int32.toUInt32 31)).toInt32) (fun x0_4 => zlet (x0_4 + ((Int32.toUInt32 x0_4) >>> ((Int32.toUInt32 16) &&& Int32.toUInt32 31)).toInt32) (fun x0_5 => some ((x0_5 &&& 63), σ))))))
set_option maxHeartbeats 4000000 in
set_option maxRecDepth 100000 in
theorem kJ6_bitCount_0f7a4 (l : Launch) {V : zV} {σ : zS} {t0 : Int32 × zS} {x0 : Int32}  (h1 : FJ6_bitCount_0f7a4 x0 σ = some t0) : zMi l yJ6_bitCount_0f7a4 cJ6_bitCount_0f7a4 1 (some .int) 0 0 0 V σ t0 [.int x0] := by
  refine zMi_of (by decide) (Nat.le_of_ble_eq_true rfl) ?_
  intro p e s m below meth c A C0 hr hlk hZ ls hl
  generalize ([.int x0] : List Value).toArray = args at C0 ⊢
  obtain ⟨Q, hQ⟩ : ∃ Q, Q = MQ below (zQi 0 V t0 A) args s 0 0 A := ⟨_, rfl⟩
  rw [← hQ]
  have hx := C0.1
  have hb := C0.2.1
  have hl : lv_has ls 1 [(0, .int x0)] := hl
  unfold FJ6_bitCount_0f7a4 at h1
  refine lv_iload_n hx hb dJ6_bitCount_0f7a4_0 rfl (lv_at hl 0 rfl) ?_
  refine lv_iload_n hx hb dJ6_bitCount_0f7a4_1 rfl (lv_at hl 0 rfl) ?_
  refine lv_iconst (v := 1) hx hb dJ6_bitCount_0f7a4_2 (by decide) ?_
  refine lv_iushr (v := ((Int32.toUInt32 x0) >>> ((Int32.toUInt32 1) &&& Int32.toUInt32 31)).toInt32) hx hb dJ6_bitCount_0f7a4_3 rfl ?_
  refine lv_ldcw (v := 1431655765) hx hb C0.2.2.2.1 (C0.2.2.2.2 _ (zmem 1340 (by decide +kernel) (by decide +kernel))) dJ6_bitCount_0f7a4_4 ?_
  refine lv_iand hx hb dJ6_bitCount_0f7a4_7 ?_
  refine lv_isub hx hb dJ6_bitCount_0f7a4_8 ?_
  refine z_istore_n C0 h1 hl (fun x0_1 => [(0, .int x0_1)]) dJ6_bitCount_0f7a4_9 rfl (by decide) (fun _ => rfl) (fun x0_1 ls h1 hl => ?_)
  refine lv_iload_n hx hb dJ6_bitCount_0f7a4_10 rfl (lv_at hl 0 rfl) ?_
  refine lv_ldcw (v := 858993459) hx hb C0.2.2.2.1 (C0.2.2.2.2 _ (zmem 1341 (by decide +kernel) (by decide +kernel))) dJ6_bitCount_0f7a4_11 ?_
  refine lv_iand hx hb dJ6_bitCount_0f7a4_14 ?_
  refine lv_iload_n hx hb dJ6_bitCount_0f7a4_15 rfl (lv_at hl 0 rfl) ?_
  refine lv_iconst (v := 2) hx hb dJ6_bitCount_0f7a4_16 (by decide) ?_
  refine lv_iushr (v := ((Int32.toUInt32 x0_1) >>> ((Int32.toUInt32 2) &&& Int32.toUInt32 31)).toInt32) hx hb dJ6_bitCount_0f7a4_17 rfl ?_
  refine lv_ldcw (v := 858993459) hx hb C0.2.2.2.1 (C0.2.2.2.2 _ (zmem 1341 (by decide +kernel) (by decide +kernel))) dJ6_bitCount_0f7a4_18 ?_
  refine lv_iand hx hb dJ6_bitCount_0f7a4_21 ?_
  refine lv_iadd hx hb dJ6_bitCount_0f7a4_22 ?_
  refine z_istore_n C0 h1 hl (fun x0_2 => [(0, .int x0_2)]) dJ6_bitCount_0f7a4_23 rfl (by decide) (fun _ => rfl) (fun x0_2 ls h1 hl => ?_)
  refine lv_iload_n hx hb dJ6_bitCount_0f7a4_24 rfl (lv_at hl 0 rfl) ?_
  refine lv_iload_n hx hb dJ6_bitCount_0f7a4_25 rfl (lv_at hl 0 rfl) ?_
  refine lv_iconst (v := 4) hx hb dJ6_bitCount_0f7a4_26 (by decide) ?_
  refine lv_iushr (v := ((Int32.toUInt32 x0_2) >>> ((Int32.toUInt32 4) &&& Int32.toUInt32 31)).toInt32) hx hb dJ6_bitCount_0f7a4_27 rfl ?_
  refine lv_iadd hx hb dJ6_bitCount_0f7a4_28 ?_
  refine lv_ldcw (v := 252645135) hx hb C0.2.2.2.1 (C0.2.2.2.2 _ (zmem 1342 (by decide +kernel) (by decide +kernel))) dJ6_bitCount_0f7a4_29 ?_
  refine lv_iand hx hb dJ6_bitCount_0f7a4_32 ?_
  refine z_istore_n C0 h1 hl (fun x0_3 => [(0, .int x0_3)]) dJ6_bitCount_0f7a4_33 rfl (by decide) (fun _ => rfl) (fun x0_3 ls h1 hl => ?_)
  refine lv_iload_n hx hb dJ6_bitCount_0f7a4_34 rfl (lv_at hl 0 rfl) ?_
  refine lv_iload_n hx hb dJ6_bitCount_0f7a4_35 rfl (lv_at hl 0 rfl) ?_
  refine lv_bipush (v := 8) hx hb dJ6_bitCount_0f7a4_36 (by decide) ?_
  refine lv_iushr (v := ((Int32.toUInt32 x0_3) >>> ((Int32.toUInt32 8) &&& Int32.toUInt32 31)).toInt32) hx hb dJ6_bitCount_0f7a4_38 rfl ?_
  refine lv_iadd hx hb dJ6_bitCount_0f7a4_39 ?_
  refine z_istore_n C0 h1 hl (fun x0_4 => [(0, .int x0_4)]) dJ6_bitCount_0f7a4_40 rfl (by decide) (fun _ => rfl) (fun x0_4 ls h1 hl => ?_)
  refine lv_iload_n hx hb dJ6_bitCount_0f7a4_41 rfl (lv_at hl 0 rfl) ?_
  refine lv_iload_n hx hb dJ6_bitCount_0f7a4_42 rfl (lv_at hl 0 rfl) ?_
  refine lv_bipush (v := 16) hx hb dJ6_bitCount_0f7a4_43 (by decide) ?_
  refine lv_iushr (v := ((Int32.toUInt32 x0_4) >>> ((Int32.toUInt32 16) &&& Int32.toUInt32 31)).toInt32) hx hb dJ6_bitCount_0f7a4_45 rfl ?_
  refine lv_iadd hx hb dJ6_bitCount_0f7a4_46 ?_
  refine z_istore_n C0 h1 hl (fun x0_5 => [(0, .int x0_5)]) dJ6_bitCount_0f7a4_47 rfl (by decide) (fun _ => rfl) (fun x0_5 ls h1 hl => ?_)
  refine lv_iload_n hx hb dJ6_bitCount_0f7a4_48 rfl (lv_at hl 0 rfl) ?_
  refine lv_bipush (v := 63) hx hb dJ6_bitCount_0f7a4_49 (by decide) ?_
  refine lv_iand hx hb dJ6_bitCount_0f7a4_51 ?_
  rw [hQ]; exact z_iret C0 hr hlk hZ h1 dJ6_bitCount_0f7a4_52
noncomputable def FX7_explains_b34  (σ : zS) : Option (Int32 × zS) := zgd (1 == 0 || 1 == 1) (some (1, σ))
noncomputable def FX7_explains_b26  (σ : zS) : Option (Int32 × zS) := zgd (0 == 0 || 0 == 1) (some (0, σ))
noncomputable def FX7_explains_L2 (k0 : Nat) (x1 : Int32) (x2 : Int32) (σ : zS) : Option ((Int32 × zS) ⊕ (Int32 × zS)) := if (σ (k0 + 6) 13) ≤ x2 then zinr (FX7_explains_b34  σ) else zbd (FX7_at (k0 + 3) x2 σ) (fun r_2 σ_1 => if (r_2 &&& x1) = 0 then zinr (FX7_explains_b26  σ_1) else zlet (x2 + 1) (fun x2_3 => some (.inl (x2_3, σ_1))))
noncomputable def FX7_explains (k0 : Nat) (x1 : Int32) (σ : zS) : Option (Int32 × zS) := zlet 0 (fun x2_4 => zlp (fun q => FX7_explains_L2 k0 x1 q.1 q.2) (x2_4, σ))
set_option maxHeartbeats 4000000 in
set_option maxRecDepth 100000 in
theorem kX7_explains (l : Launch) {V : zV} {σ : zS} {t0 : Int32 × zS} {k0 : Nat} {x1 : Int32} (hk0 : kd 0 k0 = 7) (h1 : FX7_explains k0 x1 σ = some t0) : zMi l yX7_explains cX7_explains 3 (some .boolean) 1 21 0 V σ t0 [.ref (zad V k0), .int x1] := by
  refine zMi_of (by decide) (Nat.le_of_ble_eq_true rfl) ?_
  intro p e s m below meth c A C0 hr hlk hZ ls hl
  generalize ([.ref (zad V k0), .int x1] : List Value).toArray = args at C0 ⊢
  obtain ⟨Q, hQ⟩ : ∃ Q, Q = MQ below (zQi 0 V t0 A) args s 0 0 A := ⟨_, rfl⟩
  rw [← hQ]
  have hx := C0.1
  have hb := C0.2.1
  have hl : lv_has ls 3 [(0, .ref (zad V k0)), (1, .int x1)] := hl
  unfold FX7_explains at h1
  have J34 : ∀  (σ : zS) (H : Heap) (locs : List Loc) (ls : Array Slot), zZ 0 V A σ s H locs → lv_has ls 3 [] → FX7_explains_b34  σ = some t0 → W p l e (zrm 1 21) s m args below meth c H locs 0 0 Q (F0 m 34 ls []) := by
    intro  σ H locs ls  hZ hl h1
    unfold FX7_explains_b34 at h1
    refine lv_iconst (v := 1) hx hb dX7_explains_34 (by decide) ?_
    rw [hQ]; exact z_zret C0 hr hlk hZ h1 dX7_explains_35
  have J26 : ∀  (σ : zS) (H : Heap) (locs : List Loc) (ls : Array Slot), zZ 0 V A σ s H locs → lv_has ls 3 [] → FX7_explains_b26  σ = some t0 → W p l e (zrm 1 21) s m args below meth c H locs 0 0 Q (F0 m 26 ls []) := by
    intro  σ H locs ls  hZ hl h1
    unfold FX7_explains_b26 at h1
    refine lv_iconst (v := 0) hx hb dX7_explains_26 (by decide) ?_
    rw [hQ]; exact z_zret C0 hr hlk hZ h1 dX7_explains_27
  have J2 : ∀ (n : Nat) (x2 : Int32) (σ : zS) (H : Heap) (locs : List Loc) (ls : Array Slot), zZ 0 V A σ s H locs → lv_has ls 3 [(0, .ref (zad V k0)), (1, .int x1), (2, .int x2)] → zit (fun q => FX7_explains_L2 k0 x1 q.1 q.2) n (x2, σ) = some t0 → W p l e (zrm 1 21) s m args below meth c H locs 0 0 Q (F0 m 2 ls []) := by
    intro n
    induction n with
    | zero => intro x2 σ H locs ls  _ _ h1; cases h1
    | succ n ih2 =>
      intro x2 σ H locs ls  hZ hl h1
      obtain ⟨t1, h1, hz1⟩ := zit_1 h1
      replace h1 : FX7_explains_L2 k0 x1 x2 σ = some t1 := h1
      unfold FX7_explains_L2 at h1
      refine lv_iload_n hx hb dX7_explains_2 rfl (lv_at hl 2 rfl) ?_
      refine lv_aload_n hx hb dX7_explains_3 rfl (lv_at hl 0 rfl) ?_
      refine z_getr C0 hZ hk0 fRX7_33 rfl dX7_explains_4 ?_
      refine z_geti C0 hZ (zkt7_4 hk0) fRX7_161 rfl dX7_explains_7 ?_
      refine z_ic_ge (tgt := 34) C0 h1 dX7_explains_10 (by decide) (fun h1 => ?_) (fun h1 => ?_)
      · have h1 := zout h1 hz1
        exact J34  _ _ _ _  hZ (lv_sub hl [] rfl) h1
      refine lv_aload_n hx hb dX7_explains_13 rfl (lv_at hl 0 rfl) ?_
      refine z_getr C0 hZ hk0 fRX7_69 rfl dX7_explains_14 ?_
      refine lv_iload_n hx hb dX7_explains_17 rfl (lv_at hl 2 rfl) ?_
      refine z_cSi (As := [.ref (zad V (k0 + 3)), .int x2]) (rest := []) C0 hZ h1 (fun _ hf => kX7_at l (zkt7_13 hk0) hf) mRX7_167 sX7_at rfl rfl hl.1 (Nat.le_of_ble_eq_true rfl) ⟨Nat.le_of_ble_eq_true rfl, Nat.le_of_ble_eq_true rfl⟩ dX7_explains_18 ⟨Nat.le_of_ble_eq_true rfl, Nat.le_of_ble_eq_true rfl⟩ (fun r_2 σ_1 H locs h1 hZ => ?_)
      refine lv_iload_n hx hb dX7_explains_21 rfl (lv_at hl 1 rfl) ?_
      refine lv_iand hx hb dX7_explains_22 ?_
      refine z_if_ne (tgt := 28) C0 h1 dX7_explains_23 (by decide) (fun h1 => ?_) (fun h1 => ?_)
      · refine z_iinc (v := 1) C0 h1 hl (fun x2_3 => [(2, .int x2_3), (0, .ref (zad V k0)), (1, .int x1)]) dX7_explains_28 (k := 2) rfl (by decide) (by decide) (fun _ => rfl) (fun x2_3 ls h1 hl => ?_)
        refine lv_goto (tgt := 2) hx hb dX7_explains_31 (by decide) ?_
        exact ih2 x2_3 _ _ _ _  hZ (lv_sub hl [1, 2, 0] rfl) (zback h1 hz1)
      have h1 := zout h1 hz1
      exact J26  _ _ _ _  hZ (lv_sub hl [] rfl) h1
  refine lv_iconst (v := 0) hx hb dX7_explains_0 (by decide) ?_
  refine z_istore_n C0 h1 hl (fun x2_4 => [(2, .int x2_4), (0, .ref (zad V k0)), (1, .int x1)]) dX7_explains_1 rfl (by decide) (fun _ => rfl) (fun x2_4 ls h1 hl => ?_)
  obtain ⟨n, h1⟩ := zlp_iff.mp h1
  exact J2 n x2_4 _ _ _ _  hZ (lv_sub hl [1, 2, 0] rfl) h1
noncomputable def FX7_fewest_b85 (x1 : Int32) (σ : zS) : Option (Int32 × zS) := some (x1, σ)
noncomputable def FX7_fewest_b79 (k0 : Nat) (x1 : Int32) (x2 : Int32) (x3 : Int32) (σ : zS) : Option ((Int32 × Int32 × Int32 × zS) ⊕ (Int32 × zS)) := zlet (x3 + 1) (fun x3_1 => some (.inl (x1, x2, x3_1, σ)))
noncomputable def FX7_fewest_L39 (k0 : Nat) (x1 : Int32) (x2 : Int32) (x3 : Int32) (σ : zS) : Option ((Int32 × Int32 × Int32 × zS) ⊕ (Int32 × zS)) := zgd (kd 0 (σ k0 2).toNatClampNeg == 5) (zlet (σ k0 2).toNatClampNeg (fun q_2 => zbd (FX7_bit (σ (q_2 + 7) 0) σ) (fun r_4 σ_3 => if r_4 ≤ x3 then zinr (FX7_fewest_b85 x1 σ_3) else zbd (FJ6_bitCount_0f7a4 x3 σ_3) (fun r_6 σ_5 => if x2 ≤ r_6 then FX7_fewest_b79 k0 x1 x2 x3 σ_5 else zbd (FX7_explains k0 x3 σ_5) (fun r_8 σ_7 => if r_8 = 0 then FX7_fewest_b79 k0 x1 x2 x3 σ_7 else zlet x3 (fun x1_9 => zbd (FJ6_bitCount_0f7a4 x3 σ_7) (fun r_11 σ_10 => zlet r_11 (fun x2_12 => FX7_fewest_b79 k0 x1_9 x2_12 x3 σ_10))))))))
noncomputable def FX7_fewest_b32 (k0 : Nat) (σ : zS) : Option (Int32 × zS) := zlet (-1) (fun x1_13 => zlet 9 (fun x2_14 => zlet 0 (fun x3_15 => zlp (fun q => FX7_fewest_L39 k0 q.1 q.2.1 q.2.2.1 q.2.2.2) (x1_13, x2_14, x3_15, σ))))
noncomputable def FX7_fewest_L2 (k0 : Nat) (x1 : Int32) (σ : zS) : Option ((Int32 × zS) ⊕ (Int32 × zS)) := if (σ (k0 + 6) 13) ≤ x1 then zinr (FX7_fewest_b32 k0 σ) else zbd (FX7_canHave k0 x1 σ) (fun r_17 σ_16 => zbd (FX7_put (k0 + 3) x1 r_17 σ_16) (fun _ σ_18 => zlet (x1 + 1) (fun x1_20 => some (.inl (x1_20, σ_18)))))
noncomputable def FX7_fewest (k0 : Nat) (σ : zS) : Option (Int32 × zS) := zlet 0 (fun x1_21 => zlp (fun q => FX7_fewest_L2 k0 q.1 q.2) (x1_21, σ))
set_option maxHeartbeats 4000000 in
set_option maxRecDepth 100000 in
theorem kX7_fewest (l : Launch) {V : zV} {σ : zS} {t0 : Int32 × zS} {k0 : Nat} (hk0 : kd 0 k0 = 7) (h1 : FX7_fewest k0 σ = some t0) : zMi l yX7_fewest cX7_fewest 4 (some .int) 5 113 0 V σ t0 [.ref (zad V k0)] := by
  refine zMi_of (by decide) (Nat.le_of_ble_eq_true rfl) ?_
  intro p e s m below meth c A C0 hr hlk hZ ls hl
  generalize ([.ref (zad V k0)] : List Value).toArray = args at C0 ⊢
  obtain ⟨Q, hQ⟩ : ∃ Q, Q = MQ below (zQi 0 V t0 A) args s 0 0 A := ⟨_, rfl⟩
  rw [← hQ]
  have hx := C0.1
  have hb := C0.2.1
  have hl : lv_has ls 4 [(0, .ref (zad V k0))] := hl
  unfold FX7_fewest at h1
  have J85 : ∀ (x1 : Int32) (σ : zS) (H : Heap) (locs : List Loc) (ls : Array Slot), zZ 0 V A σ s H locs → lv_has ls 4 [(1, .int x1)] → FX7_fewest_b85 x1 σ = some t0 → W p l e (zrm 5 113) s m args below meth c H locs 0 0 Q (F0 m 85 ls []) := by
    intro x1 σ H locs ls  hZ hl h1
    unfold FX7_fewest_b85 at h1
    refine lv_iload_n hx hb dX7_fewest_85 rfl (lv_at hl 0 rfl) ?_
    rw [hQ]; exact z_iret C0 hr hlk hZ h1 dX7_fewest_86
  have J39 : ∀ (n : Nat) (x1 : Int32) (x2 : Int32) (x3 : Int32) (σ : zS) (H : Heap) (locs : List Loc) (ls : Array Slot), zZ 0 V A σ s H locs → lv_has ls 4 [(0, .ref (zad V k0)), (1, .int x1), (2, .int x2), (3, .int x3)] → zit (fun q => FX7_fewest_L39 k0 q.1 q.2.1 q.2.2.1 q.2.2.2) n (x1, x2, x3, σ) = some t0 → W p l e (zrm 5 113) s m args below meth c H locs 0 0 Q (F0 m 39 ls []) := by
    intro n
    induction n with
    | zero => intro x1 x2 x3 σ H locs ls  _ _ h1; cases h1
    | succ n ih39 =>
      intro x1 x2 x3 σ H locs ls  hZ hl h1
      obtain ⟨t1, h1, hz1⟩ := zit_1 h1
      have J79 : ∀ (x1 : Int32) (x2 : Int32) (x3 : Int32) (σ : zS) (H : Heap) (locs : List Loc) (ls : Array Slot), zZ 0 V A σ s H locs → lv_has ls 4 [(0, .ref (zad V k0)), (1, .int x1), (2, .int x2), (3, .int x3)] → FX7_fewest_b79 k0 x1 x2 x3 σ = some t1 → W p l e (zrm 5 113) s m args below meth c H locs 0 0 Q (F0 m 79 ls []) := by
        intro x1 x2 x3 σ H locs ls  hZ hl h1
        unfold FX7_fewest_b79 at h1
        refine z_iinc (v := 1) C0 h1 hl (fun x3_1 => [(3, .int x3_1), (0, .ref (zad V k0)), (1, .int x1), (2, .int x2)]) dX7_fewest_79 (k := 3) rfl (by decide) (by decide) (fun _ => rfl) (fun x3_1 ls h1 hl => ?_)
        refine lv_goto (tgt := 39) hx hb dX7_fewest_82 (by decide) ?_
        exact ih39 x1 x2 x3_1 _ _ _ _  hZ (lv_sub hl [1, 2, 3, 0] rfl) (zback h1 hz1)
      replace h1 : FX7_fewest_L39 k0 x1 x2 x3 σ = some t1 := h1
      unfold FX7_fewest_L39 at h1
      refine lv_iload_n hx hb dX7_fewest_39 rfl (lv_at hl 3 rfl) ?_
      refine lv_aload_n hx hb dX7_fewest_40 rfl (lv_at hl 0 rfl) ?_
      refine z_getm C0 hZ h1 hk0 fRX7_19 rfl dX7_fewest_41 (fun q_2 hq_2 h1 => ?_)
      refine z_getr C0 hZ hq_2 fRX7_118 rfl dX7_fewest_44 ?_
      refine z_geti C0 hZ (zkt5_1 hq_2) fRX7_122 rfl dX7_fewest_47 ?_
      refine z_cSi (As := [.int (σ (q_2 + 7) 0)]) (rest := [.int x3]) C0 hZ h1 (fun _ hf => kX7_bit l  hf) mRX7_231 sX7_bit rfl rfl hl.1 (Nat.le_of_ble_eq_true rfl) ⟨Nat.le_of_ble_eq_true rfl, Nat.le_of_ble_eq_true rfl⟩ dX7_fewest_50 ⟨Nat.le_of_ble_eq_true rfl, Nat.le_of_ble_eq_true rfl⟩ (fun r_4 σ_3 H locs h1 hZ => ?_)
      refine z_ic_ge (tgt := 85) C0 h1 dX7_fewest_53 (by decide) (fun h1 => ?_) (fun h1 => ?_)
      · have h1 := zout h1 hz1
        exact J85 x1 _ _ _ _  hZ (lv_sub hl [1] rfl) h1
      refine lv_iload_n hx hb dX7_fewest_56 rfl (lv_at hl 3 rfl) ?_
      refine z_cSi (As := [.int x3]) (rest := []) C0 hZ h1 (fun _ hf => kJ6_bitCount_0f7a4 l  hf) mRX7_326 sJ6_bitCount_0f7a4 rfl rfl hl.1 (Nat.le_of_ble_eq_true rfl) ⟨Nat.le_of_ble_eq_true rfl, Nat.le_of_ble_eq_true rfl⟩ dX7_fewest_57 ⟨Nat.le_of_ble_eq_true rfl, Nat.le_of_ble_eq_true rfl⟩ (fun r_6 σ_5 H locs h1 hZ => ?_)
      refine lv_iload_n hx hb dX7_fewest_60 rfl (lv_at hl 2 rfl) ?_
      refine z_ic_ge (tgt := 79) C0 h1 dX7_fewest_61 (by decide) (fun h1 => ?_) (fun h1 => ?_)
      · exact J79 x1 x2 x3 _ _ _ _  hZ (lv_sub hl [0, 1, 2, 3] rfl) h1
      refine lv_aload_n hx hb dX7_fewest_64 rfl (lv_at hl 0 rfl) ?_
      refine lv_iload_n hx hb dX7_fewest_65 rfl (lv_at hl 3 rfl) ?_
      refine z_cVi (As := [.int x3]) (rest := []) C0 hZ h1 (fun _ hf => kX7_explains l hk0 hf) mRX7_331 vX7_explains hk0 rfl rfl hl.1 (Nat.le_of_ble_eq_true rfl) ⟨Nat.le_of_ble_eq_true rfl, Nat.le_of_ble_eq_true rfl⟩ dX7_fewest_66 ⟨Nat.le_of_ble_eq_true rfl, Nat.le_of_ble_eq_true rfl⟩ (fun r_8 σ_7 H locs h1 hZ => ?_)
      refine z_if_eq (tgt := 79) C0 h1 dX7_fewest_69 (by decide) (fun h1 => ?_) (fun h1 => ?_)
      · exact J79 x1 x2 x3 _ _ _ _  hZ (lv_sub hl [0, 1, 2, 3] rfl) h1
      refine lv_iload_n hx hb dX7_fewest_72 rfl (lv_at hl 3 rfl) ?_
      refine z_istore_n C0 h1 hl (fun x1_9 => [(1, .int x1_9), (0, .ref (zad V k0)), (2, .int x2), (3, .int x3)]) dX7_fewest_73 rfl (by decide) (fun _ => rfl) (fun x1_9 ls h1 hl => ?_)
      refine lv_iload_n hx hb dX7_fewest_74 rfl (lv_at hl 3 rfl) ?_
      refine z_cSi (As := [.int x3]) (rest := []) C0 hZ h1 (fun _ hf => kJ6_bitCount_0f7a4 l  hf) mRX7_326 sJ6_bitCount_0f7a4 rfl rfl hl.1 (Nat.le_of_ble_eq_true rfl) ⟨Nat.le_of_ble_eq_true rfl, Nat.le_of_ble_eq_true rfl⟩ dX7_fewest_75 ⟨Nat.le_of_ble_eq_true rfl, Nat.le_of_ble_eq_true rfl⟩ (fun r_11 σ_10 H locs h1 hZ => ?_)
      refine z_istore_n C0 h1 hl (fun x2_12 => [(2, .int x2_12), (1, .int x1_9), (0, .ref (zad V k0)), (3, .int x3)]) dX7_fewest_78 rfl (by decide) (fun _ => rfl) (fun x2_12 ls h1 hl => ?_)
      exact J79 x1_9 x2_12 x3 _ _ _ _  hZ (lv_sub hl [2, 1, 0, 3] rfl) h1
  have J32 : ∀  (σ : zS) (H : Heap) (locs : List Loc) (ls : Array Slot), zZ 0 V A σ s H locs → lv_has ls 4 [(0, .ref (zad V k0))] → FX7_fewest_b32 k0 σ = some t0 → W p l e (zrm 5 113) s m args below meth c H locs 0 0 Q (F0 m 32 ls []) := by
    intro  σ H locs ls  hZ hl h1
    unfold FX7_fewest_b32 at h1
    refine lv_iconst (v := (-1)) hx hb dX7_fewest_32 (by decide) ?_
    refine z_istore_n C0 h1 hl (fun x1_13 => [(1, .int x1_13), (0, .ref (zad V k0))]) dX7_fewest_33 rfl (by decide) (fun _ => rfl) (fun x1_13 ls h1 hl => ?_)
    refine lv_bipush (v := 9) hx hb dX7_fewest_34 (by decide) ?_
    refine z_istore_n C0 h1 hl (fun x2_14 => [(2, .int x2_14), (1, .int x1_13), (0, .ref (zad V k0))]) dX7_fewest_36 rfl (by decide) (fun _ => rfl) (fun x2_14 ls h1 hl => ?_)
    refine lv_iconst (v := 0) hx hb dX7_fewest_37 (by decide) ?_
    refine z_istore_n C0 h1 hl (fun x3_15 => [(3, .int x3_15), (2, .int x2_14), (1, .int x1_13), (0, .ref (zad V k0))]) dX7_fewest_38 rfl (by decide) (fun _ => rfl) (fun x3_15 ls h1 hl => ?_)
    obtain ⟨n, h1⟩ := zlp_iff.mp h1
    exact J39 n x1_13 x2_14 x3_15 _ _ _ _  hZ (lv_sub hl [3, 2, 1, 0] rfl) h1
  have J2 : ∀ (n : Nat) (x1 : Int32) (σ : zS) (H : Heap) (locs : List Loc) (ls : Array Slot), zZ 0 V A σ s H locs → lv_has ls 4 [(0, .ref (zad V k0)), (1, .int x1)] → zit (fun q => FX7_fewest_L2 k0 q.1 q.2) n (x1, σ) = some t0 → W p l e (zrm 5 113) s m args below meth c H locs 0 0 Q (F0 m 2 ls []) := by
    intro n
    induction n with
    | zero => intro x1 σ H locs ls  _ _ h1; cases h1
    | succ n ih2 =>
      intro x1 σ H locs ls  hZ hl h1
      obtain ⟨t1, h1, hz1⟩ := zit_1 h1
      replace h1 : FX7_fewest_L2 k0 x1 σ = some t1 := h1
      unfold FX7_fewest_L2 at h1
      refine lv_iload_n hx hb dX7_fewest_2 rfl (lv_at hl 1 rfl) ?_
      refine lv_aload_n hx hb dX7_fewest_3 rfl (lv_at hl 0 rfl) ?_
      refine z_getr C0 hZ hk0 fRX7_33 rfl dX7_fewest_4 ?_
      refine z_geti C0 hZ (zkt7_4 hk0) fRX7_161 rfl dX7_fewest_7 ?_
      refine z_ic_ge (tgt := 32) C0 h1 dX7_fewest_10 (by decide) (fun h1 => ?_) (fun h1 => ?_)
      · have h1 := zout h1 hz1
        exact J32  _ _ _ _  hZ (lv_sub hl [0] rfl) h1
      refine lv_aload_n hx hb dX7_fewest_13 rfl (lv_at hl 0 rfl) ?_
      refine z_getr C0 hZ hk0 fRX7_69 rfl dX7_fewest_14 ?_
      refine lv_iload_n hx hb dX7_fewest_17 rfl (lv_at hl 1 rfl) ?_
      refine lv_aload_n hx hb dX7_fewest_18 rfl (lv_at hl 0 rfl) ?_
      refine lv_iload_n hx hb dX7_fewest_19 rfl (lv_at hl 1 rfl) ?_
      refine z_cVi (As := [.int x1]) (rest := [.int x1, .ref (zad V (k0 + 3))]) C0 hZ h1 (fun _ hf => kX7_canHave l hk0 hf) mRX7_323 vX7_canHave hk0 rfl rfl hl.1 (Nat.le_of_ble_eq_true rfl) ⟨Nat.le_of_ble_eq_true rfl, Nat.le_of_ble_eq_true rfl⟩ dX7_fewest_20 ⟨Nat.le_of_ble_eq_true rfl, Nat.le_of_ble_eq_true rfl⟩ (fun r_17 σ_16 H locs h1 hZ => ?_)
      refine z_cSv (As := [.ref (zad V (k0 + 3)), .int x1, .int r_17]) (rest := []) C0 hZ h1 (fun _ hf => kX7_put l (zkt7_13 hk0) hf) mRX7_79 sX7_put rfl rfl hl.1 (Nat.le_of_ble_eq_true rfl) ⟨Nat.le_of_ble_eq_true rfl, Nat.le_of_ble_eq_true rfl⟩ dX7_fewest_23 ⟨Nat.le_of_ble_eq_true rfl, Nat.le_of_ble_eq_true rfl⟩ (fun _ σ_18 H locs h1 hZ => ?_)
      refine z_iinc (v := 1) C0 h1 hl (fun x1_20 => [(1, .int x1_20), (0, .ref (zad V k0))]) dX7_fewest_26 (k := 1) rfl (by decide) (by decide) (fun _ => rfl) (fun x1_20 ls h1 hl => ?_)
      refine lv_goto (tgt := 2) hx hb dX7_fewest_29 (by decide) ?_
      exact ih2 x1_20 _ _ _ _  hZ (lv_sub hl [1, 0] rfl) (zback h1 hz1)
  refine lv_iconst (v := 0) hx hb dX7_fewest_0 (by decide) ?_
  refine z_istore_n C0 h1 hl (fun x1_21 => [(1, .int x1_21), (0, .ref (zad V k0))]) dX7_fewest_1 rfl (by decide) (fun _ => rfl) (fun x1_21 ls h1 hl => ?_)
  obtain ⟨n, h1⟩ := zlp_iff.mp h1
  exact J2 n x1_21 _ _ _ _  hZ (lv_sub hl [1, 0] rfl) h1
noncomputable def FX7_who_b16  (σ : zS) : Option zT3 := some (1, 0, σ)
noncomputable def FX7_who_b41 (y0 : Int32) (σ : zS) : Option zT3 := some (0, y0, σ)
noncomputable def FX7_who (k0 : Nat) (x1 : Int32) (σ : zS) : Option zT3 := if x1 < (-1) then FX7_who_b16  σ else if x1 < (σ (k0 + 6) 13) then if x1 = (-1) then zbd (FX7_fewest k0 σ) (fun r_4 σ_3 => FX7_who_b41 r_4 σ_3) else zbd (FX7_canHave k0 x1 σ) (fun r_2 σ_1 => FX7_who_b41 r_2 σ_1) else FX7_who_b16  σ
set_option maxHeartbeats 4000000 in
set_option maxRecDepth 100000 in
theorem kX7_who (l : Launch) (hfl : l.stackTraces = false) {V : zV} {σ : zS} {t0 : zT3} {k0 : Nat} {x1 : Int32} (hk0 : kd 0 k0 = 7) (h1 : FX7_who k0 x1 σ = some t0) : zXi l yX7_who cX7_who 2 (some .int) 6 136 1 6 0 V σ t0 [.ref (zad V k0), .int x1] := by
  refine zXi_of (by decide) (Nat.le_of_ble_eq_true rfl) ?_
  intro p e s m below meth c A C0 hr hlk hnt hZ ls hl
  generalize ([.ref (zad V k0), .int x1] : List Value).toArray = args at C0 ⊢
  obtain ⟨Q, hQ⟩ : ∃ Q, Q = vx_MQ below (zxQ 0 V t0 A) (zxX 0 V t0 A) args s 1 6 A := ⟨_, rfl⟩
  rw [← hQ]
  have hx := C0.1
  have hb := C0.2.1
  have hl : lv_has ls 2 [(0, .ref (zad V k0)), (1, .int x1)] := hl
  unfold FX7_who at h1
  have J16 : ∀  (σ : zS) (H : Heap) (locs : List Loc) (ls : Array Slot), zZ 0 V A σ s H locs → lv_has ls 2 [] → FX7_who_b16  σ = some t0 → W p l e { frames := 6, cells := 1, slots := 6, locals := 136 } s m args below meth c H locs 0 0 Q (F0 m 16 ls []) := by
    intro  σ H locs ls  hZ hl h1
    unfold FX7_who_b16 at h1
    rw [hQ]; exact z_throw (n := 0) C0 hfl hnt hl.1 hlk hZ h1 xxRX7_171 dX7_who_16 dX7_who_19 dX7_who_20 dX7_who_23 ⟨Nat.le_of_ble_eq_true rfl, Nat.le_of_ble_eq_true rfl, Nat.le_of_ble_eq_true rfl, Nat.le_of_ble_eq_true rfl⟩ ⟨Nat.le_of_ble_eq_true rfl, Nat.le_of_ble_eq_true rfl⟩
  have J41 : ∀ (y0 : Int32) (σ : zS) (H : Heap) (locs : List Loc) (ls : Array Slot), zZ 0 V A σ s H locs → lv_has ls 2 [] → FX7_who_b41 y0 σ = some t0 → W p l e { frames := 6, cells := 1, slots := 6, locals := 136 } s m args below meth c H locs 0 0 Q (F0 m 41 ls [.int y0]) := by
    intro y0 σ H locs ls  hZ hl h1
    unfold FX7_who_b41 at h1
    rw [hQ]; exact z_xiret C0 hr hlk hZ h1 ⟨Nat.le_of_ble_eq_true rfl, Nat.le_of_ble_eq_true rfl⟩ dX7_who_41
  refine lv_iload_n hx hb dX7_who_0 rfl (lv_at hl 1 rfl) ?_
  refine lv_iconst (v := (-1)) hx hb dX7_who_1 (by decide) ?_
  refine z_ic_lt (tgt := 16) C0 h1 dX7_who_2 (by decide) (fun h1 => ?_) (fun h1 => ?_)
  · exact J16  _ _ _ _  hZ (lv_sub hl [] rfl) h1
  refine lv_iload_n hx hb dX7_who_5 rfl (lv_at hl 1 rfl) ?_
  refine lv_aload_n hx hb dX7_who_6 rfl (lv_at hl 0 rfl) ?_
  refine z_getr C0 hZ hk0 fRX7_33 rfl dX7_who_7 ?_
  refine z_geti C0 hZ (zkt7_4 hk0) fRX7_161 rfl dX7_who_10 ?_
  refine z_ic_lt (tgt := 24) C0 h1 dX7_who_13 (by decide) (fun h1 => ?_) (fun h1 => ?_)
  · refine lv_iload_n hx hb dX7_who_24 rfl (lv_at hl 1 rfl) ?_
    refine lv_iconst (v := (-1)) hx hb dX7_who_25 (by decide) ?_
    refine z_ic_ne (tgt := 36) C0 h1 dX7_who_26 (by decide) (fun h1 => ?_) (fun h1 => ?_)
    · refine lv_aload_n hx hb dX7_who_36 rfl (lv_at hl 0 rfl) ?_
      refine lv_iload_n hx hb dX7_who_37 rfl (lv_at hl 1 rfl) ?_
      refine z_cVi (As := [.int x1]) (rest := []) C0 hZ h1 (fun _ hf => kX7_canHave l hk0 hf) mRX7_323 vX7_canHave hk0 rfl rfl hl.1 (Nat.le_of_ble_eq_true rfl) ⟨Nat.le_of_ble_eq_true rfl, Nat.le_of_ble_eq_true rfl⟩ dX7_who_38 ⟨Nat.le_of_ble_eq_true rfl, Nat.le_of_ble_eq_true rfl⟩ (fun r_2 σ_1 H locs h1 hZ => ?_)
      exact J41 r_2 _ _ _ _  hZ (lv_sub hl [] rfl) h1
    refine lv_aload_n hx hb dX7_who_29 rfl (lv_at hl 0 rfl) ?_
    refine z_cVi (As := []) (rest := []) C0 hZ h1 (fun _ hf => kX7_fewest l hk0 hf) mRX7_320 vX7_fewest hk0 rfl rfl hl.1 (Nat.le_of_ble_eq_true rfl) ⟨Nat.le_of_ble_eq_true rfl, Nat.le_of_ble_eq_true rfl⟩ dX7_who_30 ⟨Nat.le_of_ble_eq_true rfl, Nat.le_of_ble_eq_true rfl⟩ (fun r_4 σ_3 H locs h1 hZ => ?_)
    refine lv_goto (tgt := 41) hx hb dX7_who_33 (by decide) ?_
    exact J41 r_4 _ _ _ _  hZ (lv_sub hl [] rfl) h1
  exact J16  _ _ _ _  hZ (lv_sub hl [] rfl) h1
noncomputable def FX7_gain_b61 (y0 : Int32) (σ : zS) : Option (Int32 × zS) := some (y0, σ)
noncomputable def FX7_gain_b28 (k0 : Nat) (x1 : Int32) (y0 : Int32) (σ : zS) : Option (Int32 × zS) := zlet y0 (fun x3_1 => if x3_1 = 0 then zgd (kd 0 (σ k0 2).toNatClampNeg == 5) (zlet (σ k0 2).toNatClampNeg (fun q_2 => zbd (FX7_at ((q_2 + 1) + 1) x1 σ) (fun r_4 σ_3 => FX7_gain_b61 r_4 σ_3))) else zgd (kd 0 (σ k0 2).toNatClampNeg == 5) (zlet (σ k0 2).toNatClampNeg (fun q_5 => zgd (10 != 0) (FX7_gain_b61 (-((σ q_5 4) / 10)) σ))))
noncomputable def FX7_gain_b23 (k0 : Nat) (x1 : Int32) (σ : zS) : Option (Int32 × zS) := FX7_gain_b28 k0 x1 1 σ
noncomputable def FX7_gain (k0 : Nat) (x1 : Int32) (x2 : Int32) (σ : zS) : Option (Int32 × zS) := if x1 = x2 then FX7_gain_b23 k0 x1 σ else zbd (FX7_at ((k0 + 6) + 1) x2 σ) (fun r_7 σ_6 => zbd (FX7_holds r_7 x1 σ_6) (fun r_9 σ_8 => if r_9 = 0 then FX7_gain_b28 k0 x1 0 σ_8 else FX7_gain_b23 k0 x1 σ_8))
set_option maxHeartbeats 4000000 in
set_option maxRecDepth 100000 in
theorem kX7_gain (l : Launch) {V : zV} {σ : zS} {t0 : Int32 × zS} {k0 : Nat} {x1 : Int32} {x2 : Int32} (hk0 : kd 0 k0 = 7) (h1 : FX7_gain k0 x1 x2 σ = some t0) : zMi l yX7_gain cX7_gain 4 (some .int) 1 21 0 V σ t0 [.ref (zad V k0), .int x1, .int x2] := by
  refine zMi_of (by decide) (Nat.le_of_ble_eq_true rfl) ?_
  intro p e s m below meth c A C0 hr hlk hZ ls hl
  generalize ([.ref (zad V k0), .int x1, .int x2] : List Value).toArray = args at C0 ⊢
  obtain ⟨Q, hQ⟩ : ∃ Q, Q = MQ below (zQi 0 V t0 A) args s 0 0 A := ⟨_, rfl⟩
  rw [← hQ]
  have hx := C0.1
  have hb := C0.2.1
  have hl : lv_has ls 4 [(0, .ref (zad V k0)), (1, .int x1), (2, .int x2)] := hl
  unfold FX7_gain at h1
  have J61 : ∀ (y0 : Int32) (σ : zS) (H : Heap) (locs : List Loc) (ls : Array Slot), zZ 0 V A σ s H locs → lv_has ls 4 [] → FX7_gain_b61 y0 σ = some t0 → W p l e (zrm 1 21) s m args below meth c H locs 0 0 Q (F0 m 61 ls [.int y0]) := by
    intro y0 σ H locs ls  hZ hl h1
    unfold FX7_gain_b61 at h1
    rw [hQ]; exact z_iret C0 hr hlk hZ h1 dX7_gain_61
  have J28 : ∀ (y0 : Int32) (σ : zS) (H : Heap) (locs : List Loc) (ls : Array Slot), zZ 0 V A σ s H locs → lv_has ls 4 [(0, .ref (zad V k0)), (1, .int x1)] → FX7_gain_b28 k0 x1 y0 σ = some t0 → W p l e (zrm 1 21) s m args below meth c H locs 0 0 Q (F0 m 28 ls [.int y0]) := by
    intro y0 σ H locs ls  hZ hl h1
    unfold FX7_gain_b28 at h1
    refine z_istore_n C0 h1 hl (fun x3_1 => [(3, .int x3_1), (0, .ref (zad V k0)), (1, .int x1)]) dX7_gain_28 rfl (by decide) (fun _ => rfl) (fun x3_1 ls h1 hl => ?_)
    refine lv_iload_n hx hb dX7_gain_29 rfl (lv_at hl 0 rfl) ?_
    refine z_if_eq (tgt := 47) C0 h1 dX7_gain_30 (by decide) (fun h1 => ?_) (fun h1 => ?_)
    · refine lv_aload_n hx hb dX7_gain_47 rfl (lv_at hl 1 rfl) ?_
      refine z_getm C0 hZ h1 hk0 fRX7_19 rfl dX7_gain_48 (fun q_2 hq_2 h1 => ?_)
      refine z_getr C0 hZ hq_2 fRX7_103 rfl dX7_gain_51 ?_
      refine z_getr C0 hZ (zkt5_0 hq_2) fRX7_177 rfl dX7_gain_54 ?_
      refine lv_iload_n hx hb dX7_gain_57 rfl (lv_at hl 2 rfl) ?_
      refine z_cSi (As := [.ref (zad V ((q_2 + 1) + 1)), .int x1]) (rest := []) C0 hZ h1 (fun _ hf => kX7_at l (zkt1_3 (zkt5_0 hq_2)) hf) mRX7_167 sX7_at rfl rfl hl.1 (Nat.le_of_ble_eq_true rfl) ⟨Nat.le_of_ble_eq_true rfl, Nat.le_of_ble_eq_true rfl⟩ dX7_gain_58 ⟨Nat.le_of_ble_eq_true rfl, Nat.le_of_ble_eq_true rfl⟩ (fun r_4 σ_3 H locs h1 hZ => ?_)
      exact J61 r_4 _ _ _ _  hZ (lv_sub hl [] rfl) h1
    refine lv_aload_n hx hb dX7_gain_33 rfl (lv_at hl 1 rfl) ?_
    refine z_getm C0 hZ h1 hk0 fRX7_19 rfl dX7_gain_34 (fun q_5 hq_5 h1 => ?_)
    refine z_geti C0 hZ hq_5 fRX7_137 rfl dX7_gain_37 ?_
    refine lv_bipush (v := 10) hx hb dX7_gain_40 (by decide) ?_
    refine z_idiv C0 h1 dX7_gain_42 (fun h1 => ?_)
    refine lv_ineg hx hb dX7_gain_43 ?_
    refine lv_goto (tgt := 61) hx hb dX7_gain_44 (by decide) ?_
    exact J61 (-((σ q_5 4) / 10)) _ _ _ _  hZ (lv_sub hl [] rfl) h1
  have J23 : ∀  (σ : zS) (H : Heap) (locs : List Loc) (ls : Array Slot), zZ 0 V A σ s H locs → lv_has ls 4 [(0, .ref (zad V k0)), (1, .int x1)] → FX7_gain_b23 k0 x1 σ = some t0 → W p l e (zrm 1 21) s m args below meth c H locs 0 0 Q (F0 m 23 ls []) := by
    intro  σ H locs ls  hZ hl h1
    unfold FX7_gain_b23 at h1
    refine lv_iconst (v := 1) hx hb dX7_gain_23 (by decide) ?_
    refine lv_goto (tgt := 28) hx hb dX7_gain_24 (by decide) ?_
    exact J28 1 _ _ _ _  hZ (lv_sub hl [0, 1] rfl) h1
  refine lv_iload_n hx hb dX7_gain_0 rfl (lv_at hl 1 rfl) ?_
  refine lv_iload_n hx hb dX7_gain_1 rfl (lv_at hl 2 rfl) ?_
  refine z_ic_eq (tgt := 23) C0 h1 dX7_gain_2 (by decide) (fun h1 => ?_) (fun h1 => ?_)
  · exact J23  _ _ _ _  hZ (lv_sub hl [0, 1] rfl) h1
  refine lv_aload_n hx hb dX7_gain_5 rfl (lv_at hl 0 rfl) ?_
  refine z_getr C0 hZ hk0 fRX7_33 rfl dX7_gain_6 ?_
  refine z_getr C0 hZ (zkt7_4 hk0) fRX7_186 rfl dX7_gain_9 ?_
  refine lv_iload_n hx hb dX7_gain_12 rfl (lv_at hl 2 rfl) ?_
  refine z_cSi (As := [.ref (zad V ((k0 + 6) + 1)), .int x2]) (rest := []) C0 hZ h1 (fun _ hf => kX7_at l (zkt6_6 (zkt7_4 hk0)) hf) mRX7_167 sX7_at rfl rfl hl.1 (Nat.le_of_ble_eq_true rfl) ⟨Nat.le_of_ble_eq_true rfl, Nat.le_of_ble_eq_true rfl⟩ dX7_gain_13 ⟨Nat.le_of_ble_eq_true rfl, Nat.le_of_ble_eq_true rfl⟩ (fun r_7 σ_6 H locs h1 hZ => ?_)
  refine lv_iload_n hx hb dX7_gain_16 rfl (lv_at hl 1 rfl) ?_
  refine z_cSi (As := [.int r_7, .int x1]) (rest := []) C0 hZ h1 (fun _ hf => kX7_holds l  hf) mRX7_234 sX7_holds rfl rfl hl.1 (Nat.le_of_ble_eq_true rfl) ⟨Nat.le_of_ble_eq_true rfl, Nat.le_of_ble_eq_true rfl⟩ dX7_gain_17 ⟨Nat.le_of_ble_eq_true rfl, Nat.le_of_ble_eq_true rfl⟩ (fun r_9 σ_8 H locs h1 hZ => ?_)
  refine z_if_eq (tgt := 27) C0 h1 dX7_gain_20 (by decide) (fun h1 => ?_) (fun h1 => ?_)
  · refine lv_iconst (v := 0) hx hb dX7_gain_27 (by decide) ?_
    exact J28 0 _ _ _ _  hZ (lv_sub hl [0, 1] rfl) h1
  exact J23  _ _ _ _  hZ (lv_sub hl [0, 1] rfl) h1
noncomputable def FX7_rests_b55  (σ : zS) : Option (Int32 × zS) := zgd (1 == 0 || 1 == 1) (some (1, σ))
noncomputable def FX7_rests_b47  (σ : zS) : Option (Int32 × zS) := zgd (0 == 0 || 0 == 1) (some (0, σ))
noncomputable def FX7_rests_L10 (k0 : Nat) (x1 : Int32) (x2 : Int32) (x3 : Int32) (x4 : Int32) (σ : zS) : Option ((Int32 × zS) ⊕ (Int32 × zS)) := zgd (kd 0 (σ k0 2).toNatClampNeg == 5) (zlet (σ k0 2).toNatClampNeg (fun q_1 => if (σ (q_1 + 1) 0) ≤ x4 then zinr (FX7_rests_b55  σ) else zbd (FX7_gain k0 x4 x2 σ) (fun r_3 σ_2 => if x3 < r_3 then zinr (FX7_rests_b47  σ_2) else zbd (FX7_gain k0 x1 x4 σ_2) (fun r_5 σ_4 => if x3 ≤ r_5 then zlet (x4 + 1) (fun x4_6 => some (.inl (x4_6, σ_4))) else zinr (FX7_rests_b47  σ_4)))))
noncomputable def FX7_rests (k0 : Nat) (x1 : Int32) (x2 : Int32) (σ : zS) : Option (Int32 × zS) := zbd (FX7_gain k0 x1 x2 σ) (fun r_8 σ_7 => zlet r_8 (fun x3_9 => zlet 0 (fun x4_10 => zlp (fun q => FX7_rests_L10 k0 x1 x2 x3_9 q.1 q.2) (x4_10, σ_7))))
set_option maxHeartbeats 4000000 in
set_option maxRecDepth 100000 in
theorem kX7_rests (l : Launch) {V : zV} {σ : zS} {t0 : Int32 × zS} {k0 : Nat} {x1 : Int32} {x2 : Int32} (hk0 : kd 0 k0 = 7) (h1 : FX7_rests k0 x1 x2 σ = some t0) : zMi l yX7_rests cX7_rests 5 (some .boolean) 2 44 0 V σ t0 [.ref (zad V k0), .int x1, .int x2] := by
  refine zMi_of (by decide) (Nat.le_of_ble_eq_true rfl) ?_
  intro p e s m below meth c A C0 hr hlk hZ ls hl
  generalize ([.ref (zad V k0), .int x1, .int x2] : List Value).toArray = args at C0 ⊢
  obtain ⟨Q, hQ⟩ : ∃ Q, Q = MQ below (zQi 0 V t0 A) args s 0 0 A := ⟨_, rfl⟩
  rw [← hQ]
  have hx := C0.1
  have hb := C0.2.1
  have hl : lv_has ls 5 [(0, .ref (zad V k0)), (1, .int x1), (2, .int x2)] := hl
  unfold FX7_rests at h1
  have J55 : ∀  (σ : zS) (H : Heap) (locs : List Loc) (ls : Array Slot), zZ 0 V A σ s H locs → lv_has ls 5 [] → FX7_rests_b55  σ = some t0 → W p l e (zrm 2 44) s m args below meth c H locs 0 0 Q (F0 m 55 ls []) := by
    intro  σ H locs ls  hZ hl h1
    unfold FX7_rests_b55 at h1
    refine lv_iconst (v := 1) hx hb dX7_rests_55 (by decide) ?_
    rw [hQ]; exact z_zret C0 hr hlk hZ h1 dX7_rests_56
  have J47 : ∀  (σ : zS) (H : Heap) (locs : List Loc) (ls : Array Slot), zZ 0 V A σ s H locs → lv_has ls 5 [] → FX7_rests_b47  σ = some t0 → W p l e (zrm 2 44) s m args below meth c H locs 0 0 Q (F0 m 47 ls []) := by
    intro  σ H locs ls  hZ hl h1
    unfold FX7_rests_b47 at h1
    refine lv_iconst (v := 0) hx hb dX7_rests_47 (by decide) ?_
    rw [hQ]; exact z_zret C0 hr hlk hZ h1 dX7_rests_48
  have J10 : ∀ (n : Nat) (x3 : Int32) (x4 : Int32) (σ : zS) (H : Heap) (locs : List Loc) (ls : Array Slot), zZ 0 V A σ s H locs → lv_has ls 5 [(0, .ref (zad V k0)), (1, .int x1), (2, .int x2), (3, .int x3), (4, .int x4)] → zit (fun q => FX7_rests_L10 k0 x1 x2 x3 q.1 q.2) n (x4, σ) = some t0 → W p l e (zrm 2 44) s m args below meth c H locs 0 0 Q (F0 m 10 ls []) := by
    intro n
    induction n with
    | zero => intro x3 x4 σ H locs ls  _ _ h1; cases h1
    | succ n ih10 =>
      intro x3 x4 σ H locs ls  hZ hl h1
      obtain ⟨t1, h1, hz1⟩ := zit_1 h1
      replace h1 : FX7_rests_L10 k0 x1 x2 x3 x4 σ = some t1 := h1
      unfold FX7_rests_L10 at h1
      refine lv_iload hx hb dX7_rests_10 (lv_at hl 4 rfl) ?_
      refine lv_aload_n hx hb dX7_rests_12 rfl (lv_at hl 0 rfl) ?_
      refine z_getm C0 hZ h1 hk0 fRX7_19 rfl dX7_rests_13 (fun q_1 hq_1 h1 => ?_)
      refine z_getr C0 hZ hq_1 fRX7_103 rfl dX7_rests_16 ?_
      refine z_geti C0 hZ (zkt5_0 hq_1) fRX7_107 rfl dX7_rests_19 ?_
      refine z_ic_ge (tgt := 55) C0 h1 dX7_rests_22 (by decide) (fun h1 => ?_) (fun h1 => ?_)
      · have h1 := zout h1 hz1
        exact J55  _ _ _ _  hZ (lv_sub hl [] rfl) h1
      refine lv_aload_n hx hb dX7_rests_25 rfl (lv_at hl 0 rfl) ?_
      refine lv_iload hx hb dX7_rests_26 (lv_at hl 4 rfl) ?_
      refine lv_iload_n hx hb dX7_rests_28 rfl (lv_at hl 2 rfl) ?_
      refine z_cVi (As := [.int x4, .int x2]) (rest := []) C0 hZ h1 (fun _ hf => kX7_gain l hk0 hf) mRX7_343 vX7_gain hk0 rfl rfl hl.1 (Nat.le_of_ble_eq_true rfl) ⟨Nat.le_of_ble_eq_true rfl, Nat.le_of_ble_eq_true rfl⟩ dX7_rests_29 ⟨Nat.le_of_ble_eq_true rfl, Nat.le_of_ble_eq_true rfl⟩ (fun r_3 σ_2 H locs h1 hZ => ?_)
      refine lv_iload_n hx hb dX7_rests_32 rfl (lv_at hl 3 rfl) ?_
      refine z_ic_gt (tgt := 47) C0 h1 dX7_rests_33 (by decide) (fun h1 => ?_) (fun h1 => ?_)
      · have h1 := zout h1 hz1
        exact J47  _ _ _ _  hZ (lv_sub hl [] rfl) h1
      refine lv_aload_n hx hb dX7_rests_36 rfl (lv_at hl 0 rfl) ?_
      refine lv_iload_n hx hb dX7_rests_37 rfl (lv_at hl 1 rfl) ?_
      refine lv_iload hx hb dX7_rests_38 (lv_at hl 4 rfl) ?_
      refine z_cVi (As := [.int x1, .int x4]) (rest := []) C0 hZ h1 (fun _ hf => kX7_gain l hk0 hf) mRX7_343 vX7_gain hk0 rfl rfl hl.1 (Nat.le_of_ble_eq_true rfl) ⟨Nat.le_of_ble_eq_true rfl, Nat.le_of_ble_eq_true rfl⟩ dX7_rests_40 ⟨Nat.le_of_ble_eq_true rfl, Nat.le_of_ble_eq_true rfl⟩ (fun r_5 σ_4 H locs h1 hZ => ?_)
      refine lv_iload_n hx hb dX7_rests_43 rfl (lv_at hl 3 rfl) ?_
      refine z_ic_ge (tgt := 49) C0 h1 dX7_rests_44 (by decide) (fun h1 => ?_) (fun h1 => ?_)
      · refine z_iinc (v := 1) C0 h1 hl (fun x4_6 => [(4, .int x4_6), (0, .ref (zad V k0)), (1, .int x1), (2, .int x2), (3, .int x3)]) dX7_rests_49 (k := 4) rfl (by decide) (by decide) (fun _ => rfl) (fun x4_6 ls h1 hl => ?_)
        refine lv_goto (tgt := 10) hx hb dX7_rests_52 (by decide) ?_
        exact ih10 x3 x4_6 _ _ _ _  hZ (lv_sub hl [1, 2, 3, 4, 0] rfl) (zback h1 hz1)
      have h1 := zout h1 hz1
      exact J47  _ _ _ _  hZ (lv_sub hl [] rfl) h1
  refine lv_aload_n hx hb dX7_rests_0 rfl (lv_at hl 0 rfl) ?_
  refine lv_iload_n hx hb dX7_rests_1 rfl (lv_at hl 1 rfl) ?_
  refine lv_iload_n hx hb dX7_rests_2 rfl (lv_at hl 2 rfl) ?_
  refine z_cVi (As := [.int x1, .int x2]) (rest := []) C0 hZ h1 (fun _ hf => kX7_gain l hk0 hf) mRX7_343 vX7_gain hk0 rfl rfl hl.1 (Nat.le_of_ble_eq_true rfl) ⟨Nat.le_of_ble_eq_true rfl, Nat.le_of_ble_eq_true rfl⟩ dX7_rests_3 ⟨Nat.le_of_ble_eq_true rfl, Nat.le_of_ble_eq_true rfl⟩ (fun r_8 σ_7 H locs h1 hZ => ?_)
  refine z_istore_n C0 h1 hl (fun x3_9 => [(3, .int x3_9), (0, .ref (zad V k0)), (1, .int x1), (2, .int x2)]) dX7_rests_6 rfl (by decide) (fun _ => rfl) (fun x3_9 ls h1 hl => ?_)
  refine lv_iconst (v := 0) hx hb dX7_rests_7 (by decide) ?_
  refine z_istore C0 h1 hl (fun x4_10 => [(4, .int x4_10), (3, .int x3_9), (0, .ref (zad V k0)), (1, .int x1), (2, .int x2)]) dX7_rests_8 (by decide) (fun _ => rfl) (fun x4_10 ls h1 hl => ?_)
  obtain ⟨n, h1⟩ := zlp_iff.mp h1
  exact J10 n x3_9 x4_10 _ _ _ _  hZ (lv_sub hl [2, 3, 4, 1, 0] rfl) h1
noncomputable def FX7_resting_b93 (y0 : Int32) (σ : zS) : Option (Int32 × zS) := some (y0, σ)
noncomputable def FX7_resting_b84 (x1 : Int32) (x2 : Int32) (x3 : Int32) (σ : zS) : Option (Int32 × zS) := if x1 = 0 then FX7_resting_b93 x2 σ else FX7_resting_b93 x3 σ
noncomputable def FX7_resting_b78 (k0 : Nat) (x1 : Int32) (x2 : Int32) (x3 : Int32) (x4 : Int32) (σ : zS) : Option ((Int32 × Int32 × Int32 × zS) ⊕ (Int32 × zS)) := zlet (x4 + 1) (fun x4_1 => some (.inl (x2, x3, x4_1, σ)))
noncomputable def FX7_resting_b72 (k0 : Nat) (x1 : Int32) (x2 : Int32) (x3 : Int32) (x4 : Int32) (x5 : Int32) (σ : zS) : Option ((Int32 × Int32 × Int32 × zS) ⊕ ((Int32 × Int32 × Int32 × zS) ⊕ (Int32 × zS))) := zlet (x5 + 1) (fun x5_2 => some (.inl (x2, x3, x5_2, σ)))
noncomputable def FX7_resting_b71 (k0 : Nat) (x1 : Int32) (x2 : Int32) (x4 : Int32) (x5 : Int32) (y0 : Int32) (σ : zS) : Option ((Int32 × Int32 × Int32 × zS) ⊕ ((Int32 × Int32 × Int32 × zS) ⊕ (Int32 × zS))) := zlet y0 (fun x3_3 => FX7_resting_b72 k0 x1 x2 x3_3 x4 x5 σ)
noncomputable def FX7_resting_L25 (k0 : Nat) (x1 : Int32) (x4 : Int32) (x2 : Int32) (x3 : Int32) (x5 : Int32) (σ : zS) : Option ((Int32 × Int32 × Int32 × zS) ⊕ ((Int32 × Int32 × Int32 × zS) ⊕ (Int32 × zS))) := zgd (kd 0 (σ k0 2).toNatClampNeg == 5) (zlet (σ k0 2).toNatClampNeg (fun q_4 => if (σ (q_4 + 1) 0) ≤ x5 then zinr (FX7_resting_b78 k0 x1 x2 x3 x4 σ) else zbd (FX7_rests k0 x4 x5 σ) (fun r_6 σ_5 => if r_6 = 0 then FX7_resting_b72 k0 x1 x2 x3 x4 x5 σ_5 else zlet (x2 + 1) (fun x2_7 => if x3 = (-1) then FX7_resting_b71 k0 x1 x2_7 x4 x5 ((10 * x4) + x5) σ_5 else FX7_resting_b71 k0 x1 x2_7 x4 x5 x3 σ_5))))
noncomputable def FX7_resting_L7 (k0 : Nat) (x1 : Int32) (x2 : Int32) (x3 : Int32) (x4 : Int32) (σ : zS) : Option ((Int32 × Int32 × Int32 × zS) ⊕ (Int32 × zS)) := zgd (kd 0 (σ k0 2).toNatClampNeg == 5) (zlet (σ k0 2).toNatClampNeg (fun q_8 => if (σ (q_8 + 1) 0) ≤ x4 then zinr (FX7_resting_b84 x1 x2 x3 σ) else zlet 0 (fun x5_9 => zlp (fun q => FX7_resting_L25 k0 x1 x4 q.1 q.2.1 q.2.2.1 q.2.2.2) (x2, x3, x5_9, σ))))
noncomputable def FX7_resting (k0 : Nat) (x1 : Int32) (σ : zS) : Option (Int32 × zS) := zlet 0 (fun x2_10 => zlet (-1) (fun x3_11 => zlet 0 (fun x4_12 => zlp (fun q => FX7_resting_L7 k0 x1 q.1 q.2.1 q.2.2.1 q.2.2.2) (x2_10, x3_11, x4_12, σ))))
set_option maxHeartbeats 4000000 in
set_option maxRecDepth 100000 in
theorem kX7_resting (l : Launch) {V : zV} {σ : zS} {t0 : Int32 × zS} {k0 : Nat} {x1 : Int32} (hk0 : kd 0 k0 = 7) (h1 : FX7_resting k0 x1 σ = some t0) : zMi l yX7_resting cX7_resting 6 (some .int) 3 68 0 V σ t0 [.ref (zad V k0), .int x1] := by
  refine zMi_of (by decide) (Nat.le_of_ble_eq_true rfl) ?_
  intro p e s m below meth c A C0 hr hlk hZ ls hl
  generalize ([.ref (zad V k0), .int x1] : List Value).toArray = args at C0 ⊢
  obtain ⟨Q, hQ⟩ : ∃ Q, Q = MQ below (zQi 0 V t0 A) args s 0 0 A := ⟨_, rfl⟩
  rw [← hQ]
  have hx := C0.1
  have hb := C0.2.1
  have hl : lv_has ls 6 [(0, .ref (zad V k0)), (1, .int x1)] := hl
  unfold FX7_resting at h1
  have J93 : ∀ (y0 : Int32) (σ : zS) (H : Heap) (locs : List Loc) (ls : Array Slot), zZ 0 V A σ s H locs → lv_has ls 6 [] → FX7_resting_b93 y0 σ = some t0 → W p l e (zrm 3 68) s m args below meth c H locs 0 0 Q (F0 m 93 ls [.int y0]) := by
    intro y0 σ H locs ls  hZ hl h1
    unfold FX7_resting_b93 at h1
    rw [hQ]; exact z_iret C0 hr hlk hZ h1 dX7_resting_93
  have J84 : ∀ (x2 : Int32) (x3 : Int32) (σ : zS) (H : Heap) (locs : List Loc) (ls : Array Slot), zZ 0 V A σ s H locs → lv_has ls 6 [(1, .int x1), (2, .int x2), (3, .int x3)] → FX7_resting_b84 x1 x2 x3 σ = some t0 → W p l e (zrm 3 68) s m args below meth c H locs 0 0 Q (F0 m 84 ls []) := by
    intro x2 x3 σ H locs ls  hZ hl h1
    unfold FX7_resting_b84 at h1
    refine lv_iload_n hx hb dX7_resting_84 rfl (lv_at hl 0 rfl) ?_
    refine z_if_ne (tgt := 92) C0 h1 dX7_resting_85 (by decide) (fun h1 => ?_) (fun h1 => ?_)
    · refine lv_iload_n hx hb dX7_resting_92 rfl (lv_at hl 2 rfl) ?_
      exact J93 x3 _ _ _ _  hZ (lv_sub hl [] rfl) h1
    refine lv_iload_n hx hb dX7_resting_88 rfl (lv_at hl 1 rfl) ?_
    refine lv_goto (tgt := 93) hx hb dX7_resting_89 (by decide) ?_
    exact J93 x2 _ _ _ _  hZ (lv_sub hl [] rfl) h1
  have J7 : ∀ (n : Nat) (x2 : Int32) (x3 : Int32) (x4 : Int32) (σ : zS) (H : Heap) (locs : List Loc) (ls : Array Slot), zZ 0 V A σ s H locs → lv_has ls 6 [(0, .ref (zad V k0)), (1, .int x1), (2, .int x2), (3, .int x3), (4, .int x4)] → zit (fun q => FX7_resting_L7 k0 x1 q.1 q.2.1 q.2.2.1 q.2.2.2) n (x2, x3, x4, σ) = some t0 → W p l e (zrm 3 68) s m args below meth c H locs 0 0 Q (F0 m 7 ls []) := by
    intro n
    induction n with
    | zero => intro x2 x3 x4 σ H locs ls  _ _ h1; cases h1
    | succ n ih7 =>
      intro x2 x3 x4 σ H locs ls  hZ hl h1
      obtain ⟨t1, h1, hz1⟩ := zit_1 h1
      have J78 : ∀ (x2 : Int32) (x3 : Int32) (x4 : Int32) (σ : zS) (H : Heap) (locs : List Loc) (ls : Array Slot), zZ 0 V A σ s H locs → lv_has ls 6 [(0, .ref (zad V k0)), (1, .int x1), (2, .int x2), (3, .int x3), (4, .int x4)] → FX7_resting_b78 k0 x1 x2 x3 x4 σ = some t1 → W p l e (zrm 3 68) s m args below meth c H locs 0 0 Q (F0 m 78 ls []) := by
        intro x2 x3 x4 σ H locs ls  hZ hl h1
        unfold FX7_resting_b78 at h1
        refine z_iinc (v := 1) C0 h1 hl (fun x4_1 => [(4, .int x4_1), (0, .ref (zad V k0)), (1, .int x1), (2, .int x2), (3, .int x3)]) dX7_resting_78 (k := 4) rfl (by decide) (by decide) (fun _ => rfl) (fun x4_1 ls h1 hl => ?_)
        refine lv_goto (tgt := 7) hx hb dX7_resting_81 (by decide) ?_
        exact ih7 x2 x3 x4_1 _ _ _ _  hZ (lv_sub hl [1, 2, 3, 4, 0] rfl) (zback h1 hz1)
      have J25 : ∀ (n : Nat) (x2 : Int32) (x3 : Int32) (x4 : Int32) (x5 : Int32) (σ : zS) (H : Heap) (locs : List Loc) (ls : Array Slot), zZ 0 V A σ s H locs → lv_has ls 6 [(0, .ref (zad V k0)), (1, .int x1), (2, .int x2), (3, .int x3), (4, .int x4), (5, .int x5)] → zit (fun q => FX7_resting_L25 k0 x1 x4 q.1 q.2.1 q.2.2.1 q.2.2.2) n (x2, x3, x5, σ) = some t1 → W p l e (zrm 3 68) s m args below meth c H locs 0 0 Q (F0 m 25 ls []) := by
        intro n
        induction n with
        | zero => intro x2 x3 x4 x5 σ H locs ls  _ _ h1; cases h1
        | succ n ih25 =>
          intro x2 x3 x4 x5 σ H locs ls  hZ hl h1
          obtain ⟨t2, h1, hz2⟩ := zit_1 h1
          have J72 : ∀ (x2 : Int32) (x3 : Int32) (x5 : Int32) (σ : zS) (H : Heap) (locs : List Loc) (ls : Array Slot), zZ 0 V A σ s H locs → lv_has ls 6 [(0, .ref (zad V k0)), (1, .int x1), (2, .int x2), (3, .int x3), (4, .int x4), (5, .int x5)] → FX7_resting_b72 k0 x1 x2 x3 x4 x5 σ = some t2 → W p l e (zrm 3 68) s m args below meth c H locs 0 0 Q (F0 m 72 ls []) := by
            intro x2 x3 x5 σ H locs ls  hZ hl h1
            unfold FX7_resting_b72 at h1
            refine z_iinc (v := 1) C0 h1 hl (fun x5_2 => [(5, .int x5_2), (0, .ref (zad V k0)), (1, .int x1), (2, .int x2), (3, .int x3), (4, .int x4)]) dX7_resting_72 (k := 5) rfl (by decide) (by decide) (fun _ => rfl) (fun x5_2 ls h1 hl => ?_)
            refine lv_goto (tgt := 25) hx hb dX7_resting_75 (by decide) ?_
            exact ih25 x2 x3 x4 x5_2 _ _ _ _  hZ (lv_sub hl [1, 2, 3, 4, 5, 0] rfl) (zback h1 hz2)
          have J71 : ∀ (x2 : Int32) (x5 : Int32) (y0 : Int32) (σ : zS) (H : Heap) (locs : List Loc) (ls : Array Slot), zZ 0 V A σ s H locs → lv_has ls 6 [(0, .ref (zad V k0)), (1, .int x1), (2, .int x2), (4, .int x4), (5, .int x5)] → FX7_resting_b71 k0 x1 x2 x4 x5 y0 σ = some t2 → W p l e (zrm 3 68) s m args below meth c H locs 0 0 Q (F0 m 71 ls [.int y0]) := by
            intro x2 x5 y0 σ H locs ls  hZ hl h1
            unfold FX7_resting_b71 at h1
            refine z_istore_n C0 h1 hl (fun x3_3 => [(3, .int x3_3), (0, .ref (zad V k0)), (1, .int x1), (2, .int x2), (4, .int x4), (5, .int x5)]) dX7_resting_71 rfl (by decide) (fun _ => rfl) (fun x3_3 ls h1 hl => ?_)
            exact J72 x2 x3_3 x5 _ _ _ _  hZ (lv_sub hl [1, 2, 3, 0, 4, 5] rfl) h1
          replace h1 : FX7_resting_L25 k0 x1 x4 x2 x3 x5 σ = some t2 := h1
          unfold FX7_resting_L25 at h1
          refine lv_iload hx hb dX7_resting_25 (lv_at hl 5 rfl) ?_
          refine lv_aload_n hx hb dX7_resting_27 rfl (lv_at hl 0 rfl) ?_
          refine z_getm C0 hZ h1 hk0 fRX7_19 rfl dX7_resting_28 (fun q_4 hq_4 h1 => ?_)
          refine z_getr C0 hZ hq_4 fRX7_103 rfl dX7_resting_31 ?_
          refine z_geti C0 hZ (zkt5_0 hq_4) fRX7_107 rfl dX7_resting_34 ?_
          refine z_ic_ge (tgt := 78) C0 h1 dX7_resting_37 (by decide) (fun h1 => ?_) (fun h1 => ?_)
          · have h1 := zout h1 hz2
            exact J78 x2 x3 x4 _ _ _ _  hZ (lv_sub hl [0, 1, 2, 3, 4] rfl) h1
          refine lv_aload_n hx hb dX7_resting_40 rfl (lv_at hl 0 rfl) ?_
          refine lv_iload hx hb dX7_resting_41 (lv_at hl 4 rfl) ?_
          refine lv_iload hx hb dX7_resting_43 (lv_at hl 5 rfl) ?_
          refine z_cVi (As := [.int x4, .int x5]) (rest := []) C0 hZ h1 (fun _ hf => kX7_rests l hk0 hf) mRX7_340 vX7_rests hk0 rfl rfl hl.1 (Nat.le_of_ble_eq_true rfl) ⟨Nat.le_of_ble_eq_true rfl, Nat.le_of_ble_eq_true rfl⟩ dX7_resting_45 ⟨Nat.le_of_ble_eq_true rfl, Nat.le_of_ble_eq_true rfl⟩ (fun r_6 σ_5 H locs h1 hZ => ?_)
          refine z_if_eq (tgt := 72) C0 h1 dX7_resting_48 (by decide) (fun h1 => ?_) (fun h1 => ?_)
          · exact J72 x2 x3 x5 _ _ _ _  hZ (lv_sub hl [0, 1, 2, 3, 4, 5] rfl) h1
          refine z_iinc (v := 1) C0 h1 hl (fun x2_7 => [(2, .int x2_7), (0, .ref (zad V k0)), (1, .int x1), (3, .int x3), (4, .int x4), (5, .int x5)]) dX7_resting_51 (k := 2) rfl (by decide) (by decide) (fun _ => rfl) (fun x2_7 ls h1 hl => ?_)
          refine lv_iload_n hx hb dX7_resting_54 rfl (lv_at hl 3 rfl) ?_
          refine lv_iconst (v := (-1)) hx hb dX7_resting_55 (by decide) ?_
          refine z_ic_ne (tgt := 70) C0 h1 dX7_resting_56 (by decide) (fun h1 => ?_) (fun h1 => ?_)
          · refine lv_iload_n hx hb dX7_resting_70 rfl (lv_at hl 3 rfl) ?_
            exact J71 x2_7 x5 x3 _ _ _ _  hZ (lv_sub hl [1, 2, 0, 4, 5] rfl) h1
          refine lv_bipush (v := 10) hx hb dX7_resting_59 (by decide) ?_
          refine lv_iload hx hb dX7_resting_61 (lv_at hl 4 rfl) ?_
          refine lv_imul hx hb dX7_resting_63 ?_
          refine lv_iload hx hb dX7_resting_64 (lv_at hl 5 rfl) ?_
          refine lv_iadd hx hb dX7_resting_66 ?_
          refine lv_goto (tgt := 71) hx hb dX7_resting_67 (by decide) ?_
          exact J71 x2_7 x5 ((10 * x4) + x5) _ _ _ _  hZ (lv_sub hl [1, 2, 0, 4, 5] rfl) h1
      replace h1 : FX7_resting_L7 k0 x1 x2 x3 x4 σ = some t1 := h1
      unfold FX7_resting_L7 at h1
      refine lv_iload hx hb dX7_resting_7 (lv_at hl 4 rfl) ?_
      refine lv_aload_n hx hb dX7_resting_9 rfl (lv_at hl 0 rfl) ?_
      refine z_getm C0 hZ h1 hk0 fRX7_19 rfl dX7_resting_10 (fun q_8 hq_8 h1 => ?_)
      refine z_getr C0 hZ hq_8 fRX7_103 rfl dX7_resting_13 ?_
      refine z_geti C0 hZ (zkt5_0 hq_8) fRX7_107 rfl dX7_resting_16 ?_
      refine z_ic_ge (tgt := 84) C0 h1 dX7_resting_19 (by decide) (fun h1 => ?_) (fun h1 => ?_)
      · have h1 := zout h1 hz1
        exact J84 x2 x3 _ _ _ _  hZ (lv_sub hl [1, 2, 3] rfl) h1
      refine lv_iconst (v := 0) hx hb dX7_resting_22 (by decide) ?_
      refine z_istore C0 h1 hl (fun x5_9 => [(5, .int x5_9), (0, .ref (zad V k0)), (1, .int x1), (2, .int x2), (3, .int x3), (4, .int x4)]) dX7_resting_23 (by decide) (fun _ => rfl) (fun x5_9 ls h1 hl => ?_)
      obtain ⟨n, h1⟩ := zlp_iff.mp h1
      exact J25 n x2 x3 x4 x5_9 _ _ _ _  hZ (lv_sub hl [1, 2, 3, 4, 5, 0] rfl) h1
  refine lv_iconst (v := 0) hx hb dX7_resting_0 (by decide) ?_
  refine z_istore_n C0 h1 hl (fun x2_10 => [(2, .int x2_10), (0, .ref (zad V k0)), (1, .int x1)]) dX7_resting_1 rfl (by decide) (fun _ => rfl) (fun x2_10 ls h1 hl => ?_)
  refine lv_iconst (v := (-1)) hx hb dX7_resting_2 (by decide) ?_
  refine z_istore_n C0 h1 hl (fun x3_11 => [(3, .int x3_11), (2, .int x2_10), (0, .ref (zad V k0)), (1, .int x1)]) dX7_resting_3 rfl (by decide) (fun _ => rfl) (fun x3_11 ls h1 hl => ?_)
  refine lv_iconst (v := 0) hx hb dX7_resting_4 (by decide) ?_
  refine z_istore C0 h1 hl (fun x4_12 => [(4, .int x4_12), (3, .int x3_11), (2, .int x2_10), (0, .ref (zad V k0)), (1, .int x1)]) dX7_resting_5 (by decide) (fun _ => rfl) (fun x4_12 ls h1 hl => ?_)
  obtain ⟨n, h1⟩ := zlp_iff.mp h1
  exact J7 n x2_10 x3_11 x4_12 _ _ _ _  hZ (lv_sub hl [3, 4, 2, 1, 0] rfl) h1
