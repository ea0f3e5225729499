noncomputable def FX1_addAisle (k0 : Nat) (x1 : Int32) (x2 : Int32) (σ : zS) : Option (Int32 × zS) := zbd (FX7_put (k0 + 1) (σ k0 0) x1 σ) (fun _ σ_1 => zbd (FX7_put (k0 + 2) (σ_1 k0 0) x2 σ_1) (fun _ σ_3 => zlet (zup σ_3 k0 0 ((σ_3 k0 0) + 1)) (fun σ_5 => some (0, σ_5))))
set_option maxHeartbeats 4000000 in
set_option maxRecDepth 100000 in
theorem kX1_addAisle (l : Launch) {V : zV} {σ : zS} {t0 : Int32 × zS} {k0 : Nat} {x1 : Int32} {x2 : Int32} (hk0 : kd 0 k0 = 1) (h1 : FX1_addAisle k0 x1 x2 σ = some t0) : zMv l yX1_addAisle cX1_addAisle 3 1 22 0 V σ t0 [.ref (zad V k0), .int x1, .int x2] := by
  refine zMv_of (by decide) (Nat.le_of_ble_eq_true rfl) ?_
  intro p e s m below meth c A C0 hr hlk hZ ls hl
  generalize ([.ref (zad V k0), .int x1, .int x2] : List Value).toArray = args at C0 ⊢
  obtain ⟨Q, hQ⟩ : ∃ Q, Q = MQ below (zQv 0 V t0 A) args s 0 0 A := ⟨_, rfl⟩
  rw [← hQ]
  have hx := C0.1
  have hb := C0.2.1
  have hl : lv_has ls 3 [(0, .ref (zad V k0)), (1, .int x1), (2, .int x2)] := hl
  unfold FX1_addAisle at h1
  refine lv_aload_n hx hb dX1_addAisle_0 rfl (lv_at hl 0 rfl) ?_
  refine z_getr C0 hZ hk0 fRX1_21 rfl dX1_addAisle_1 ?_
  refine lv_aload_n hx hb dX1_addAisle_4 rfl (lv_at hl 0 rfl) ?_
  refine z_geti C0 hZ hk0 fRX1_9 rfl dX1_addAisle_5 ?_
  refine lv_iload_n hx hb dX1_addAisle_8 rfl (lv_at hl 1 rfl) ?_
  refine z_cSv (As := [.ref (zad V (k0 + 1)), .int (σ k0 0), .int x1]) (rest := []) C0 hZ h1 (fun _ hf => kX7_put l (zkt1_3 hk0) hf) mRX1_49 sX7_put rfl rfl hl.1 (Nat.le_of_ble_eq_true rfl) ⟨Nat.le_of_ble_eq_true rfl, Nat.le_of_ble_eq_true rfl⟩ dX1_addAisle_9 ⟨Nat.le_of_ble_eq_true rfl, Nat.le_of_ble_eq_true rfl⟩ (fun _ σ_1 H locs h1 hZ => ?_)
  refine lv_aload_n hx hb dX1_addAisle_12 rfl (lv_at hl 0 rfl) ?_
  refine z_getr C0 hZ hk0 fRX1_25 rfl dX1_addAisle_13 ?_
  refine lv_aload_n hx hb dX1_addAisle_16 rfl (lv_at hl 0 rfl) ?_
  refine z_geti C0 hZ hk0 fRX1_9 rfl dX1_addAisle_17 ?_
  refine lv_iload_n hx hb dX1_addAisle_20 rfl (lv_at hl 2 rfl) ?_
  refine z_cSv (As := [.ref (zad V (k0 + 2)), .int (σ_1 k0 0), .int x2]) (rest := []) C0 hZ h1 (fun _ hf => kX7_put l (zkt1_4 hk0) hf) mRX1_49 sX7_put rfl rfl hl.1 (Nat.le_of_ble_eq_true rfl) ⟨Nat.le_of_ble_eq_true rfl, Nat.le_of_ble_eq_true rfl⟩ dX1_addAisle_21 ⟨Nat.le_of_ble_eq_true rfl, Nat.le_of_ble_eq_true rfl⟩ (fun _ σ_3 H locs h1 hZ => ?_)
  refine lv_aload_n hx hb dX1_addAisle_24 rfl (lv_at hl 0 rfl) ?_
  refine lv_dup hx hb dX1_addAisle_25 rfl ?_
  refine z_geti C0 hZ hk0 fRX1_9 rfl dX1_addAisle_26 ?_
  refine lv_iconst (v := 1) hx hb dX1_addAisle_29 (by decide) ?_
  refine lv_iadd hx hb dX1_addAisle_30 ?_
  refine z_puti C0 hZ h1 hk0 fRX1_9 rfl tyX1_ok nmX1 rfl rfl rfl dX1_addAisle_31 (fun σ_5 H locs h1 hZ => ?_)
  rw [hQ]; exact z_vret C0 hr hlk hZ h1 dX1_addAisle_34
noncomputable def FX1_addWay (k0 : Nat) (x1 : Int32) (x2 : Int32) (σ : zS) : Option (Int32 × zS) := zbd (FX7_at (k0 + 3) x1 σ) (fun r_2 σ_1 => zbd (FX7_bit x2 σ_1) (fun r_4 σ_3 => zbd (FX7_put (k0 + 3) x1 (r_2 ||| r_4) σ_3) (fun _ σ_5 => zbd (FX7_at (k0 + 3) x2 σ_5) (fun r_8 σ_7 => zbd (FX7_bit x1 σ_7) (fun r_10 σ_9 => zbd (FX7_put (k0 + 3) x2 (r_8 ||| r_10) σ_9) (fun _ σ_11 => zlet (zup σ_11 k0 1 ((σ_11 k0 1) + 1)) (fun σ_13 => some (0, σ_13))))))))
set_option maxHeartbeats 4000000 in
set_option maxRecDepth 100000 in
theorem kX1_addWay (l : Launch) {V : zV} {σ : zS} {t0 : Int32 × zS} {k0 : Nat} {x1 : Int32} {x2 : Int32} (hk0 : kd 0 k0 = 1) (h1 : FX1_addWay k0 x1 x2 σ = some t0) : zMv l yX1_addWay cX1_addWay 3 1 22 0 V σ t0 [.ref (zad V k0), .int x1, .int x2] := by
  refine zMv_of (by decide) (Nat.le_of_ble_eq_true rfl) ?_
  intro p e s m below meth c A C0 hr hlk hZ ls hl
  generalize ([.ref (zad V k0), .int x1, .int x2] : List Value).toArray = args at C0 ⊢
  obtain ⟨Q, hQ⟩ : ∃ Q, Q = MQ below (zQv 0 V t0 A) args s 0 0 A := ⟨_, rfl⟩
  rw [← hQ]
  have hx := C0.1
  have hb := C0.2.1
  have hl : lv_has ls 3 [(0, .ref (zad V k0)), (1, .int x1), (2, .int x2)] := hl
  unfold FX1_addWay at h1
  refine lv_aload_n hx hb dX1_addWay_0 rfl (lv_at hl 0 rfl) ?_
  refine z_getr C0 hZ hk0 fRX1_28 rfl dX1_addWay_1 ?_
  refine lv_iload_n hx hb dX1_addWay_4 rfl (lv_at hl 1 rfl) ?_
  refine lv_aload_n hx hb dX1_addWay_5 rfl (lv_at hl 0 rfl) ?_
  refine z_getr C0 hZ hk0 fRX1_28 rfl dX1_addWay_6 ?_
  refine lv_iload_n hx hb dX1_addWay_9 rfl (lv_at hl 1 rfl) ?_
  refine z_cSi (As := [.ref (zad V (k0 + 3)), .int x1]) (rest := [.int x1, .ref (zad V (k0 + 3))]) C0 hZ h1 (fun _ hf => kX7_at l (zkt1_5 hk0) hf) mRX1_41 sX7_at rfl rfl hl.1 (Nat.le_of_ble_eq_true rfl) ⟨Nat.le_of_ble_eq_true rfl, Nat.le_of_ble_eq_true rfl⟩ dX1_addWay_10 ⟨Nat.le_of_ble_eq_true rfl, Nat.le_of_ble_eq_true rfl⟩ (fun r_2 σ_1 H locs h1 hZ => ?_)
  refine lv_iload_n hx hb dX1_addWay_13 rfl (lv_at hl 2 rfl) ?_
  refine z_cSi (As := [.int x2]) (rest := [.int r_2, .int x1, .ref (zad V (k0 + 3))]) C0 hZ h1 (fun _ hf => kX7_bit l  hf) mRX1_53 sX7_bit rfl rfl hl.1 (Nat.le_of_ble_eq_true rfl) ⟨Nat.le_of_ble_eq_true rfl, Nat.le_of_ble_eq_true rfl⟩ dX1_addWay_14 ⟨Nat.le_of_ble_eq_true rfl, Nat.le_of_ble_eq_true rfl⟩ (fun r_4 σ_3 H locs h1 hZ => ?_)
  refine lv_ior hx hb dX1_addWay_17 ?_
  refine z_cSv (As := [.ref (zad V (k0 + 3)), .int x1, .int (r_2 ||| r_4)]) (rest := []) C0 hZ h1 (fun _ hf => kX7_put l (zkt1_5 hk0) hf) mRX1_49 sX7_put rfl rfl hl.1 (Nat.le_of_ble_eq_true rfl) ⟨Nat.le_of_ble_eq_true rfl, Nat.le_of_ble_eq_true rfl⟩ dX1_addWay_18 ⟨Nat.le_of_ble_eq_true rfl, Nat.le_of_ble_eq_true rfl⟩ (fun _ σ_5 H locs h1 hZ => ?_)
  refine lv_aload_n hx hb dX1_addWay_21 rfl (lv_at hl 0 rfl) ?_
  refine z_getr C0 hZ hk0 fRX1_28 rfl dX1_addWay_22 ?_
  refine lv_iload_n hx hb dX1_addWay_25 rfl (lv_at hl 2 rfl) ?_
  refine lv_aload_n hx hb dX1_addWay_26 rfl (lv_at hl 0 rfl) ?_
  refine z_getr C0 hZ hk0 fRX1_28 rfl dX1_addWay_27 ?_
  refine lv_iload_n hx hb dX1_addWay_30 rfl (lv_at hl 2 rfl) ?_
  refine z_cSi (As := [.ref (zad V (k0 + 3)), .int x2]) (rest := [.int x2, .ref (zad V (k0 + 3))]) C0 hZ h1 (fun _ hf => kX7_at l (zkt1_5 hk0) hf) mRX1_41 sX7_at rfl rfl hl.1 (Nat.le_of_ble_eq_true rfl) ⟨Nat.le_of_ble_eq_true rfl, Nat.le_of_ble_eq_true rfl⟩ dX1_addWay_31 ⟨Nat.le_of_ble_eq_true rfl, Nat.le_of_ble_eq_true rfl⟩ (fun r_8 σ_7 H locs h1 hZ => ?_)
  refine lv_iload_n hx hb dX1_addWay_34 rfl (lv_at hl 1 rfl) ?_
  refine z_cSi (As := [.int x1]) (rest := [.int r_8, .int x2, .ref (zad V (k0 + 3))]) C0 hZ h1 (fun _ hf => kX7_bit l  hf) mRX1_53 sX7_bit rfl rfl hl.1 (Nat.le_of_ble_eq_true rfl) ⟨Nat.le_of_ble_eq_true rfl, Nat.le_of_ble_eq_true rfl⟩ dX1_addWay_35 ⟨Nat.le_of_ble_eq_true rfl, Nat.le_of_ble_eq_true rfl⟩ (fun r_10 σ_9 H locs h1 hZ => ?_)
  refine lv_ior hx hb dX1_addWay_38 ?_
  refine z_cSv (As := [.ref (zad V (k0 + 3)), .int x2, .int (r_8 ||| r_10)]) (rest := []) C0 hZ h1 (fun _ hf => kX7_put l (zkt1_5 hk0) hf) mRX1_49 sX7_put rfl rfl hl.1 (Nat.le_of_ble_eq_true rfl) ⟨Nat.le_of_ble_eq_true rfl, Nat.le_of_ble_eq_true rfl⟩ dX1_addWay_39 ⟨Nat.le_of_ble_eq_true rfl, Nat.le_of_ble_eq_true rfl⟩ (fun _ σ_11 H locs h1 hZ => ?_)
  refine lv_aload_n hx hb dX1_addWay_42 rfl (lv_at hl 0 rfl) ?_
  refine lv_dup hx hb dX1_addWay_43 rfl ?_
  refine z_geti C0 hZ hk0 fRX1_15 rfl dX1_addWay_44 ?_
  refine lv_iconst (v := 1) hx hb dX1_addWay_47 (by decide) ?_
  refine lv_iadd hx hb dX1_addWay_48 ?_
  refine z_puti C0 hZ h1 hk0 fRX1_15 rfl tyX1_ok nmX1 rfl rfl rfl dX1_addWay_49 (fun σ_13 H locs h1 hZ => ?_)
  rw [hQ]; exact z_vret C0 hr hlk hZ h1 dX1_addWay_52
noncomputable def FX1_addMirror (k0 : Nat) (x1 : Int32) (x2 : Int32) (σ : zS) : Option (Int32 × zS) := zbd (FX7_at (k0 + 4) x1 σ) (fun r_2 σ_1 => zbd (FX7_bit x2 σ_1) (fun r_4 σ_3 => zbd (FX7_put (k0 + 4) x1 (r_2 ||| r_4) σ_3) (fun _ σ_5 => zlet (zup σ_5 k0 2 ((σ_5 k0 2) + 1)) (fun σ_7 => some (0, σ_7)))))
set_option maxHeartbeats 4000000 in
set_option maxRecDepth 100000 in
theorem kX1_addMirror (l : Launch) {V : zV} {σ : zS} {t0 : Int32 × zS} {k0 : Nat} {x1 : Int32} {x2 : Int32} (hk0 : kd 0 k0 = 1) (h1 : FX1_addMirror k0 x1 x2 σ = some t0) : zMv l yX1_addMirror cX1_addMirror 3 1 22 0 V σ t0 [.ref (zad V k0), .int x1, .int x2] := by
  refine zMv_of (by decide) (Nat.le_of_ble_eq_true rfl) ?_
  intro p e s m below meth c A C0 hr hlk hZ ls hl
  generalize ([.ref (zad V k0), .int x1, .int x2] : List Value).toArray = args at C0 ⊢
  obtain ⟨Q, hQ⟩ : ∃ Q, Q = MQ below (zQv 0 V t0 A) args s 0 0 A := ⟨_, rfl⟩
  rw [← hQ]
  have hx := C0.1
  have hb := C0.2.1
  have hl : lv_has ls 3 [(0, .ref (zad V k0)), (1, .int x1), (2, .int x2)] := hl
  unfold FX1_addMirror at h1
  refine lv_aload_n hx hb dX1_addMirror_0 rfl (lv_at hl 0 rfl) ?_
  refine z_getr C0 hZ hk0 fRX1_31 rfl dX1_addMirror_1 ?_
  refine lv_iload_n hx hb dX1_addMirror_4 rfl (lv_at hl 1 rfl) ?_
  refine lv_aload_n hx hb dX1_addMirror_5 rfl (lv_at hl 0 rfl) ?_
  refine z_getr C0 hZ hk0 fRX1_31 rfl dX1_addMirror_6 ?_
  refine lv_iload_n hx hb dX1_addMirror_9 rfl (lv_at hl 1 rfl) ?_
  refine z_cSi (As := [.ref (zad V (k0 + 4)), .int x1]) (rest := [.int x1, .ref (zad V (k0 + 4))]) C0 hZ h1 (fun _ hf => kX7_at l (zkt1_6 hk0) hf) mRX1_41 sX7_at rfl rfl hl.1 (Nat.le_of_ble_eq_true rfl) ⟨Nat.le_of_ble_eq_true rfl, Nat.le_of_ble_eq_true rfl⟩ dX1_addMirror_10 ⟨Nat.le_of_ble_eq_true rfl, Nat.le_of_ble_eq_true rfl⟩ (fun r_2 σ_1 H locs h1 hZ => ?_)
  refine lv_iload_n hx hb dX1_addMirror_13 rfl (lv_at hl 2 rfl) ?_
  refine z_cSi (As := [.int x2]) (rest := [.int r_2, .int x1, .ref (zad V (k0 + 4))]) C0 hZ h1 (fun _ hf => kX7_bit l  hf) mRX1_53 sX7_bit rfl rfl hl.1 (Nat.le_of_ble_eq_true rfl) ⟨Nat.le_of_ble_eq_true rfl, Nat.le_of_ble_eq_true rfl⟩ dX1_addMirror_14 ⟨Nat.le_of_ble_eq_true rfl, Nat.le_of_ble_eq_true rfl⟩ (fun r_4 σ_3 H locs h1 hZ => ?_)
  refine lv_ior hx hb dX1_addMirror_17 ?_
  refine z_cSv (As := [.ref (zad V (k0 + 4)), .int x1, .int (r_2 ||| r_4)]) (rest := []) C0 hZ h1 (fun _ hf => kX7_put l (zkt1_6 hk0) hf) mRX1_49 sX7_put rfl rfl hl.1 (Nat.le_of_ble_eq_true rfl) ⟨Nat.le_of_ble_eq_true rfl, Nat.le_of_ble_eq_true rfl⟩ dX1_addMirror_18 ⟨Nat.le_of_ble_eq_true rfl, Nat.le_of_ble_eq_true rfl⟩ (fun _ σ_5 H locs h1 hZ => ?_)
  refine lv_aload_n hx hb dX1_addMirror_21 rfl (lv_at hl 0 rfl) ?_
  refine lv_dup hx hb dX1_addMirror_22 rfl ?_
  refine z_geti C0 hZ hk0 fRX1_18 rfl dX1_addMirror_23 ?_
  refine lv_iconst (v := 1) hx hb dX1_addMirror_26 (by decide) ?_
  refine lv_iadd hx hb dX1_addMirror_27 ?_
  refine z_puti C0 hZ h1 hk0 fRX1_18 rfl tyX1_ok nmX1 rfl rfl rfl dX1_addMirror_28 (fun σ_7 H locs h1 hZ => ?_)
  rw [hQ]; exact z_vret C0 hr hlk hZ h1 dX1_addMirror_31
noncomputable def FX1_measure_b156  (σ : zS) : Option (Int32 × zS) := some (0, σ)
noncomputable def FX1_measure_b150 (k0 : Nat) (x1 : Int32) (σ : zS) : Option ((Int32 × zS) ⊕ (Int32 × zS)) := zlet (x1 + 1) (fun x1_1 => some (.inl (x1_1, σ)))
noncomputable def FX1_measure_b144 (k0 : Nat) (x1 : Int32) (x2 : Int32) (σ : zS) : Option ((Int32 × zS) ⊕ ((Int32 × zS) ⊕ (Int32 × zS))) := zlet (x2 + 1) (fun x2_2 => some (.inl (x2_2, σ)))
noncomputable def FX1_measure_L91 (k0 : Nat) (x1 : Int32) (x2 : Int32) (x3 : Int32) (σ : zS) : Option ((Int32 × zS) ⊕ ((Int32 × zS) ⊕ ((Int32 × zS) ⊕ (Int32 × zS)))) := if (σ k0 0) ≤ x3 then zinr (FX1_measure_b144 k0 x1 x2 σ) else zbd (FX1_between k0 x2 x1 σ) (fun r_4 σ_3 => zbd (FX1_between k0 x1 x3 σ_3) (fun r_6 σ_5 => zlet (r_4 + r_6) (fun x4_7 => zbd (FX1_between k0 x2 x3 σ_5) (fun r_9 σ_8 => zbd (FX7_put (k0 + 5) ((x2 * 10) + x3) (if x4_7 < r_9 then x4_7 else r_9) σ_8) (fun _ σ_11 => zlet (x3 + 1) (fun x3_13 => some (.inl (x3_13, σ_11))))))))
noncomputable def FX1_measure_L81 (k0 : Nat) (x1 : Int32) (x2 : Int32) (σ : zS) : Option ((Int32 × zS) ⊕ ((Int32 × zS) ⊕ (Int32 × zS))) := if (σ k0 0) ≤ x2 then zinr (FX1_measure_b150 k0 x1 σ) else zlet 0 (fun x3_14 => zlp (fun q => FX1_measure_L91 k0 x1 x2 q.1 q.2) (x3_14, σ))
noncomputable def FX1_measure_L71 (k0 : Nat) (x1 : Int32) (σ : zS) : Option ((Int32 × zS) ⊕ (Int32 × zS)) := if (σ k0 0) ≤ x1 then zinr (FX1_measure_b156  σ) else zlet 0 (fun x2_15 => zlp (fun q => FX1_measure_L81 k0 x1 q.1 q.2) (x2_15, σ))
noncomputable def FX1_measure_b69 (k0 : Nat) (σ : zS) : Option (Int32 × zS) := zlet 0 (fun x1_16 => zlp (fun q => FX1_measure_L71 k0 q.1 q.2) (x1_16, σ))
noncomputable def FX1_measure_b63 (k0 : Nat) (x1 : Int32) (σ : zS) : Option ((Int32 × zS) ⊕ (Int32 × zS)) := zlet (x1 + 1) (fun x1_17 => some (.inl (x1_17, σ)))
noncomputable def FX1_measure_b54 (k0 : Nat) (x1 : Int32) (x2 : Int32) (q0 : Nat) (y1 : Int32) (y2 : Int32) (σ : zS) : Option ((Int32 × zS) ⊕ ((Int32 × zS) ⊕ (Int32 × zS))) := zbd (FX7_put q0 y1 y2 σ) (fun _ σ_18 => zlet (x2 + 1) (fun x2_20 => some (.inl (x2_20, σ_18))))
noncomputable def FX1_measure_L12 (k0 : Nat) (x1 : Int32) (x2 : Int32) (σ : zS) : Option ((Int32 × zS) ⊕ ((Int32 × zS) ⊕ (Int32 × zS))) := if (σ k0 0) ≤ x2 then zinr (FX1_measure_b63 k0 x1 σ) else if x1 = x2 then FX1_measure_b54 k0 x1 x2 (k0 + 5) ((x1 * 10) + x2) 0 σ else zbd (FX1_joins k0 x1 x2 σ) (fun r_22 σ_21 => if r_22 = 0 then FX1_measure_b54 k0 x1 x2 (k0 + 5) ((x1 * 10) + x2) 99 σ_21 else FX1_measure_b54 k0 x1 x2 (k0 + 5) ((x1 * 10) + x2) 1 σ_21)
noncomputable def FX1_measure_L2 (k0 : Nat) (x1 : Int32) (σ : zS) : Option ((Int32 × zS) ⊕ (Int32 × zS)) := if (σ k0 0) ≤ x1 then zinr (FX1_measure_b69 k0 σ) else zlet 0 (fun x2_23 => zlp (fun q => FX1_measure_L12 k0 x1 q.1 q.2) (x2_23, σ))
noncomputable def FX1_measure (k0 : Nat) (σ : zS) : Option (Int32 × zS) := zlet 0 (fun x1_24 => zlp (fun q => FX1_measure_L2 k0 q.1 q.2) (x1_24, σ))
set_option maxHeartbeats 4000000 in
set_option maxRecDepth 100000 in
theorem kX1_measure (l : Launch) {V : zV} {σ : zS} {t0 : Int32 × zS} {k0 : Nat} (hk0 : kd 0 k0 = 1) (h1 : FX1_measure k0 σ = some t0) : zMv l yX1_measure cX1_measure 5 2 43 0 V σ t0 [.ref (zad V k0)] := by
  refine zMv_of (by decide) (Nat.le_of_ble_eq_true rfl) ?_
  intro p e s m below meth c A C0 hr hlk hZ ls hl
  generalize ([.ref (zad V k0)] : List Value).toArray = args at C0 ⊢
  obtain ⟨Q, hQ⟩ : ∃ Q, Q = MQ below (zQv 0 V t0 A) args s 0 0 A := ⟨_, rfl⟩
  rw [← hQ]
  have hx := C0.1
  have hb := C0.2.1
  have hl : lv_has ls 5 [(0, .ref (zad V k0))] := hl
  unfold FX1_measure at h1
  have J156 : ∀  (σ : zS) (H : Heap) (locs : List Loc) (ls : Array Slot), zZ 0 V A σ s H locs → lv_has ls 5 [] → FX1_measure_b156  σ = some t0 → W p l e (zrm 2 43) s m args below meth c H locs 0 0 Q (F0 m 156 ls []) := by
    intro  σ H locs ls  hZ hl h1
    unfold FX1_measure_b156 at h1
    rw [hQ]; exact z_vret C0 hr hlk hZ h1 dX1_measure_156
  have J71 : ∀ (n : Nat) (x1 : Int32) (σ : zS) (H : Heap) (locs : List Loc) (ls : Array Slot), zZ 0 V A σ s H locs → lv_has ls 5 [(0, .ref (zad V k0)), (1, .int x1)] → zit (fun q => FX1_measure_L71 k0 q.1 q.2) n (x1, σ) = some t0 → W p l e (zrm 2 43) s m args below meth c H locs 0 0 Q (F0 m 71 ls []) := by
    intro n
    induction n with
    | zero => intro x1 σ H locs ls  _ _ h1; cases h1
    | succ n ih71 =>
      intro x1 σ H locs ls  hZ hl h1
      obtain ⟨t1, h1, hz1⟩ := zit_1 h1
      have J150 : ∀ (x1 : Int32) (σ : zS) (H : Heap) (locs : List Loc) (ls : Array Slot), zZ 0 V A σ s H locs → lv_has ls 5 [(0, .ref (zad V k0)), (1, .int x1)] → FX1_measure_b150 k0 x1 σ = some t1 → W p l e (zrm 2 43) s m args below meth c H locs 0 0 Q (F0 m 150 ls []) := by
        intro x1 σ H locs ls  hZ hl h1
        unfold FX1_measure_b150 at h1
        refine z_iinc (v := 1) C0 h1 hl (fun x1_1 => [(1, .int x1_1), (0, .ref (zad V k0))]) dX1_measure_150 (k := 1) rfl (by decide) (by decide) (fun _ => rfl) (fun x1_1 ls h1 hl => ?_)
        refine lv_goto (tgt := 71) hx hb dX1_measure_153 (by decide) ?_
        exact ih71 x1_1 _ _ _ _  hZ (lv_sub hl [1, 0] rfl) (zback h1 hz1)
      have J81 : ∀ (n : Nat) (x1 : Int32) (x2 : Int32) (σ : zS) (H : Heap) (locs : List Loc) (ls : Array Slot), zZ 0 V A σ s H locs → lv_has ls 5 [(0, .ref (zad V k0)), (1, .int x1), (2, .int x2)] → zit (fun q => FX1_measure_L81 k0 x1 q.1 q.2) n (x2, σ) = some t1 → W p l e (zrm 2 43) s m args below meth c H locs 0 0 Q (F0 m 81 ls []) := by
        intro n
        induction n with
        | zero => intro x1 x2 σ H locs ls  _ _ h1; cases h1
        | succ n ih81 =>
          intro x1 x2 σ H locs ls  hZ hl h1
          obtain ⟨t2, h1, hz2⟩ := zit_1 h1
          have J144 : ∀ (x2 : Int32) (σ : zS) (H : Heap) (locs : List Loc) (ls : Array Slot), zZ 0 V A σ s H locs → lv_has ls 5 [(0, .ref (zad V k0)), (1, .int x1), (2, .int x2)] → FX1_measure_b144 k0 x1 x2 σ = some t2 → W p l e (zrm 2 43) s m args below meth c H locs 0 0 Q (F0 m 144 ls []) := by
            intro x2 σ H locs ls  hZ hl h1
            unfold FX1_measure_b144 at h1
            refine z_iinc (v := 1) C0 h1 hl (fun x2_2 => [(2, .int x2_2), (0, .ref (zad V k0)), (1, .int x1)]) dX1_measure_144 (k := 2) rfl (by decide) (by decide) (fun _ => rfl) (fun x2_2 ls h1 hl => ?_)
            refine lv_goto (tgt := 81) hx hb dX1_measure_147 (by decide) ?_
            exact ih81 x1 x2_2 _ _ _ _  hZ (lv_sub hl [1, 2, 0] rfl) (zback h1 hz2)
          have J91 : ∀ (n : Nat) (x2 : Int32) (x3 : Int32) (σ : zS) (H : Heap) (locs : List Loc) (ls : Array Slot), zZ 0 V A σ s H locs → lv_has ls 5 [(0, .ref (zad V k0)), (1, .int x1), (2, .int x2), (3, .int x3)] → zit (fun q => FX1_measure_L91 k0 x1 x2 q.1 q.2) n (x3, σ) = some t2 → W p l e (zrm 2 43) s m args below meth c H locs 0 0 Q (F0 m 91 ls []) := by
            intro n
            induction n with
            | zero => intro x2 x3 σ H locs ls  _ _ h1; cases h1
            | succ n ih91 =>
              intro x2 x3 σ H locs ls  hZ hl h1
              obtain ⟨t3, h1, hz3⟩ := zit_1 h1
              replace h1 : FX1_measure_L91 k0 x1 x2 x3 σ = some t3 := h1
              unfold FX1_measure_L91 at h1
              refine lv_iload_n hx hb dX1_measure_91 rfl (lv_at hl 3 rfl) ?_
              refine lv_aload_n hx hb dX1_measure_92 rfl (lv_at hl 0 rfl) ?_
              refine z_geti C0 hZ hk0 fRX1_9 rfl dX1_measure_93 ?_
              refine z_ic_ge (tgt := 144) C0 h1 dX1_measure_96 (by decide) (fun h1 => ?_) (fun h1 => ?_)
              · have h1 := zout h1 hz3
                exact J144 x2 _ _ _ _  hZ (lv_sub hl [0, 1, 2] rfl) h1
              refine lv_aload_n hx hb dX1_measure_99 rfl (lv_at hl 0 rfl) ?_
              refine lv_iload_n hx hb dX1_measure_100 rfl (lv_at hl 2 rfl) ?_
              refine lv_iload_n hx hb dX1_measure_101 rfl (lv_at hl 1 rfl) ?_
              refine z_cVi (As := [.int x2, .int x1]) (rest := []) C0 hZ h1 (fun _ hf => kX1_between l hk0 hf) mRX1_60 vX1_between hk0 rfl rfl hl.1 (Nat.le_of_ble_eq_true rfl) ⟨Nat.le_of_ble_eq_true rfl, Nat.le_of_ble_eq_true rfl⟩ dX1_measure_102 ⟨Nat.le_of_ble_eq_true rfl, Nat.le_of_ble_eq_true rfl⟩ (fun r_4 σ_3 H locs h1 hZ => ?_)
              refine lv_aload_n hx hb dX1_measure_105 rfl (lv_at hl 0 rfl) ?_
              refine lv_iload_n hx hb dX1_measure_106 rfl (lv_at hl 1 rfl) ?_
              refine lv_iload_n hx hb dX1_measure_107 rfl (lv_at hl 3 rfl) ?_
              refine z_cVi (As := [.int x1, .int x3]) (rest := [.int r_4]) C0 hZ h1 (fun _ hf => kX1_between l hk0 hf) mRX1_60 vX1_between hk0 rfl rfl hl.1 (Nat.le_of_ble_eq_true rfl) ⟨Nat.le_of_ble_eq_true rfl, Nat.le_of_ble_eq_true rfl⟩ dX1_measure_108 ⟨Nat.le_of_ble_eq_true rfl, Nat.le_of_ble_eq_true rfl⟩ (fun r_6 σ_5 H locs h1 hZ => ?_)
              refine lv_iadd hx hb dX1_measure_111 ?_
              refine z_istore C0 h1 hl (fun x4_7 => [(4, .int x4_7), (0, .ref (zad V k0)), (1, .int x1), (2, .int x2), (3, .int x3)]) dX1_measure_112 (by decide) (fun _ => rfl) (fun x4_7 ls h1 hl => ?_)
              refine lv_aload_n hx hb dX1_measure_114 rfl (lv_at hl 1 rfl) ?_
              refine z_getr C0 hZ hk0 fRX1_34 rfl dX1_measure_115 ?_
              refine lv_iload_n hx hb dX1_measure_118 rfl (lv_at hl 3 rfl) ?_
              refine lv_bipush (v := 10) hx hb dX1_measure_119 (by decide) ?_
              refine lv_imul hx hb dX1_measure_121 ?_
              refine lv_iload_n hx hb dX1_measure_122 rfl (lv_at hl 4 rfl) ?_
              refine lv_iadd hx hb dX1_measure_123 ?_
              refine lv_aload_n hx hb dX1_measure_124 rfl (lv_at hl 1 rfl) ?_
              refine lv_iload_n hx hb dX1_measure_125 rfl (lv_at hl 3 rfl) ?_
              refine lv_iload_n hx hb dX1_measure_126 rfl (lv_at hl 4 rfl) ?_
              refine z_cVi (As := [.int x2, .int x3]) (rest := [.int ((x2 * 10) + x3), .ref (zad V (k0 + 5))]) C0 hZ h1 (fun _ hf => kX1_between l hk0 hf) mRX1_60 vX1_between hk0 rfl rfl hl.1 (Nat.le_of_ble_eq_true rfl) ⟨Nat.le_of_ble_eq_true rfl, Nat.le_of_ble_eq_true rfl⟩ dX1_measure_127 ⟨Nat.le_of_ble_eq_true rfl, Nat.le_of_ble_eq_true rfl⟩ (fun r_9 σ_8 H locs h1 hZ => ?_)
              refine lv_iload hx hb dX1_measure_130 (lv_at hl 0 rfl) ?_
              refine z_mmin C0 hl.1 mmRX1_64 ⟨Nat.le_of_ble_eq_true rfl, Nat.le_of_ble_eq_true rfl⟩ ⟨Nat.le_of_ble_eq_true rfl, Nat.le_of_ble_eq_true rfl⟩ dX1_measure_132 ?_
              refine z_cSv (As := [.ref (zad V (k0 + 5)), .int ((x2 * 10) + x3), .int (if x4_7 < r_9 then x4_7 else r_9)]) (rest := []) C0 hZ h1 (fun _ hf => kX7_put l (zkt1_7 hk0) hf) mRX1_49 sX7_put rfl rfl hl.1 (Nat.le_of_ble_eq_true rfl) ⟨Nat.le_of_ble_eq_true rfl, Nat.le_of_ble_eq_true rfl⟩ dX1_measure_135 ⟨Nat.le_of_ble_eq_true rfl, Nat.le_of_ble_eq_true rfl⟩ (fun _ σ_11 H locs h1 hZ => ?_)
              refine z_iinc (v := 1) C0 h1 hl (fun x3_13 => [(3, .int x3_13), (4, .int x4_7), (0, .ref (zad V k0)), (1, .int x1), (2, .int x2)]) dX1_measure_138 (k := 4) rfl (by decide) (by decide) (fun _ => rfl) (fun x3_13 ls h1 hl => ?_)
              refine lv_goto (tgt := 91) hx hb dX1_measure_141 (by decide) ?_
              exact ih91 x2 x3_13 _ _ _ _  hZ (lv_sub hl [2, 3, 4, 0] rfl) (zback h1 hz3)
          replace h1 : FX1_measure_L81 k0 x1 x2 σ = some t2 := h1
          unfold FX1_measure_L81 at h1
          refine lv_iload_n hx hb dX1_measure_81 rfl (lv_at hl 2 rfl) ?_
          refine lv_aload_n hx hb dX1_measure_82 rfl (lv_at hl 0 rfl) ?_
          refine z_geti C0 hZ hk0 fRX1_9 rfl dX1_measure_83 ?_
          refine z_ic_ge (tgt := 150) C0 h1 dX1_measure_86 (by decide) (fun h1 => ?_) (fun h1 => ?_)
          · have h1 := zout h1 hz2
            exact J150 x1 _ _ _ _  hZ (lv_sub hl [0, 1] rfl) h1
          refine lv_iconst (v := 0) hx hb dX1_measure_89 (by decide) ?_
          refine z_istore_n C0 h1 hl (fun x3_14 => [(3, .int x3_14), (0, .ref (zad V k0)), (1, .int x1), (2, .int x2)]) dX1_measure_90 rfl (by decide) (fun _ => rfl) (fun x3_14 ls h1 hl => ?_)
          obtain ⟨n, h1⟩ := zlp_iff.mp h1
          exact J91 n x2 x3_14 _ _ _ _  hZ (lv_sub hl [1, 2, 3, 0] rfl) h1
      replace h1 : FX1_measure_L71 k0 x1 σ = some t1 := h1
      unfold FX1_measure_L71 at h1
      refine lv_iload_n hx hb dX1_measure_71 rfl (lv_at hl 1 rfl) ?_
      refine lv_aload_n hx hb dX1_measure_72 rfl (lv_at hl 0 rfl) ?_
      refine z_geti C0 hZ hk0 fRX1_9 rfl dX1_measure_73 ?_
      refine z_ic_ge (tgt := 156) C0 h1 dX1_measure_76 (by decide) (fun h1 => ?_) (fun h1 => ?_)
      · have h1 := zout h1 hz1
        exact J156  _ _ _ _  hZ (lv_sub hl [] rfl) h1
      refine lv_iconst (v := 0) hx hb dX1_measure_79 (by decide) ?_
      refine z_istore_n C0 h1 hl (fun x2_15 => [(2, .int x2_15), (0, .ref (zad V k0)), (1, .int x1)]) dX1_measure_80 rfl (by decide) (fun _ => rfl) (fun x2_15 ls h1 hl => ?_)
      obtain ⟨n, h1⟩ := zlp_iff.mp h1
      exact J81 n x1 x2_15 _ _ _ _  hZ (lv_sub hl [1, 2, 0] rfl) h1
  have J69 : ∀  (σ : zS) (H : Heap) (locs : List Loc) (ls : Array Slot), zZ 0 V A σ s H locs → lv_has ls 5 [(0, .ref (zad V k0))] → FX1_measure_b69 k0 σ = some t0 → W p l e (zrm 2 43) s m args below meth c H locs 0 0 Q (F0 m 69 ls []) := by
    intro  σ H locs ls  hZ hl h1
    unfold FX1_measure_b69 at h1
    refine lv_iconst (v := 0) hx hb dX1_measure_69 (by decide) ?_
    refine z_istore_n C0 h1 hl (fun x1_16 => [(1, .int x1_16), (0, .ref (zad V k0))]) dX1_measure_70 rfl (by decide) (fun _ => rfl) (fun x1_16 ls h1 hl => ?_)
    obtain ⟨n, h1⟩ := zlp_iff.mp h1
    exact J71 n x1_16 _ _ _ _  hZ (lv_sub hl [1, 0] rfl) h1
  have J2 : ∀ (n : Nat) (x1 : Int32) (σ : zS) (H : Heap) (locs : List Loc) (ls : Array Slot), zZ 0 V A σ s H locs → lv_has ls 5 [(0, .ref (zad V k0)), (1, .int x1)] → zit (fun q => FX1_measure_L2 k0 q.1 q.2) n (x1, σ) = some t0 → W p l e (zrm 2 43) s m args below meth c H locs 0 0 Q (F0 m 2 ls []) := by
    intro n
    induction n with
    | zero => intro x1 σ H locs ls  _ _ h1; cases h1
    | succ n ih2 =>
      intro x1 σ H locs ls  hZ hl h1
      obtain ⟨t1, h1, hz1⟩ := zit_1 h1
      have J63 : ∀ (x1 : Int32) (σ : zS) (H : Heap) (locs : List Loc) (ls : Array Slot), zZ 0 V A σ s H locs → lv_has ls 5 [(0, .ref (zad V k0)), (1, .int x1)] → FX1_measure_b63 k0 x1 σ = some t1 → W p l e (zrm 2 43) s m args below meth c H locs 0 0 Q (F0 m 63 ls []) := by
        intro x1 σ H locs ls  hZ hl h1
        unfold FX1_measure_b63 at h1
        refine z_iinc (v := 1) C0 h1 hl (fun x1_17 => [(1, .int x1_17), (0, .ref (zad V k0))]) dX1_measure_63 (k := 1) rfl (by decide) (by decide) (fun _ => rfl) (fun x1_17 ls h1 hl => ?_)
        refine lv_goto (tgt := 2) hx hb dX1_measure_66 (by decide) ?_
        exact ih2 x1_17 _ _ _ _  hZ (lv_sub hl [1, 0] rfl) (zback h1 hz1)
      have J12 : ∀ (n : Nat) (x1 : Int32) (x2 : Int32) (σ : zS) (H : Heap) (locs : List Loc) (ls : Array Slot), zZ 0 V A σ s H locs → lv_has ls 5 [(0, .ref (zad V k0)), (1, .int x1), (2, .int x2)] → zit (fun q => FX1_measure_L12 k0 x1 q.1 q.2) n (x2, σ) = some t1 → W p l e (zrm 2 43) s m args below meth c H locs 0 0 Q (F0 m 12 ls []) := by
        intro n
        induction n with
        | zero => intro x1 x2 σ H locs ls  _ _ h1; cases h1
        | succ n ih12 =>
          intro x1 x2 σ H locs ls  hZ hl h1
          obtain ⟨t2, h1, hz2⟩ := zit_1 h1
          have J54 : ∀ (x2 : Int32) (q0 : Nat) (y1 : Int32) (y2 : Int32) (σ : zS) (H : Heap) (locs : List Loc) (ls : Array Slot), kd 0 q0 = 100 → zZ 0 V A σ s H locs → lv_has ls 5 [(0, .ref (zad V k0)), (1, .int x1), (2, .int x2)] → FX1_measure_b54 k0 x1 x2 q0 y1 y2 σ = some t2 → W p l e (zrm 2 43) s m args below meth c H locs 0 0 Q (F0 m 54 ls [.int y2, .int y1, .ref (zad V q0)]) := by
            intro x2 q0 y1 y2 σ H locs ls hq0 hZ hl h1
            unfold FX1_measure_b54 at h1
            refine z_cSv (As := [.ref (zad V q0), .int y1, .int y2]) (rest := []) C0 hZ h1 (fun _ hf => kX7_put l hq0 hf) mRX1_49 sX7_put rfl rfl hl.1 (Nat.le_of_ble_eq_true rfl) ⟨Nat.le_of_ble_eq_true rfl, Nat.le_of_ble_eq_true rfl⟩ dX1_measure_54 ⟨Nat.le_of_ble_eq_true rfl, Nat.le_of_ble_eq_true rfl⟩ (fun _ σ_18 H locs h1 hZ => ?_)
            refine z_iinc (v := 1) C0 h1 hl (fun x2_20 => [(2, .int x2_20), (0, .ref (zad V k0)), (1, .int x1)]) dX1_measure_57 (k := 2) rfl (by decide) (by decide) (fun _ => rfl) (fun x2_20 ls h1 hl => ?_)
            refine lv_goto (tgt := 12) hx hb dX1_measure_60 (by decide) ?_
            exact ih12 x1 x2_20 _ _ _ _  hZ (lv_sub hl [1, 2, 0] rfl) (zback h1 hz2)
          replace h1 : FX1_measure_L12 k0 x1 x2 σ = some t2 := h1
          unfold FX1_measure_L12 at h1
          refine lv_iload_n hx hb dX1_measure_12 rfl (lv_at hl 2 rfl) ?_
          refine lv_aload_n hx hb dX1_measure_13 rfl (lv_at hl 0 rfl) ?_
          refine z_geti C0 hZ hk0 fRX1_9 rfl dX1_measure_14 ?_
          refine z_ic_ge (tgt := 63) C0 h1 dX1_measure_17 (by decide) (fun h1 => ?_) (fun h1 => ?_)
          · have h1 := zout h1 hz2
            exact J63 x1 _ _ _ _  hZ (lv_sub hl [0, 1] rfl) h1
          refine lv_aload_n hx hb dX1_measure_20 rfl (lv_at hl 0 rfl) ?_
          refine z_getr C0 hZ hk0 fRX1_34 rfl dX1_measure_21 ?_
          refine lv_iload_n hx hb dX1_measure_24 rfl (lv_at hl 1 rfl) ?_
          refine lv_bipush (v := 10) hx hb dX1_measure_25 (by decide) ?_
          refine lv_imul hx hb dX1_measure_27 ?_
          refine lv_iload_n hx hb dX1_measure_28 rfl (lv_at hl 2 rfl) ?_
          refine lv_iadd hx hb dX1_measure_29 ?_
          refine lv_iload_n hx hb dX1_measure_30 rfl (lv_at hl 1 rfl) ?_
          refine lv_iload_n hx hb dX1_measure_31 rfl (lv_at hl 2 rfl) ?_
          refine z_ic_ne (tgt := 39) C0 h1 dX1_measure_32 (by decide) (fun h1 => ?_) (fun h1 => ?_)
          · refine lv_aload_n hx hb dX1_measure_39 rfl (lv_at hl 0 rfl) ?_
            refine lv_iload_n hx hb dX1_measure_40 rfl (lv_at hl 1 rfl) ?_
            refine lv_iload_n hx hb dX1_measure_41 rfl (lv_at hl 2 rfl) ?_
            refine z_cVi (As := [.int x1, .int x2]) (rest := [.int ((x1 * 10) + x2), .ref (zad V (k0 + 5))]) C0 hZ h1 (fun _ hf => kX1_joins l hk0 hf) mRX1_57 vX1_joins hk0 rfl rfl hl.1 (Nat.le_of_ble_eq_true rfl) ⟨Nat.le_of_ble_eq_true rfl, Nat.le_of_ble_eq_true rfl⟩ dX1_measure_42 ⟨Nat.le_of_ble_eq_true rfl, Nat.le_of_ble_eq_true rfl⟩ (fun r_22 σ_21 H locs h1 hZ => ?_)
            refine z_if_eq (tgt := 52) C0 h1 dX1_measure_45 (by decide) (fun h1 => ?_) (fun h1 => ?_)
            · refine lv_bipush (v := 99) hx hb dX1_measure_52 (by decide) ?_
              exact J54 x2 (k0 + 5) ((x1 * 10) + x2) 99 _ _ _ _ (zkt1_7 hk0) hZ (lv_sub hl [0, 1, 2] rfl) h1
            refine lv_iconst (v := 1) hx hb dX1_measure_48 (by decide) ?_
            refine lv_goto (tgt := 54) hx hb dX1_measure_49 (by decide) ?_
            exact J54 x2 (k0 + 5) ((x1 * 10) + x2) 1 _ _ _ _ (zkt1_7 hk0) hZ (lv_sub hl [0, 1, 2] rfl) h1
          refine lv_iconst (v := 0) hx hb dX1_measure_35 (by decide) ?_
          refine lv_goto (tgt := 54) hx hb dX1_measure_36 (by decide) ?_
          exact J54 x2 (k0 + 5) ((x1 * 10) + x2) 0 _ _ _ _ (zkt1_7 hk0) hZ (lv_sub hl [0, 1, 2] rfl) h1
      replace h1 : FX1_measure_L2 k0 x1 σ = some t1 := h1
      unfold FX1_measure_L2 at h1
      refine lv_iload_n hx hb dX1_measure_2 rfl (lv_at hl 1 rfl) ?_
      refine lv_aload_n hx hb dX1_measure_3 rfl (lv_at hl 0 rfl) ?_
      refine z_geti C0 hZ hk0 fRX1_9 rfl dX1_measure_4 ?_
      refine z_ic_ge (tgt := 69) C0 h1 dX1_measure_7 (by decide) (fun h1 => ?_) (fun h1 => ?_)
      · have h1 := zout h1 hz1
        exact J69  _ _ _ _  hZ (lv_sub hl [0] rfl) h1
      refine lv_iconst (v := 0) hx hb dX1_measure_10 (by decide) ?_
      refine z_istore_n C0 h1 hl (fun x2_23 => [(2, .int x2_23), (0, .ref (zad V k0)), (1, .int x1)]) dX1_measure_11 rfl (by decide) (fun _ => rfl) (fun x2_23 ls h1 hl => ?_)
      obtain ⟨n, h1⟩ := zlp_iff.mp h1
      exact J12 n x1 x2_23 _ _ _ _  hZ (lv_sub hl [1, 2, 0] rfl) h1
  refine lv_iconst (v := 0) hx hb dX1_measure_0 (by decide) ?_
  refine z_istore_n C0 h1 hl (fun x1_24 => [(1, .int x1_24), (0, .ref (zad V k0))]) dX1_measure_1 rfl (by decide) (fun _ => rfl) (fun x1_24 ls h1 hl => ?_)
  obtain ⟨n, h1⟩ := zlp_iff.mp h1
  exact J2 n x1_24 _ _ _ _  hZ (lv_sub hl [1, 0] rfl) h1
noncomputable def FX2_hasPerson_b17 (y0 : Int32) (σ : zS) : Option (Int32 × zS) := zgd (y0 == 0 || y0 == 1) (some (y0, σ))
noncomputable def FX2_hasPerson_b16  (σ : zS) : Option (Int32 × zS) := FX2_hasPerson_b17 0 σ
noncomputable def FX2_hasPerson (k0 : Nat) (x1 : Int32) (σ : zS) : Option (Int32 × zS) := if x1 < 0 then FX2_hasPerson_b16  σ else if (σ k0 0) ≤ x1 then FX2_hasPerson_b16  σ else FX2_hasPerson_b17 1 σ
set_option maxHeartbeats 4000000 in
set_option maxRecDepth 100000 in
theorem kX2_hasPerson (l : Launch) {V : zV} {σ : zS} {t0 : Int32 × zS} {k0 : Nat} {x1 : Int32} (hk0 : kd 0 k0 = 2) (h1 : FX2_hasPerson k0 x1 σ = some t0) : zMi l yX2_hasPerson cX2_hasPerson 2 (some .boolean) 0 0 0 V σ t0 [.ref (zad V k0), .int x1] := by
  refine zMi_of (by decide) (Nat.le_of_ble_eq_true rfl) ?_
  intro p e s m below meth c A C0 hr hlk hZ ls hl
  generalize ([.ref (zad V k0), .int x1] : List Value).toArray = args at C0 ⊢
  obtain ⟨Q, hQ⟩ : ∃ Q, Q = MQ below (zQi 0 V t0 A) args s 0 0 A := ⟨_, rfl⟩
  rw [← hQ]
  have hx := C0.1
  have hb := C0.2.1
  have hl : lv_has ls 2 [(0, .ref (zad V k0)), (1, .int x1)] := hl
  unfold FX2_hasPerson at h1
  have J17 : ∀ (y0 : Int32) (σ : zS) (H : Heap) (locs : List Loc) (ls : Array Slot), zZ 0 V A σ s H locs → lv_has ls 2 [] → FX2_hasPerson_b17 y0 σ = some t0 → W p l e (zrm 0 0) s m args below meth c H locs 0 0 Q (F0 m 17 ls [.int y0]) := by
    intro y0 σ H locs ls  hZ hl h1
    unfold FX2_hasPerson_b17 at h1
    rw [hQ]; exact z_zret C0 hr hlk hZ h1 dX2_hasPerson_17
  have J16 : ∀  (σ : zS) (H : Heap) (locs : List Loc) (ls : Array Slot), zZ 0 V A σ s H locs → lv_has ls 2 [] → FX2_hasPerson_b16  σ = some t0 → W p l e (zrm 0 0) s m args below meth c H locs 0 0 Q (F0 m 16 ls []) := by
    intro  σ H locs ls  hZ hl h1
    unfold FX2_hasPerson_b16 at h1
    refine lv_iconst (v := 0) hx hb dX2_hasPerson_16 (by decide) ?_
    exact J17 0 _ _ _ _  hZ (lv_sub hl [] rfl) h1
  refine lv_iload_n hx hb dX2_hasPerson_0 rfl (lv_at hl 1 rfl) ?_
  refine z_if_lt (tgt := 16) C0 h1 dX2_hasPerson_1 (by decide) (fun h1 => ?_) (fun h1 => ?_)
  · exact J16  _ _ _ _  hZ (lv_sub hl [] rfl) h1
  refine lv_iload_n hx hb dX2_hasPerson_4 rfl (lv_at hl 1 rfl) ?_
  refine lv_aload_n hx hb dX2_hasPerson_5 rfl (lv_at hl 0 rfl) ?_
  refine z_geti C0 hZ hk0 fRX2_9 rfl dX2_hasPerson_6 ?_
  refine z_ic_ge (tgt := 16) C0 h1 dX2_hasPerson_9 (by decide) (fun h1 => ?_) (fun h1 => ?_)
  · exact J16  _ _ _ _  hZ (lv_sub hl [] rfl) h1
  refine lv_iconst (v := 1) hx hb dX2_hasPerson_12 (by decide) ?_
  refine lv_goto (tgt := 17) hx hb dX2_hasPerson_13 (by decide) ?_
  exact J17 1 _ _ _ _  hZ (lv_sub hl [] rfl) h1
noncomputable def FX3_changeFor (k0 : Nat) (k1 : Nat) (σ : zS) : Option (Int32 × zS) := zgd (kd 0 (σ k0 1).toNatClampNeg == 5) (zlet (σ k0 1).toNatClampNeg (fun q_1 => zlet (zup σ k0 1 (nI k1)) (fun σ_2 => some (nI q_1, σ_2))))
set_option maxHeartbeats 4000000 in
set_option maxRecDepth 100000 in
theorem kX3_changeFor (l : Launch) {V : zV} {σ : zS} {t0 : Int32 × zS} {k0 : Nat} {k1 : Nat} (hk0 : kd 0 k0 = 3) (hk1 : kd 0 k1 = 5) (h1 : FX3_changeFor k0 k1 σ = some t0) : zMr l yX3_changeFor cX3_changeFor 3 (some (.object "ShopEyes$Shop")) 0 0 0 V σ t0 [.ref (zad V k0), .ref (zad V k1)] := by
  refine zMr_of (by decide) (Nat.le_of_ble_eq_true rfl) ?_
  intro p e s m below meth c A C0 hr hlk hZ ls hl
  generalize ([.ref (zad V k0), .ref (zad V k1)] : List Value).toArray = args at C0 ⊢
  obtain ⟨Q, hQ⟩ : ∃ Q, Q = MQ below (zQr 0 V t0 A) args s 0 0 A := ⟨_, rfl⟩
  rw [← hQ]
  have hx := C0.1
  have hb := C0.2.1
  have hl : lv_has ls 3 [(0, .ref (zad V k0)), (1, .ref (zad V k1))] := hl
  unfold FX3_changeFor at h1
  refine lv_aload_n hx hb dX3_changeFor_0 rfl (lv_at hl 0 rfl) ?_
  refine z_getm C0 hZ h1 hk0 fRX3_18 rfl dX3_changeFor_1 (fun q_1 hq_1 h1 => ?_)
  refine lv_astore_n (lv' := [(2, .ref (zad V q_1)), (0, .ref (zad V k0)), (1, .ref (zad V k1))]) hx hb dX3_changeFor_4 rfl hl (by decide) rfl (fun ls hl => ?_)
  refine lv_aload_n hx hb dX3_changeFor_5 rfl (lv_at hl 1 rfl) ?_
  refine lv_aload_n hx hb dX3_changeFor_6 rfl (lv_at hl 2 rfl) ?_
  refine z_putm C0 hZ h1 hk0 (zkd_lt hk1) fRX3_18 rfl tyX3_ok nmX3 rfl (fun _ => rfl) (fun _ => rfl) dX3_changeFor_7 (fun σ_2 H locs h1 hZ => ?_)
  refine lv_aload_n hx hb dX3_changeFor_10 rfl (lv_at hl 0 rfl) ?_
  rw [hQ]; exact z_aret C0 hr hlk hZ (zkd_lt hq_1) h1 dX3_changeFor_11
noncomputable def FX4_clear (k0 : Nat) (σ : zS) : Option (Int32 × zS) := zlet (zup σ k0 0 0) (fun σ_1 => zlet (zup σ_1 k0 1 0) (fun σ_2 => some (0, σ_2)))
set_option maxHeartbeats 4000000 in
set_option maxRecDepth 100000 in
theorem kX4_clear (l : Launch) {V : zV} {σ : zS} {t0 : Int32 × zS} {k0 : Nat} (hk0 : kd 0 k0 = 4) (h1 : FX4_clear k0 σ = some t0) : zMv l yX4_clear cX4_clear 1 0 0 0 V σ t0 [.ref (zad V k0)] := by
  refine zMv_of (by decide) (Nat.le_of_ble_eq_true rfl) ?_
  intro p e s m below meth c A C0 hr hlk hZ ls hl
  generalize ([.ref (zad V k0)] : List Value).toArray = args at C0 ⊢
  obtain ⟨Q, hQ⟩ : ∃ Q, Q = MQ below (zQv 0 V t0 A) args s 0 0 A := ⟨_, rfl⟩
  rw [← hQ]
  have hx := C0.1
  have hb := C0.2.1
  have hl : lv_has ls 1 [(0, .ref (zad V k0))] := hl
  unfold FX4_clear at h1
  refine lv_aload_n hx hb dX4_clear_0 rfl (lv_at hl 0 rfl) ?_
  refine lv_iconst (v := 0) hx hb dX4_clear_1 (by decide) ?_
  refine z_puti C0 hZ h1 hk0 fRX4_9 rfl tyX4_ok nmX4 rfl rfl rfl dX4_clear_2 (fun σ_1 H locs h1 hZ => ?_)
  refine lv_aload_n hx hb dX4_clear_5 rfl (lv_at hl 0 rfl) ?_
  refine lv_iconst (v := 0) hx hb dX4_clear_6 (by decide) ?_
  refine z_puti C0 hZ h1 hk0 fRX4_15 rfl tyX4_ok nmX4 rfl rfl rfl dX4_clear_7 (fun σ_2 H locs h1 hZ => ?_)
  rw [hQ]; exact z_vret C0 hr hlk hZ h1 dX4_clear_10
noncomputable def FX5_clear (k0 : Nat) (σ : zS) : Option (Int32 × zS) := zbd (FX1_clear (k0 + 1) σ) (fun _ σ_1 => zlet (zup σ_1 (k0 + 7) 0 0) (fun σ_3 => zbd (FX4_clear (k0 + 14) σ_3) (fun _ σ_4 => zlet (zup σ_4 k0 3 3) (fun σ_6 => zlet (zup σ_6 k0 4 400) (fun σ_7 => zlet (zup σ_7 k0 5 1) (fun σ_8 => some (0, σ_8)))))))
set_option maxHeartbeats 4000000 in
set_option maxRecDepth 100000 in
theorem kX5_clear (l : Launch) {V : zV} {σ : zS} {t0 : Int32 × zS} {k0 : Nat} (hk0 : kd 0 k0 = 5) (h1 : FX5_clear k0 σ = some t0) : zMv l yX5_clear cX5_clear 1 2 42 0 V σ t0 [.ref (zad V k0)] := by
  refine zMv_of (by decide) (Nat.le_of_ble_eq_true rfl) ?_
  intro p e s m below meth c A C0 hr hlk hZ ls hl
  generalize ([.ref (zad V k0)] : List Value).toArray = args at C0 ⊢
  obtain ⟨Q, hQ⟩ : ∃ Q, Q = MQ below (zQv 0 V t0 A) args s 0 0 A := ⟨_, rfl⟩
  rw [← hQ]
  have hx := C0.1
  have hb := C0.2.1
  have hl : lv_has ls 1 [(0, .ref (zad V k0))] := hl
  unfold FX5_clear at h1
  refine lv_aload_n hx hb dX5_clear_0 rfl (lv_at hl 0 rfl) ?_
  refine z_getr C0 hZ hk0 fRX5_12 rfl dX5_clear_1 ?_
  refine z_cVv (As := []) (rest := []) C0 hZ h1 (fun _ hf => kX1_clear l (zkt5_0 hk0) hf) mRX5_42 vX1_clear (zkt5_0 hk0) rfl rfl hl.1 (Nat.le_of_ble_eq_true rfl) ⟨Nat.le_of_ble_eq_true rfl, Nat.le_of_ble_eq_true rfl⟩ dX5_clear_4 ⟨Nat.le_of_ble_eq_true rfl, Nat.le_of_ble_eq_true rfl⟩ (fun _ σ_1 H locs h1 hZ => ?_)
  refine lv_aload_n hx hb dX5_clear_7 rfl (lv_at hl 0 rfl) ?_
  refine z_getr C0 hZ hk0 fRX5_21 rfl dX5_clear_8 ?_
  refine lv_iconst (v := 0) hx hb dX5_clear_11 (by decide) ?_
  refine z_puti C0 hZ h1 (zkt5_1 hk0) fRX5_45 rfl tyX2_ok nmX2 rfl rfl rfl dX5_clear_12 (fun σ_3 H locs h1 hZ => ?_)
  refine lv_aload_n hx hb dX5_clear_15 rfl (lv_at hl 0 rfl) ?_
  refine z_getr C0 hZ hk0 fRX5_28 rfl dX5_clear_16 ?_
  refine z_cVv (As := []) (rest := []) C0 hZ h1 (fun _ hf => kX4_clear l (zkt5_2 hk0) hf) mRX5_48 vX4_clear (zkt5_2 hk0) rfl rfl hl.1 (Nat.le_of_ble_eq_true rfl) ⟨Nat.le_of_ble_eq_true rfl, Nat.le_of_ble_eq_true rfl⟩ dX5_clear_19 ⟨Nat.le_of_ble_eq_true rfl, Nat.le_of_ble_eq_true rfl⟩ (fun _ σ_4 H locs h1 hZ => ?_)
  refine lv_aload_n hx hb dX5_clear_22 rfl (lv_at hl 0 rfl) ?_
  refine lv_iconst (v := 3) hx hb dX5_clear_23 (by decide) ?_
  refine z_puti C0 hZ h1 hk0 fRX5_32 rfl tyX5_ok nmX5 rfl rfl rfl dX5_clear_24 (fun σ_6 H locs h1 hZ => ?_)
  refine lv_aload_n hx hb dX5_clear_27 rfl (lv_at hl 0 rfl) ?_
  refine lv_sipush (v := 400) hx hb dX5_clear_28 (by decide) ?_
  refine z_puti C0 hZ h1 hk0 fRX5_36 rfl tyX5_ok nmX5 rfl rfl rfl dX5_clear_31 (fun σ_7 H locs h1 hZ => ?_)
  refine lv_aload_n hx hb dX5_clear_34 rfl (lv_at hl 0 rfl) ?_
  refine lv_iconst (v := 1) hx hb dX5_clear_35 (by decide) ?_
  refine z_puti C0 hZ h1 hk0 fRX5_39 rfl tyX5_ok nmX5 rfl rfl rfl dX5_clear_36 (fun σ_8 H locs h1 hZ => ?_)
  rw [hQ]; exact z_vret C0 hr hlk hZ h1 dX5_clear_39
noncomputable def FX3_isBlank_b17 (y0 : Int32) (σ : zS) : Option (Int32 × zS) := zgd (y0 == 0 || y0 == 1) (some (y0, σ))
noncomputable def FX3_isBlank_b12  (σ : zS) : Option (Int32 × zS) := FX3_isBlank_b17 1 σ
noncomputable def FX3_isBlank (x0 : Int32) (σ : zS) : Option (Int32 × zS) := if x0 = 32 then FX3_isBlank_b12  σ else if x0 = 10 then FX3_isBlank_b12  σ else FX3_isBlank_b17 0 σ
set_option maxHeartbeats 4000000 in
set_option maxRecDepth 100000 in
theorem kX3_isBlank (l : Launch) {V : zV} {σ : zS} {t0 : Int32 × zS} {x0 : Int32}  (h1 : FX3_isBlank x0 σ = some t0) : zMi l yX3_isBlank cX3_isBlank 1 (some .boolean) 0 0 0 V σ t0 [.int x0] := by
  refine zMi_of (by decide) (Nat.le_of_ble_eq_true rfl) ?_
  intro p e s m below meth c A C0 hr hlk hZ ls hl
  generalize ([.int x0] : List Value).toArray = args at C0 ⊢
  obtain ⟨Q, hQ⟩ : ∃ Q, Q = MQ below (zQi 0 V t0 A) args s 0 0 A := ⟨_, rfl⟩
  rw [← hQ]
  have hx := C0.1
  have hb := C0.2.1
  have hl : lv_has ls 1 [(0, .int x0)] := hl
  unfold FX3_isBlank at h1
  have J17 : ∀ (y0 : Int32) (σ : zS) (H : Heap) (locs : List Loc) (ls : Array Slot), zZ 0 V A σ s H locs → lv_has ls 1 [] → FX3_isBlank_b17 y0 σ = some t0 → W p l e (zrm 0 0) s m args below meth c H locs 0 0 Q (F0 m 17 ls [.int y0]) := by
    intro y0 σ H locs ls  hZ hl h1
    unfold FX3_isBlank_b17 at h1
    rw [hQ]; exact z_zret C0 hr hlk hZ h1 dX3_isBlank_17
  have J12 : ∀  (σ : zS) (H : Heap) (locs : List Loc) (ls : Array Slot), zZ 0 V A σ s H locs → lv_has ls 1 [] → FX3_isBlank_b12  σ = some t0 → W p l e (zrm 0 0) s m args below meth c H locs 0 0 Q (F0 m 12 ls []) := by
    intro  σ H locs ls  hZ hl h1
    unfold FX3_isBlank_b12 at h1
    refine lv_iconst (v := 1) hx hb dX3_isBlank_12 (by decide) ?_
    refine lv_goto (tgt := 17) hx hb dX3_isBlank_13 (by decide) ?_
    exact J17 1 _ _ _ _  hZ (lv_sub hl [] rfl) h1
  refine lv_iload_n hx hb dX3_isBlank_0 rfl (lv_at hl 0 rfl) ?_
  refine lv_bipush (v := 32) hx hb dX3_isBlank_1 (by decide) ?_
  refine z_ic_eq (tgt := 12) C0 h1 dX3_isBlank_3 (by decide) (fun h1 => ?_) (fun h1 => ?_)
  · exact J12  _ _ _ _  hZ (lv_sub hl [] rfl) h1
  refine lv_iload_n hx hb dX3_isBlank_6 rfl (lv_at hl 0 rfl) ?_
  refine lv_bipush (v := 10) hx hb dX3_isBlank_7 (by decide) ?_
  refine z_ic_ne (tgt := 16) C0 h1 dX3_isBlank_9 (by decide) (fun h1 => ?_) (fun h1 => ?_)
  · refine lv_iconst (v := 0) hx hb dX3_isBlank_16 (by decide) ?_
    exact J17 0 _ _ _ _  hZ (lv_sub hl [] rfl) h1
  exact J12  _ _ _ _  hZ (lv_sub hl [] rfl) h1
noncomputable def FX3_isLetter_b17 (y0 : Int32) (σ : zS) : Option (Int32 × zS) := zgd (y0 == 0 || y0 == 1) (some (y0, σ))
noncomputable def FX3_isLetter_b16  (σ : zS) : Option (Int32 × zS) := FX3_isLetter_b17 0 σ
noncomputable def FX3_isLetter (x0 : Int32) (σ : zS) : Option (Int32 × zS) := if x0 < 97 then FX3_isLetter_b16  σ else if 122 < x0 then FX3_isLetter_b16  σ else FX3_isLetter_b17 1 σ
set_option maxHeartbeats 4000000 in
set_option maxRecDepth 100000 in
theorem kX3_isLetter (l : Launch) {V : zV} {σ : zS} {t0 : Int32 × zS} {x0 : Int32}  (h1 : FX3_isLetter x0 σ = some t0) : zMi l yX3_isLetter cX3_isLetter 1 (some .boolean) 0 0 0 V σ t0 [.int x0] := by
  refine zMi_of (by decide) (Nat.le_of_ble_eq_true rfl) ?_
  intro p e s m below meth c A C0 hr hlk hZ ls hl
  generalize ([.int x0] : List Value).toArray = args at C0 ⊢
  obtain ⟨Q, hQ⟩ : ∃ Q, Q = MQ below (zQi 0 V t0 A) args s 0 0 A := ⟨_, rfl⟩
  rw [← hQ]
  have hx := C0.1
  have hb := C0.2.1
  have hl : lv_has ls 1 [(0, .int x0)] := hl
  unfold FX3_isLetter at h1
  have J17 : ∀ (y0 : Int32) (σ : zS) (H : Heap) (locs : List Loc) (ls : Array Slot), zZ 0 V A σ s H locs → lv_has ls 1 [] → FX3_isLetter_b17 y0 σ = some t0 → W p l e (zrm 0 0) s m args below meth c H locs 0 0 Q (F0 m 17 ls [.int y0]) := by
    intro y0 σ H locs ls  hZ hl h1
    unfold FX3_isLetter_b17 at h1
    rw [hQ]; exact z_zret C0 hr hlk hZ h1 dX3_isLetter_17
  have J16 : ∀  (σ : zS) (H : Heap) (locs : List Loc) (ls : Array Slot), zZ 0 V A σ s H locs → lv_has ls 1 [] → FX3_isLetter_b16  σ = some t0 → W p l e (zrm 0 0) s m args below meth c H locs 0 0 Q (F0 m 16 ls []) := by
    intro  σ H locs ls  hZ hl h1
    unfold FX3_isLetter_b16 at h1
    refine lv_iconst (v := 0) hx hb dX3_isLetter_16 (by decide) ?_
    exact J17 0 _ _ _ _  hZ (lv_sub hl [] rfl) h1
  refine lv_iload_n hx hb dX3_isLetter_0 rfl (lv_at hl 0 rfl) ?_
  refine lv_bipush (v := 97) hx hb dX3_isLetter_1 (by decide) ?_
  refine z_ic_lt (tgt := 16) C0 h1 dX3_isLetter_3 (by decide) (fun h1 => ?_) (fun h1 => ?_)
  · exact J16  _ _ _ _  hZ (lv_sub hl [] rfl) h1
  refine lv_iload_n hx hb dX3_isLetter_6 rfl (lv_at hl 0 rfl) ?_
  refine lv_bipush (v := 122) hx hb dX3_isLetter_7 (by decide) ?_
  refine z_ic_gt (tgt := 16) C0 h1 dX3_isLetter_9 (by decide) (fun h1 => ?_) (fun h1 => ?_)
  · exact J16  _ _ _ _  hZ (lv_sub hl [] rfl) h1
  refine lv_iconst (v := 1) hx hb dX3_isLetter_12 (by decide) ?_
  refine lv_goto (tgt := 17) hx hb dX3_isLetter_13 (by decide) ?_
  exact J17 1 _ _ _ _  hZ (lv_sub hl [] rfl) h1
noncomputable def FX3_isDigit_b17 (y0 : Int32) (σ : zS) : Option (Int32 × zS) := zgd (y0 == 0 || y0 == 1) (some (y0, σ))
noncomputable def FX3_isDigit_b16  (σ : zS) : Option (Int32 × zS) := FX3_isDigit_b17 0 σ
noncomputable def FX3_isDigit (x0 : Int32) (σ : zS) : Option (Int32 × zS) := if x0 < 48 then FX3_isDigit_b16  σ else if 57 < x0 then FX3_isDigit_b16  σ else FX3_isDigit_b17 1 σ
set_option maxHeartbeats 4000000 in
set_option maxRecDepth 100000 in
theorem kX3_isDigit (l : Launch) {V : zV} {σ : zS} {t0 : Int32 × zS} {x0 : Int32}  (h1 : FX3_isDigit x0 σ = some t0) : zMi l yX3_isDigit cX3_isDigit 1 (some .boolean) 0 0 0 V σ t0 [.int x0] := by
  refine zMi_of (by decide) (Nat.le_of_ble_eq_true rfl) ?_
  intro p e s m below meth c A C0 hr hlk hZ ls hl
  generalize ([.int x0] : List Value).toArray = args at C0 ⊢
  obtain ⟨Q, hQ⟩ : ∃ Q, Q = MQ below (zQi 0 V t0 A) args s 0 0 A := ⟨_, rfl⟩
  rw [← hQ]
  have hx := C0.1
  have hb := C0.2.1
  have hl : lv_has ls 1 [(0, .int x0)] := hl
  unfold FX3_isDigit at h1
  have J17 : ∀ (y0 : Int32) (σ : zS) (H : Heap) (locs : List Loc) (ls : Array Slot), zZ 0 V A σ s H locs → lv_has ls 1 [] → FX3_isDigit_b17 y0 σ = some t0 → W p l e (zrm 0 0) s m args below meth c H locs 0 0 Q (F0 m 17 ls [.int y0]) := by
    intro y0 σ H locs ls  hZ hl h1
    unfold FX3_isDigit_b17 at h1
    rw [hQ]; exact z_zret C0 hr hlk hZ h1 dX3_isDigit_17
  have J16 : ∀  (σ : zS) (H : Heap) (locs : List Loc) (ls : Array Slot), zZ 0 V A σ s H locs → lv_has ls 1 [] → FX3_isDigit_b16  σ = some t0 → W p l e (zrm 0 0) s m args below meth c H locs 0 0 Q (F0 m 16 ls []) := by
    intro  σ H locs ls  hZ hl h1
    unfold FX3_isDigit_b16 at h1
    refine lv_iconst (v := 0) hx hb dX3_isDigit_16 (by decide) ?_
    exact J17 0 _ _ _ _  hZ (lv_sub hl [] rfl) h1
  refine lv_iload_n hx hb dX3_isDigit_0 rfl (lv_at hl 0 rfl) ?_
  refine lv_bipush (v := 48) hx hb dX3_isDigit_1 (by decide) ?_
  refine z_ic_lt (tgt := 16) C0 h1 dX3_isDigit_3 (by decide) (fun h1 => ?_) (fun h1 => ?_)
  · exact J16  _ _ _ _  hZ (lv_sub hl [] rfl) h1
  refine lv_iload_n hx hb dX3_isDigit_6 rfl (lv_at hl 0 rfl) ?_
  refine lv_bipush (v := 57) hx hb dX3_isDigit_7 (by decide) ?_
  refine z_ic_gt (tgt := 16) C0 h1 dX3_isDigit_9 (by decide) (fun h1 => ?_) (fun h1 => ?_)
  · exact J16  _ _ _ _  hZ (lv_sub hl [] rfl) h1
  refine lv_iconst (v := 1) hx hb dX3_isDigit_12 (by decide) ?_
  refine lv_goto (tgt := 17) hx hb dX3_isDigit_13 (by decide) ?_
  exact J17 1 _ _ _ _  hZ (lv_sub hl [] rfl) h1
