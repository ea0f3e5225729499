noncomputable def FX7_mostGain_b40 (x2 : Int32) (σ : zS) : Option (Int32 × zS) := some (x2, σ)
noncomputable def FX7_mostGain_L9 (k0 : Nat) (x1 : Int32) (x2 : Int32) (x3 : Int32) (σ : zS) : Option ((Int32 × Int32 × zS) ⊕ (Int32 × zS)) := zgd (kd 0 (σ k0 2).toNatClampNeg == 5) (zlet (σ k0 2).toNatClampNeg (fun q_1 => if (σ (q_1 + 1) 0) ≤ x3 then zinr (FX7_mostGain_b40 x2 σ) else zbd (FX7_gain k0 x3 x1 σ) (fun r_3 σ_2 => zlet (if x2 < r_3 then r_3 else x2) (fun x2_5 => zlet (x3 + 1) (fun x3_6 => some (.inl (x2_5, x3_6, σ_2)))))))
noncomputable def FX7_mostGain (k0 : Nat) (x1 : Int32) (σ : zS) : Option (Int32 × zS) := zbd (FX7_gain k0 0 x1 σ) (fun r_8 σ_7 => zlet r_8 (fun x2_9 => zlet 1 (fun x3_10 => zlp (fun q => FX7_mostGain_L9 k0 x1 q.1 q.2.1 q.2.2) (x2_9, x3_10, σ_7))))
set_option maxHeartbeats 4000000 in
set_option maxRecDepth 100000 in
theorem kX7_mostGain (l : Launch) {V : zV} {σ : zS} {t0 : Int32 × zS} {k0 : Nat} {x1 : Int32} (hk0 : kd 0 k0 = 7) (h1 : FX7_mostGain k0 x1 σ = some t0) : zMi l yX7_mostGain cX7_mostGain 4 (some .int) 2 44 0 V σ t0 [.ref (zad V k0), .int x1] := by
  refine zMi_of (by decide) (Nat.le_of_ble_eq_true rfl) ?_
  intro p e s m below meth c A C0 hr hlk hZ ls hl
  generalize ([.ref (zad V k0), .int x1] : List Value).toArray = args at C0 ⊢
  obtain ⟨Q, hQ⟩ : ∃ Q, Q = MQ below (zQi 0 V t0 A) args s 0 0 A := ⟨_, rfl⟩
  rw [← hQ]
  have hx := C0.1
  have hb := C0.2.1
  have hl : lv_has ls 4 [(0, .ref (zad V k0)), (1, .int x1)] := hl
  unfold FX7_mostGain at h1
  have J40 : ∀ (x2 : Int32) (σ : zS) (H : Heap) (locs : List Loc) (ls : Array Slot), zZ 0 V A σ s H locs → lv_has ls 4 [(2, .int x2)] → FX7_mostGain_b40 x2 σ = some t0 → W p l e (zrm 2 44) s m args below meth c H locs 0 0 Q (F0 m 40 ls []) := by
    intro x2 σ H locs ls  hZ hl h1
    unfold FX7_mostGain_b40 at h1
    refine lv_iload_n hx hb dX7_mostGain_40 rfl (lv_at hl 0 rfl) ?_
    rw [hQ]; exact z_iret C0 hr hlk hZ h1 dX7_mostGain_41
  have J9 : ∀ (n : Nat) (x2 : Int32) (x3 : Int32) (σ : zS) (H : Heap) (locs : List Loc) (ls : Array Slot), zZ 0 V A σ s H locs → lv_has ls 4 [(0, .ref (zad V k0)), (1, .int x1), (2, .int x2), (3, .int x3)] → zit (fun q => FX7_mostGain_L9 k0 x1 q.1 q.2.1 q.2.2) n (x2, x3, σ) = some t0 → W p l e (zrm 2 44) s m args below meth c H locs 0 0 Q (F0 m 9 ls []) := by
    intro n
    induction n with
    | zero => intro x2 x3 σ H locs ls  _ _ h1; cases h1
    | succ n ih9 =>
      intro x2 x3 σ H locs ls  hZ hl h1
      obtain ⟨t1, h1, hz1⟩ := zit_1 h1
      replace h1 : FX7_mostGain_L9 k0 x1 x2 x3 σ = some t1 := h1
      unfold FX7_mostGain_L9 at h1
      refine lv_iload_n hx hb dX7_mostGain_9 rfl (lv_at hl 3 rfl) ?_
      refine lv_aload_n hx hb dX7_mostGain_10 rfl (lv_at hl 0 rfl) ?_
      refine z_getm C0 hZ h1 hk0 fRX7_19 rfl dX7_mostGain_11 (fun q_1 hq_1 h1 => ?_)
      refine z_getr C0 hZ hq_1 fRX7_103 rfl dX7_mostGain_14 ?_
      refine z_geti C0 hZ (zkt5_0 hq_1) fRX7_107 rfl dX7_mostGain_17 ?_
      refine z_ic_ge (tgt := 40) C0 h1 dX7_mostGain_20 (by decide) (fun h1 => ?_) (fun h1 => ?_)
      · have h1 := zout h1 hz1
        exact J40 x2 _ _ _ _  hZ (lv_sub hl [2] rfl) h1
      refine lv_iload_n hx hb dX7_mostGain_23 rfl (lv_at hl 2 rfl) ?_
      refine lv_aload_n hx hb dX7_mostGain_24 rfl (lv_at hl 0 rfl) ?_
      refine lv_iload_n hx hb dX7_mostGain_25 rfl (lv_at hl 3 rfl) ?_
      refine lv_iload_n hx hb dX7_mostGain_26 rfl (lv_at hl 1 rfl) ?_
      refine z_cVi (As := [.int x3, .int x1]) (rest := [.int x2]) C0 hZ h1 (fun _ hf => kX7_gain l hk0 hf) mRX7_343 vX7_gain hk0 rfl rfl hl.1 (Nat.le_of_ble_eq_true rfl) ⟨Nat.le_of_ble_eq_true rfl, Nat.le_of_ble_eq_true rfl⟩ dX7_mostGain_27 ⟨Nat.le_of_ble_eq_true rfl, Nat.le_of_ble_eq_true rfl⟩ (fun r_3 σ_2 H locs h1 hZ => ?_)
      refine z_mmax C0 hl.1 mmRX7_349 ⟨Nat.le_of_ble_eq_true rfl, Nat.le_of_ble_eq_true rfl⟩ ⟨Nat.le_of_ble_eq_true rfl, Nat.le_of_ble_eq_true rfl⟩ dX7_mostGain_30 ?_
      refine z_istore_n C0 h1 hl (fun x2_5 => [(2, .int x2_5), (0, .ref (zad V k0)), (1, .int x1), (3, .int x3)]) dX7_mostGain_33 rfl (by decide) (fun _ => rfl) (fun x2_5 ls h1 hl => ?_)
      refine z_iinc (v := 1) C0 h1 hl (fun x3_6 => [(3, .int x3_6), (2, .int x2_5), (0, .ref (zad V k0)), (1, .int x1)]) dX7_mostGain_34 (k := 3) rfl (by decide) (by decide) (fun _ => rfl) (fun x3_6 ls h1 hl => ?_)
      refine lv_goto (tgt := 9) hx hb dX7_mostGain_37 (by decide) ?_
      exact ih9 x2_5 x3_6 _ _ _ _  hZ (lv_sub hl [2, 3, 1, 0] rfl) (zback h1 hz1)
  refine lv_aload_n hx hb dX7_mostGain_0 rfl (lv_at hl 0 rfl) ?_
  refine lv_iconst (v := 0) hx hb dX7_mostGain_1 (by decide) ?_
  refine lv_iload_n hx hb dX7_mostGain_2 rfl (lv_at hl 1 rfl) ?_
  refine z_cVi (As := [.int 0, .int x1]) (rest := []) C0 hZ h1 (fun _ hf => kX7_gain l hk0 hf) mRX7_343 vX7_gain hk0 rfl rfl hl.1 (Nat.le_of_ble_eq_true rfl) ⟨Nat.le_of_ble_eq_true rfl, Nat.le_of_ble_eq_true rfl⟩ dX7_mostGain_3 ⟨Nat.le_of_ble_eq_true rfl, Nat.le_of_ble_eq_true rfl⟩ (fun r_8 σ_7 H locs h1 hZ => ?_)
  refine z_istore_n C0 h1 hl (fun x2_9 => [(2, .int x2_9), (0, .ref (zad V k0)), (1, .int x1)]) dX7_mostGain_6 rfl (by decide) (fun _ => rfl) (fun x2_9 ls h1 hl => ?_)
  refine lv_iconst (v := 1) hx hb dX7_mostGain_7 (by decide) ?_
  refine z_istore_n C0 h1 hl (fun x3_10 => [(3, .int x3_10), (2, .int x2_9), (0, .ref (zad V k0)), (1, .int x1)]) dX7_mostGain_8 rfl (by decide) (fun _ => rfl) (fun x3_10 ls h1 hl => ?_)
  obtain ⟨n, h1⟩ := zlp_iff.mp h1
  exact J9 n x2_9 x3_10 _ _ _ _  hZ (lv_sub hl [2, 3, 1, 0] rfl) h1
noncomputable def FX7_safest_b77 (y0 : Int32) (σ : zS) : Option (Int32 × zS) := some (y0, σ)
noncomputable def FX7_safest_b67 (x1 : Int32) (x2 : Int32) (x3 : Int32) (σ : zS) : Option (Int32 × zS) := if x1 = 2 then FX7_safest_b77 x2 σ else FX7_safest_b77 x3 σ
noncomputable def FX7_safest_b61 (k0 : Nat) (x1 : Int32) (x2 : Int32) (x3 : Int32) (x4 : Int32) (σ : zS) : Option ((Int32 × Int32 × Int32 × zS) ⊕ (Int32 × zS)) := zlet (x4 + 1) (fun x4_1 => some (.inl (x2, x3, x4_1, σ)))
noncomputable def FX7_safest_L26 (k0 : Nat) (x1 : Int32) (x2 : Int32) (x3 : Int32) (x4 : Int32) (σ : zS) : Option ((Int32 × Int32 × Int32 × zS) ⊕ (Int32 × zS)) := zgd (kd 0 (σ k0 2).toNatClampNeg == 5) (zlet (σ k0 2).toNatClampNeg (fun q_2 => if (σ (q_2 + 1) 0) ≤ x4 then zinr (FX7_safest_b67 x1 x2 x3 σ) else zbd (FX7_mostGain k0 x4 σ) (fun r_4 σ_3 => zlet r_4 (fun x5_5 => if x3 ≤ x5_5 then FX7_safest_b61 k0 x1 x2 x3 x4 σ_3 else zlet x4 (fun x2_6 => zlet x5_5 (fun x3_7 => FX7_safest_b61 k0 x1 x2_6 x3_7 x4 σ_3))))))
noncomputable def FX7_safest (k0 : Nat) (x1 : Int32) (σ : zS) : Option (Int32 × zS) := zgd (kd 0 (σ k0 2).toNatClampNeg == 5) (zlet (σ k0 2).toNatClampNeg (fun q_8 => if (σ (q_8 + 1) 0) = 0 then some ((-1), σ) else zlet 0 (fun x2_9 => zbd (FX7_mostGain k0 0 σ) (fun r_11 σ_10 => zlet r_11 (fun x3_12 => zlet 1 (fun x4_13 => zlp (fun q => FX7_safest_L26 k0 x1 q.1 q.2.1 q.2.2.1 q.2.2.2) (x2_9, x3_12, x4_13, σ_10)))))))
set_option maxHeartbeats 4000000 in
set_option maxRecDepth 100000 in
theorem kX7_safest (l : Launch) {V : zV} {σ : zS} {t0 : Int32 × zS} {k0 : Nat} {x1 : Int32} (hk0 : kd 0 k0 = 7) (h1 : FX7_safest k0 x1 σ = some t0) : zMi l yX7_safest cX7_safest 6 (some .int) 3 67 0 V σ t0 [.ref (zad V k0), .int x1] := by
  refine zMi_of (by decide) (Nat.le_of_ble_eq_true rfl) ?_
  intro p e s m below meth c A C0 hr hlk hZ ls hl
  generalize ([.ref (zad V k0), .int x1] : List Value).toArray = args at C0 ⊢
  obtain ⟨Q, hQ⟩ : ∃ Q, Q = MQ below (zQi 0 V t0 A) args s 0 0 A := ⟨_, rfl⟩
  rw [← hQ]
  have hx := C0.1
  have hb := C0.2.1
  have hl : lv_has ls 6 [(0, .ref (zad V k0)), (1, .int x1)] := hl
  unfold FX7_safest at h1
  have J77 : ∀ (y0 : Int32) (σ : zS) (H : Heap) (locs : List Loc) (ls : Array Slot), zZ 0 V A σ s H locs → lv_has ls 6 [] → FX7_safest_b77 y0 σ = some t0 → W p l e (zrm 3 67) s m args below meth c H locs 0 0 Q (F0 m 77 ls [.int y0]) := by
    intro y0 σ H locs ls  hZ hl h1
    unfold FX7_safest_b77 at h1
    rw [hQ]; exact z_iret C0 hr hlk hZ h1 dX7_safest_77
  have J67 : ∀ (x2 : Int32) (x3 : Int32) (σ : zS) (H : Heap) (locs : List Loc) (ls : Array Slot), zZ 0 V A σ s H locs → lv_has ls 6 [(1, .int x1), (2, .int x2), (3, .int x3)] → FX7_safest_b67 x1 x2 x3 σ = some t0 → W p l e (zrm 3 67) s m args below meth c H locs 0 0 Q (F0 m 67 ls []) := by
    intro x2 x3 σ H locs ls  hZ hl h1
    unfold FX7_safest_b67 at h1
    refine lv_iload_n hx hb dX7_safest_67 rfl (lv_at hl 0 rfl) ?_
    refine lv_iconst (v := 2) hx hb dX7_safest_68 (by decide) ?_
    refine z_ic_ne (tgt := 76) C0 h1 dX7_safest_69 (by decide) (fun h1 => ?_) (fun h1 => ?_)
    · refine lv_iload_n hx hb dX7_safest_76 rfl (lv_at hl 2 rfl) ?_
      exact J77 x3 _ _ _ _  hZ (lv_sub hl [] rfl) h1
    refine lv_iload_n hx hb dX7_safest_72 rfl (lv_at hl 1 rfl) ?_
    refine lv_goto (tgt := 77) hx hb dX7_safest_73 (by decide) ?_
    exact J77 x2 _ _ _ _  hZ (lv_sub hl [] rfl) h1
  have J26 : ∀ (n : Nat) (x2 : Int32) (x3 : Int32) (x4 : Int32) (σ : zS) (H : Heap) (locs : List Loc) (ls : Array Slot), zZ 0 V A σ s H locs → lv_has ls 6 [(0, .ref (zad V k0)), (1, .int x1), (2, .int x2), (3, .int x3), (4, .int x4)] → zit (fun q => FX7_safest_L26 k0 x1 q.1 q.2.1 q.2.2.1 q.2.2.2) n (x2, x3, x4, σ) = some t0 → W p l e (zrm 3 67) s m args below meth c H locs 0 0 Q (F0 m 26 ls []) := by
    intro n
    induction n with
    | zero => intro x2 x3 x4 σ H locs ls  _ _ h1; cases h1
    | succ n ih26 =>
      intro x2 x3 x4 σ H locs ls  hZ hl h1
      obtain ⟨t1, h1, hz1⟩ := zit_1 h1
      have J61 : ∀ (x2 : Int32) (x3 : Int32) (x4 : Int32) (σ : zS) (H : Heap) (locs : List Loc) (ls : Array Slot), zZ 0 V A σ s H locs → lv_has ls 6 [(0, .ref (zad V k0)), (1, .int x1), (2, .int x2), (3, .int x3), (4, .int x4)] → FX7_safest_b61 k0 x1 x2 x3 x4 σ = some t1 → W p l e (zrm 3 67) s m args below meth c H locs 0 0 Q (F0 m 61 ls []) := by
        intro x2 x3 x4 σ H locs ls  hZ hl h1
        unfold FX7_safest_b61 at h1
        refine z_iinc (v := 1) C0 h1 hl (fun x4_1 => [(4, .int x4_1), (0, .ref (zad V k0)), (1, .int x1), (2, .int x2), (3, .int x3)]) dX7_safest_61 (k := 4) rfl (by decide) (by decide) (fun _ => rfl) (fun x4_1 ls h1 hl => ?_)
        refine lv_goto (tgt := 26) hx hb dX7_safest_64 (by decide) ?_
        exact ih26 x2 x3 x4_1 _ _ _ _  hZ (lv_sub hl [1, 2, 3, 4, 0] rfl) (zback h1 hz1)
      replace h1 : FX7_safest_L26 k0 x1 x2 x3 x4 σ = some t1 := h1
      unfold FX7_safest_L26 at h1
      refine lv_iload hx hb dX7_safest_26 (lv_at hl 4 rfl) ?_
      refine lv_aload_n hx hb dX7_safest_28 rfl (lv_at hl 0 rfl) ?_
      refine z_getm C0 hZ h1 hk0 fRX7_19 rfl dX7_safest_29 (fun q_2 hq_2 h1 => ?_)
      refine z_getr C0 hZ hq_2 fRX7_103 rfl dX7_safest_32 ?_
      refine z_geti C0 hZ (zkt5_0 hq_2) fRX7_107 rfl dX7_safest_35 ?_
      refine z_ic_ge (tgt := 67) C0 h1 dX7_safest_38 (by decide) (fun h1 => ?_) (fun h1 => ?_)
      · have h1 := zout h1 hz1
        exact J67 x2 x3 _ _ _ _  hZ (lv_sub hl [1, 2, 3] rfl) h1
      refine lv_aload_n hx hb dX7_safest_41 rfl (lv_at hl 0 rfl) ?_
      refine lv_iload hx hb dX7_safest_42 (lv_at hl 4 rfl) ?_
      refine z_cVi (As := [.int x4]) (rest := []) C0 hZ h1 (fun _ hf => kX7_mostGain l hk0 hf) mRX7_346 vX7_mostGain hk0 rfl rfl hl.1 (Nat.le_of_ble_eq_true rfl) ⟨Nat.le_of_ble_eq_true rfl, Nat.le_of_ble_eq_true rfl⟩ dX7_safest_44 ⟨Nat.le_of_ble_eq_true rfl, Nat.le_of_ble_eq_true rfl⟩ (fun r_4 σ_3 H locs h1 hZ => ?_)
      refine z_istore C0 h1 hl (fun x5_5 => [(5, .int x5_5), (0, .ref (zad V k0)), (1, .int x1), (2, .int x2), (3, .int x3), (4, .int x4)]) dX7_safest_47 (by decide) (fun _ => rfl) (fun x5_5 ls h1 hl => ?_)
      refine lv_iload hx hb dX7_safest_49 (lv_at hl 0 rfl) ?_
      refine lv_iload_n hx hb dX7_safest_51 rfl (lv_at hl 4 rfl) ?_
      refine z_ic_ge (tgt := 61) C0 h1 dX7_safest_52 (by decide) (fun h1 => ?_) (fun h1 => ?_)
      · exact J61 x2 x3 x4 _ _ _ _  hZ (lv_sub hl [1, 2, 3, 4, 5] rfl) h1
      refine lv_iload hx hb dX7_safest_55 (lv_at hl 5 rfl) ?_
      refine z_istore_n C0 h1 hl (fun x2_6 => [(2, .int x2_6), (5, .int x5_5), (0, .ref (zad V k0)), (1, .int x1), (3, .int x3), (4, .int x4)]) dX7_safest_57 rfl (by decide) (fun _ => rfl) (fun x2_6 ls h1 hl => ?_)
      refine lv_iload hx hb dX7_safest_58 (lv_at hl 1 rfl) ?_
      refine z_istore_n C0 h1 hl (fun x3_7 => [(3, .int x3_7), (2, .int x2_6), (5, .int x5_5), (0, .ref (zad V k0)), (1, .int x1), (4, .int x4)]) dX7_safest_60 rfl (by decide) (fun _ => rfl) (fun x3_7 ls h1 hl => ?_)
      exact J61 x2_6 x3_7 x4 _ _ _ _  hZ (lv_sub hl [3, 4, 1, 0, 5] rfl) h1
  refine lv_aload_n hx hb dX7_safest_0 rfl (lv_at hl 0 rfl) ?_
  refine z_getm C0 hZ h1 hk0 fRX7_19 rfl dX7_safest_1 (fun q_8 hq_8 h1 => ?_)
  refine z_getr C0 hZ hq_8 fRX7_103 rfl dX7_safest_4 ?_
  refine z_geti C0 hZ (zkt5_0 hq_8) fRX7_107 rfl dX7_safest_7 ?_
  refine z_if_ne (tgt := 15) C0 h1 dX7_safest_10 (by decide) (fun h1 => ?_) (fun h1 => ?_)
  · refine lv_iconst (v := 0) hx hb dX7_safest_15 (by decide) ?_
    refine z_istore_n C0 h1 hl (fun x2_9 => [(2, .int x2_9), (0, .ref (zad V k0)), (1, .int x1)]) dX7_safest_16 rfl (by decide) (fun _ => rfl) (fun x2_9 ls h1 hl => ?_)
    refine lv_aload_n hx hb dX7_safest_17 rfl (lv_at hl 1 rfl) ?_
    refine lv_iconst (v := 0) hx hb dX7_safest_18 (by decide) ?_
    refine z_cVi (As := [.int 0]) (rest := []) C0 hZ h1 (fun _ hf => kX7_mostGain l hk0 hf) mRX7_346 vX7_mostGain hk0 rfl rfl hl.1 (Nat.le_of_ble_eq_true rfl) ⟨Nat.le_of_ble_eq_true rfl, Nat.le_of_ble_eq_true rfl⟩ dX7_safest_19 ⟨Nat.le_of_ble_eq_true rfl, Nat.le_of_ble_eq_true rfl⟩ (fun r_11 σ_10 H locs h1 hZ => ?_)
    refine z_istore_n C0 h1 hl (fun x3_12 => [(3, .int x3_12), (2, .int x2_9), (0, .ref (zad V k0)), (1, .int x1)]) dX7_safest_22 rfl (by decide) (fun _ => rfl) (fun x3_12 ls h1 hl => ?_)
    refine lv_iconst (v := 1) hx hb dX7_safest_23 (by decide) ?_
    refine z_istore C0 h1 hl (fun x4_13 => [(4, .int x4_13), (3, .int x3_12), (2, .int x2_9), (0, .ref (zad V k0)), (1, .int x1)]) dX7_safest_24 (by decide) (fun _ => rfl) (fun x4_13 ls h1 hl => ?_)
    obtain ⟨n, h1⟩ := zlp_iff.mp h1
    exact J26 n x2_9 x3_12 x4_13 _ _ _ _  hZ (lv_sub hl [3, 4, 2, 1, 0] rfl) h1
  refine lv_iconst (v := (-1)) hx hb dX7_safest_13 (by decide) ?_
  rw [hQ]; exact z_iret C0 hr hlk hZ h1 dX7_safest_14
noncomputable def FX7_game_b9  (σ : zS) : Option zT3 := some (1, 0, σ)
noncomputable def FX7_game_b35 (y0 : Int32) (σ : zS) : Option zT3 := some (0, y0, σ)
noncomputable def FX7_game (k0 : Nat) (x1 : Int32) (σ : zS) : Option zT3 := if x1 < 0 then FX7_game_b9  σ else if x1 ≤ 3 then if 2 ≤ x1 then zbd (FX7_safest k0 x1 σ) (fun r_2 σ_1 => FX7_game_b35 r_2 σ_1) else zbd (FX7_resting k0 x1 σ) (fun r_4 σ_3 => FX7_game_b35 r_4 σ_3) else FX7_game_b9  σ
set_option maxHeartbeats 4000000 in
set_option maxRecDepth 100000 in
theorem kX7_game (l : Launch) (hfl : l.stackTraces = false) {V : zV} {σ : zS} {t0 : zT3} {k0 : Nat} {x1 : Int32} (hk0 : kd 0 k0 = 7) (h1 : FX7_game k0 x1 σ = some t0) : zXi l yX7_game cX7_game 2 (some .int) 6 93 1 6 0 V σ t0 [.ref (zad V k0), .int x1] := by
  refine zXi_of (by decide) (Nat.le_of_ble_eq_true rfl) ?_
  intro p e s m below meth c A C0 hr hlk hnt hZ ls hl
  generalize ([.ref (zad V k0), .int x1] : List Value).toArray = args at C0 ⊢
  obtain ⟨Q, hQ⟩ : ∃ Q, Q = vx_MQ below (zxQ 0 V t0 A) (zxX 0 V t0 A) args s 1 6 A := ⟨_, rfl⟩
  rw [← hQ]
  have hx := C0.1
  have hb := C0.2.1
  have hl : lv_has ls 2 [(0, .ref (zad V k0)), (1, .int x1)] := hl
  unfold FX7_game at h1
  have J9 : ∀  (σ : zS) (H : Heap) (locs : List Loc) (ls : Array Slot), zZ 0 V A σ s H locs → lv_has ls 2 [] → FX7_game_b9  σ = some t0 → W p l e { frames := 6, cells := 1, slots := 6, locals := 93 } s m args below meth c H locs 0 0 Q (F0 m 9 ls []) := by
    intro  σ H locs ls  hZ hl h1
    unfold FX7_game_b9 at h1
    rw [hQ]; exact z_throw (n := 0) C0 hfl hnt hl.1 hlk hZ h1 xxRX7_171 dX7_game_9 dX7_game_12 dX7_game_13 dX7_game_16 ⟨Nat.le_of_ble_eq_true rfl, Nat.le_of_ble_eq_true rfl, Nat.le_of_ble_eq_true rfl, Nat.le_of_ble_eq_true rfl⟩ ⟨Nat.le_of_ble_eq_true rfl, Nat.le_of_ble_eq_true rfl⟩
  have J35 : ∀ (y0 : Int32) (σ : zS) (H : Heap) (locs : List Loc) (ls : Array Slot), zZ 0 V A σ s H locs → lv_has ls 2 [] → FX7_game_b35 y0 σ = some t0 → W p l e { frames := 6, cells := 1, slots := 6, locals := 93 } s m args below meth c H locs 0 0 Q (F0 m 35 ls [.int y0]) := by
    intro y0 σ H locs ls  hZ hl h1
    unfold FX7_game_b35 at h1
    rw [hQ]; exact z_xiret C0 hr hlk hZ h1 ⟨Nat.le_of_ble_eq_true rfl, Nat.le_of_ble_eq_true rfl⟩ dX7_game_35
  refine lv_iload_n hx hb dX7_game_0 rfl (lv_at hl 1 rfl) ?_
  refine z_if_lt (tgt := 9) C0 h1 dX7_game_1 (by decide) (fun h1 => ?_) (fun h1 => ?_)
  · exact J9  _ _ _ _  hZ (lv_sub hl [] rfl) h1
  refine lv_iload_n hx hb dX7_game_4 rfl (lv_at hl 1 rfl) ?_
  refine lv_iconst (v := 3) hx hb dX7_game_5 (by decide) ?_
  refine z_ic_le (tgt := 17) C0 h1 dX7_game_6 (by decide) (fun h1 => ?_) (fun h1 => ?_)
  · refine lv_iload_n hx hb dX7_game_17 rfl (lv_at hl 1 rfl) ?_
    refine lv_iconst (v := 2) hx hb dX7_game_18 (by decide) ?_
    refine z_ic_ge (tgt := 30) C0 h1 dX7_game_19 (by decide) (fun h1 => ?_) (fun h1 => ?_)
    · refine lv_aload_n hx hb dX7_game_30 rfl (lv_at hl 0 rfl) ?_
      refine lv_iload_n hx hb dX7_game_31 rfl (lv_at hl 1 rfl) ?_
      refine z_cVi (As := [.int x1]) (rest := []) C0 hZ h1 (fun _ hf => kX7_safest l hk0 hf) mRX7_337 vX7_safest hk0 rfl rfl hl.1 (Nat.le_of_ble_eq_true rfl) ⟨Nat.le_of_ble_eq_true rfl, Nat.le_of_ble_eq_true rfl⟩ dX7_game_32 ⟨Nat.le_of_ble_eq_true rfl, Nat.le_of_ble_eq_true rfl⟩ (fun r_2 σ_1 H locs h1 hZ => ?_)
      exact J35 r_2 _ _ _ _  hZ (lv_sub hl [] rfl) h1
    refine lv_aload_n hx hb dX7_game_22 rfl (lv_at hl 0 rfl) ?_
    refine lv_iload_n hx hb dX7_game_23 rfl (lv_at hl 1 rfl) ?_
    refine z_cVi (As := [.int x1]) (rest := []) C0 hZ h1 (fun _ hf => kX7_resting l hk0 hf) mRX7_334 vX7_resting hk0 rfl rfl hl.1 (Nat.le_of_ble_eq_true rfl) ⟨Nat.le_of_ble_eq_true rfl, Nat.le_of_ble_eq_true rfl⟩ dX7_game_24 ⟨Nat.le_of_ble_eq_true rfl, Nat.le_of_ble_eq_true rfl⟩ (fun r_4 σ_3 H locs h1 hZ => ?_)
    refine lv_goto (tgt := 35) hx hb dX7_game_27 (by decide) ?_
    exact J35 r_4 _ _ _ _  hZ (lv_sub hl [] rfl) h1
  exact J9  _ _ _ _  hZ (lv_sub hl [] rfl) h1
noncomputable def FX7_weeks_b9  (σ : zS) : Option zT3 := some (1, 0, σ)
noncomputable def FX7_weeks_b27  (σ : zS) : Option zT3 := some (2, 0, σ)
noncomputable def FX7_weeks_b214 (y0 : Int32) (σ : zS) : Option zT3 := some (0, y0, σ)
noncomputable def FX7_weeks_b193 (x3 : Int32) (x5 : Int32) (x6 : Int32) (x7 : Int32) (σ : zS) : Option zT3 := if x3 = 0 then FX7_weeks_b214 x5 σ else if x3 = 1 then FX7_weeks_b214 x6 σ else FX7_weeks_b214 x7 σ
noncomputable def FX7_weeks_b146 (k0 : Nat) (x2 : Int32) (x3 : Int32) (x4 : Int32) (x5 : Int32) (x6 : Int32) (x7 : Int32) (x8 : Int32) (σ : zS) : Option ((Int32 × Int32 × Int32 × Int32 × Int32 × zS) ⊕ zT3) := zbd (FX0_run (k0 + 35) σ) (fun r_2 σ_1 => zlet r_2 (fun x9_3 => zlet (x5 + x9_3) (fun x5_4 => zlet (if x6 < x9_3 then x9_3 else x6) (fun x6_6 => zbd (FX7_at ((k0 + 35) + 8) 1 σ_1) (fun r_8 σ_7 => zlet (x7 + r_8) (fun x7_9 => zlet (x8 + 1) (fun x8_10 => some (.inl (x4, x5_4, x6_6, x7_9, x8_10, σ_7)))))))))
noncomputable def FX7_weeks_b140 (k0 : Nat) (x2 : Int32) (x3 : Int32) (x4 : Int32) (x5 : Int32) (x6 : Int32) (x7 : Int32) (x8 : Int32) (x9 : Int32) (σ : zS) : Option ((Int32 × Int32 × zS) ⊕ ((Int32 × Int32 × Int32 × Int32 × Int32 × zS) ⊕ zT3)) := zlet (x9 + 1) (fun x9_11 => some (.inl (x4, x9_11, σ)))
noncomputable def FX7_weeks_L82 (k0 : Nat) (x2 : Int32) (x3 : Int32) (x5 : Int32) (x6 : Int32) (x7 : Int32) (x8 : Int32) (x4 : Int32) (x9 : Int32) (σ : zS) : Option ((Int32 × Int32 × zS) ⊕ ((Int32 × Int32 × Int32 × Int32 × Int32 × zS) ⊕ zT3)) := zgd (kd 0 (σ k0 2).toNatClampNeg == 5) (zlet (σ k0 2).toNatClampNeg (fun q_12 => if (σ (q_12 + 7) 0) ≤ x9 then zinr (FX7_weeks_b146 k0 x2 x3 x4 x5 x6 x7 x8 σ) else zlet ((x4 * 1103515245) + 12345) (fun x4_13 => zgd (2 != 0) (if ((((Int32.toUInt32 x4_13) >>> ((Int32.toUInt32 16) &&& Int32.toUInt32 31)).toInt32 &&& 32767) - (((Int32.toUInt32 x4_13) >>> ((Int32.toUInt32 16) &&& Int32.toUInt32 31)).toInt32 &&& 32767) / 2 * 2) = 0 then zbd (FX7_bit x9 σ) (fun r_15 σ_14 => zlet (zup σ_14 (k0 + 35) 5 ((σ (k0 + 35) 5) ||| r_15)) (fun σ_16 => FX7_weeks_b140 k0 x2 x3 x4_13 x5 x6 x7 x8 x9 σ_16)) else FX7_weeks_b140 k0 x2 x3 x4_13 x5 x6 x7 x8 x9 σ))))
noncomputable def FX7_weeks_L65 (k0 : Nat) (x2 : Int32) (x3 : Int32) (x4 : Int32) (x5 : Int32) (x6 : Int32) (x7 : Int32) (x8 : Int32) (σ : zS) : Option ((Int32 × Int32 × Int32 × Int32 × Int32 × zS) ⊕ zT3) := if x2 ≤ x8 then zinr (FX7_weeks_b193 x3 x5 x6 x7 σ) else zlet (zup σ (k0 + 35) 5 0) (fun σ_17 => zlet 0 (fun x9_18 => zlp (fun q => FX7_weeks_L82 k0 x2 x3 x5 x6 x7 x8 q.1 q.2.1 q.2.2) (x4, x9_18, σ_17)))
noncomputable def FX7_weeks (k0 : Nat) (x1 : Int32) (x2 : Int32) (x3 : Int32) (σ : zS) : Option zT3 := if x3 < 0 then FX7_weeks_b9  σ else if x3 ≤ 2 then if x2 < 0 then FX7_weeks_b27  σ else if x2 ≤ 30 then zgd (kd 0 (σ k0 2).toNatClampNeg == 5) (zlet (σ k0 2).toNatClampNeg (fun q_19 => zbd (FX0_prepare (k0 + 35) q_19 (k0 + 6) σ) (fun _ σ_20 => zlet x1 (fun x4_22 => zlet 0 (fun x5_23 => zlet 0 (fun x6_24 => zlet 0 (fun x7_25 => zlet 0 (fun x8_26 => zlp (fun q => FX7_weeks_L65 k0 x2 x3 q.1 q.2.1 q.2.2.1 q.2.2.2.1 q.2.2.2.2.1 q.2.2.2.2.2) (x4_22, x5_23, x6_24, x7_25, x8_26, σ_20))))))))) else FX7_weeks_b27  σ else FX7_weeks_b9  σ
set_option maxHeartbeats 4000000 in
set_option maxRecDepth 100000 in
theorem kX7_weeks (l : Launch) (hfl : l.stackTraces = false) {V : zV} {σ : zS} {t0 : zT3} {k0 : Nat} {x1 : Int32} {x2 : Int32} {x3 : Int32} (hk0 : kd 0 k0 = 7) (h1 : FX7_weeks k0 x1 x2 x3 σ = some t0) : zXi l yX7_weeks cX7_weeks 10 (some .int) 6 139 1 6 0 V σ t0 [.ref (zad V k0), .int x1, .int x2, .int x3] := by
  refine zXi_of (by decide) (Nat.le_of_ble_eq_true rfl) ?_
  intro p e s m below meth c A C0 hr hlk hnt hZ ls hl
  generalize ([.ref (zad V k0), .int x1, .int x2, .int x3] : List Value).toArray = args at C0 ⊢
  obtain ⟨Q, hQ⟩ : ∃ Q, Q = vx_MQ below (zxQ 0 V t0 A) (zxX 0 V t0 A) args s 1 6 A := ⟨_, rfl⟩
  rw [← hQ]
  have hx := C0.1
  have hb := C0.2.1
  have hl : lv_has ls 10 [(0, .ref (zad V k0)), (1, .int x1), (2, .int x2), (3, .int x3)] := hl
  unfold FX7_weeks at h1
  have J9 : ∀  (σ : zS) (H : Heap) (locs : List Loc) (ls : Array Slot), zZ 0 V A σ s H locs → lv_has ls 10 [] → FX7_weeks_b9  σ = some t0 → W p l e { frames := 6, cells := 1, slots := 6, locals := 139 } s m args below meth c H locs 0 0 Q (F0 m 9 ls []) := by
    intro  σ H locs ls  hZ hl h1
    unfold FX7_weeks_b9 at h1
    rw [hQ]; exact z_throw (n := 0) C0 hfl hnt hl.1 hlk hZ h1 xxRX7_171 dX7_weeks_9 dX7_weeks_12 dX7_weeks_13 dX7_weeks_16 ⟨Nat.le_of_ble_eq_true rfl, Nat.le_of_ble_eq_true rfl, Nat.le_of_ble_eq_true rfl, Nat.le_of_ble_eq_true rfl⟩ ⟨Nat.le_of_ble_eq_true rfl, Nat.le_of_ble_eq_true rfl⟩
  have J27 : ∀  (σ : zS) (H : Heap) (locs : List Loc) (ls : Array Slot), zZ 0 V A σ s H locs → lv_has ls 10 [] → FX7_weeks_b27  σ = some t0 → W p l e { frames := 6, cells := 1, slots := 6, locals := 139 } s m args below meth c H locs 0 0 Q (F0 m 27 ls []) := by
    intro  σ H locs ls  hZ hl h1
    unfold FX7_weeks_b27 at h1
    rw [hQ]; exact z_throw (n := 1) C0 hfl hnt hl.1 hlk hZ h1 xxRX7_83 dX7_weeks_27 dX7_weeks_30 dX7_weeks_31 dX7_weeks_34 ⟨Nat.le_of_ble_eq_true rfl, Nat.le_of_ble_eq_true rfl, Nat.le_of_ble_eq_true rfl, Nat.le_of_ble_eq_true rfl⟩ ⟨Nat.le_of_ble_eq_true rfl, Nat.le_of_ble_eq_true rfl⟩
  have J214 : ∀ (y0 : Int32) (σ : zS) (H : Heap) (locs : List Loc) (ls : Array Slot), zZ 0 V A σ s H locs → lv_has ls 10 [] → FX7_weeks_b214 y0 σ = some t0 → W p l e { frames := 6, cells := 1, slots := 6, locals := 139 } s m args below meth c H locs 0 0 Q (F0 m 214 ls [.int y0]) := by
    intro y0 σ H locs ls  hZ hl h1
    unfold FX7_weeks_b214 at h1
    rw [hQ]; exact z_xiret C0 hr hlk hZ h1 ⟨Nat.le_of_ble_eq_true rfl, Nat.le_of_ble_eq_true rfl⟩ dX7_weeks_214
  have J193 : ∀ (x5 : Int32) (x6 : Int32) (x7 : Int32) (σ : zS) (H : Heap) (locs : List Loc) (ls : Array Slot), zZ 0 V A σ s H locs → lv_has ls 10 [(3, .int x3), (5, .int x5), (6, .int x6), (7, .int x7)] → FX7_weeks_b193 x3 x5 x6 x7 σ = some t0 → W p l e { frames := 6, cells := 1, slots := 6, locals := 139 } s m args below meth c H locs 0 0 Q (F0 m 193 ls []) := by
    intro x5 x6 x7 σ H locs ls  hZ hl h1
    unfold FX7_weeks_b193 at h1
    refine lv_iload_n hx hb dX7_weeks_193 rfl (lv_at hl 0 rfl) ?_
    refine z_if_ne (tgt := 202) C0 h1 dX7_weeks_194 (by decide) (fun h1 => ?_) (fun h1 => ?_)
    · refine lv_iload_n hx hb dX7_weeks_202 rfl (lv_at hl 0 rfl) ?_
      refine lv_iconst (v := 1) hx hb dX7_weeks_203 (by decide) ?_
      refine z_ic_ne (tgt := 212) C0 h1 dX7_weeks_204 (by decide) (fun h1 => ?_) (fun h1 => ?_)
      · refine lv_iload hx hb dX7_weeks_212 (lv_at hl 3 rfl) ?_
        exact J214 x7 _ _ _ _  hZ (lv_sub hl [] rfl) h1
      refine lv_iload hx hb dX7_weeks_207 (lv_at hl 2 rfl) ?_
      refine lv_goto (tgt := 214) hx hb dX7_weeks_209 (by decide) ?_
      exact J214 x6 _ _ _ _  hZ (lv_sub hl [] rfl) h1
    refine lv_iload hx hb dX7_weeks_197 (lv_at hl 1 rfl) ?_
    refine lv_goto (tgt := 214) hx hb dX7_weeks_199 (by decide) ?_
    exact J214 x5 _ _ _ _  hZ (lv_sub hl [] rfl) h1
  have J65 : ∀ (n : Nat) (x4 : Int32) (x5 : Int32) (x6 : Int32) (x7 : Int32) (x8 : Int32) (σ : zS) (H : Heap) (locs : List Loc) (ls : Array Slot), zZ 0 V A σ s H locs → lv_has ls 10 [(0, .ref (zad V k0)), (2, .int x2), (3, .int x3), (4, .int x4), (5, .int x5), (6, .int x6), (7, .int x7), (8, .int x8)] → zit (fun q => FX7_weeks_L65 k0 x2 x3 q.1 q.2.1 q.2.2.1 q.2.2.2.1 q.2.2.2.2.1 q.2.2.2.2.2) n (x4, x5, x6, x7, x8, σ) = some t0 → W p l e { frames := 6, cells := 1, slots := 6, locals := 139 } s m args below meth c H locs 0 0 Q (F0 m 65 ls []) := by
    intro n
    induction n with
    | zero => intro x4 x5 x6 x7 x8 σ H locs ls  _ _ h1; cases h1
    | succ n ih65 =>
      intro x4 x5 x6 x7 x8 σ H locs ls  hZ hl h1
      obtain ⟨t1, h1, hz1⟩ := zit_1 h1
      have J146 : ∀ (x4 : Int32) (x5 : Int32) (x6 : Int32) (x7 : Int32) (x8 : Int32) (σ : zS) (H : Heap) (locs : List Loc) (ls : Array Slot), zZ 0 V A σ s H locs → lv_has ls 10 [(0, .ref (zad V k0)), (2, .int x2), (3, .int x3), (4, .int x4), (5, .int x5), (6, .int x6), (7, .int x7), (8, .int x8)] → FX7_weeks_b146 k0 x2 x3 x4 x5 x6 x7 x8 σ = some t1 → W p l e { frames := 6, cells := 1, slots := 6, locals := 139 } s m args below meth c H locs 0 0 Q (F0 m 146 ls []) := by
        intro x4 x5 x6 x7 x8 σ H locs ls  hZ hl h1
        unfold FX7_weeks_b146 at h1
        refine lv_aload_n hx hb dX7_weeks_146 rfl (lv_at hl 0 rfl) ?_
        refine z_getr C0 hZ hk0 fRX7_53 rfl dX7_weeks_147 ?_
        refine z_cVi (As := []) (rest := []) C0 hZ h1 (fun _ hf => kX0_run l (zkt7_8 hk0) hf) mRX7_241 vX0_run (zkt7_8 hk0) rfl rfl hl.1 (Nat.le_of_ble_eq_true rfl) ⟨Nat.le_of_ble_eq_true rfl, Nat.le_of_ble_eq_true rfl⟩ dX7_weeks_150 ⟨Nat.le_of_ble_eq_true rfl, Nat.le_of_ble_eq_true rfl⟩ (fun r_2 σ_1 H locs h1 hZ => ?_)
        refine z_istore C0 h1 hl (fun x9_3 => [(9, .int x9_3), (0, .ref (zad V k0)), (2, .int x2), (3, .int x3), (4, .int x4), (5, .int x5), (6, .int x6), (7, .int x7), (8, .int x8)]) dX7_weeks_153 (by decide) (fun _ => rfl) (fun x9_3 ls h1 hl => ?_)
        refine lv_iload hx hb dX7_weeks_155 (lv_at hl 5 rfl) ?_
        refine lv_iload hx hb dX7_weeks_157 (lv_at hl 0 rfl) ?_
        refine lv_iadd hx hb dX7_weeks_159 ?_
        refine z_istore C0 h1 hl (fun x5_4 => [(5, .int x5_4), (9, .int x9_3), (0, .ref (zad V k0)), (2, .int x2), (3, .int x3), (4, .int x4), (6, .int x6), (7, .int x7), (8, .int x8)]) dX7_weeks_160 (by decide) (fun _ => rfl) (fun x5_4 ls h1 hl => ?_)
        refine lv_iload hx hb dX7_weeks_162 (lv_at hl 6 rfl) ?_
        refine lv_iload hx hb dX7_weeks_164 (lv_at hl 1 rfl) ?_
        refine z_mmax C0 hl.1 mmRX7_349 ⟨Nat.le_of_ble_eq_true rfl, Nat.le_of_ble_eq_true rfl⟩ ⟨Nat.le_of_ble_eq_true rfl, Nat.le_of_ble_eq_true rfl⟩ dX7_weeks_166 ?_
        refine z_istore C0 h1 hl (fun x6_6 => [(6, .int x6_6), (5, .int x5_4), (9, .int x9_3), (0, .ref (zad V k0)), (2, .int x2), (3, .int x3), (4, .int x4), (7, .int x7), (8, .int x8)]) dX7_weeks_169 (by decide) (fun _ => rfl) (fun x6_6 ls h1 hl => ?_)
        refine lv_iload hx hb dX7_weeks_171 (lv_at hl 7 rfl) ?_
        refine lv_aload_n hx hb dX7_weeks_173 rfl (lv_at hl 3 rfl) ?_
        refine z_getr C0 hZ hk0 fRX7_53 rfl dX7_weeks_174 ?_
        refine z_getr C0 hZ (zkt7_8 hk0) fRX7_256 rfl dX7_weeks_177 ?_
        refine lv_iconst (v := 1) hx hb dX7_weeks_180 (by decide) ?_
        refine z_cSi (As := [.ref (zad V ((k0 + 35) + 8)), .int 1]) (rest := [.int x7]) C0 hZ h1 (fun _ hf => kX7_at l (zkt0_15 (zkt7_8 hk0)) hf) mRX7_167 sX7_at rfl rfl hl.1 (Nat.le_of_ble_eq_true rfl) ⟨Nat.le_of_ble_eq_true rfl, Nat.le_of_ble_eq_true rfl⟩ dX7_weeks_181 ⟨Nat.le_of_ble_eq_true rfl, Nat.le_of_ble_eq_true rfl⟩ (fun r_8 σ_7 H locs h1 hZ => ?_)
        refine lv_iadd hx hb dX7_weeks_184 ?_
        refine z_istore C0 h1 hl (fun x7_9 => [(7, .int x7_9), (6, .int x6_6), (5, .int x5_4), (9, .int x9_3), (0, .ref (zad V k0)), (2, .int x2), (3, .int x3), (4, .int x4), (8, .int x8)]) dX7_weeks_185 (by decide) (fun _ => rfl) (fun x7_9 ls h1 hl => ?_)
        refine z_iinc (v := 1) C0 h1 hl (fun x8_10 => [(8, .int x8_10), (7, .int x7_9), (6, .int x6_6), (5, .int x5_4), (9, .int x9_3), (0, .ref (zad V k0)), (2, .int x2), (3, .int x3), (4, .int x4)]) dX7_weeks_187 (k := 8) rfl (by decide) (by decide) (fun _ => rfl) (fun x8_10 ls h1 hl => ?_)
        refine lv_goto (tgt := 65) hx hb dX7_weeks_190 (by decide) ?_
        exact ih65 x4 x5_4 x6_6 x7_9 x8_10 _ _ _ _  hZ (lv_sub hl [5, 6, 7, 8, 3, 2, 1, 0] rfl) (zback h1 hz1)
      have J82 : ∀ (n : Nat) (x4 : Int32) (x5 : Int32) (x6 : Int32) (x7 : Int32) (x8 : Int32) (x9 : Int32) (σ : zS) (H : Heap) (locs : List Loc) (ls : Array Slot), zZ 0 V A σ s H locs → lv_has ls 10 [(0, .ref (zad V k0)), (2, .int x2), (3, .int x3), (4, .int x4), (5, .int x5), (6, .int x6), (7, .int x7), (8, .int x8), (9, .int x9)] → zit (fun q => FX7_weeks_L82 k0 x2 x3 x5 x6 x7 x8 q.1 q.2.1 q.2.2) n (x4, x9, σ) = some t1 → W p l e { frames := 6, cells := 1, slots := 6, locals := 139 } s m args below meth c H locs 0 0 Q (F0 m 82 ls []) := by
        intro n
        induction n with
        | zero => intro x4 x5 x6 x7 x8 x9 σ H locs ls  _ _ h1; cases h1
        | succ n ih82 =>
          intro x4 x5 x6 x7 x8 x9 σ H locs ls  hZ hl h1
          obtain ⟨t2, h1, hz2⟩ := zit_1 h1
          have J140 : ∀ (x4 : Int32) (x9 : Int32) (σ : zS) (H : Heap) (locs : List Loc) (ls : Array Slot), zZ 0 V A σ s H locs → lv_has ls 10 [(0, .ref (zad V k0)), (2, .int x2), (3, .int x3), (4, .int x4), (5, .int x5), (6, .int x6), (7, .int x7), (8, .int x8), (9, .int x9)] → FX7_weeks_b140 k0 x2 x3 x4 x5 x6 x7 x8 x9 σ = some t2 → W p l e { frames := 6, cells := 1, slots := 6, locals := 139 } s m args below meth c H locs 0 0 Q (F0 m 140 ls []) := by
            intro x4 x9 σ H locs ls  hZ hl h1
            unfold FX7_weeks_b140 at h1
            refine z_iinc (v := 1) C0 h1 hl (fun x9_11 => [(9, .int x9_11), (0, .ref (zad V k0)), (2, .int x2), (3, .int x3), (4, .int x4), (5, .int x5), (6, .int x6), (7, .int x7), (8, .int x8)]) dX7_weeks_140 (k := 8) rfl (by decide) (by decide) (fun _ => rfl) (fun x9_11 ls h1 hl => ?_)
            refine lv_goto (tgt := 82) hx hb dX7_weeks_143 (by decide) ?_
            exact ih82 x4 x5 x6 x7 x8 x9_11 _ _ _ _  hZ (lv_sub hl [1, 2, 3, 4, 5, 6, 7, 8, 0] rfl) (zback h1 hz2)
          replace h1 : FX7_weeks_L82 k0 x2 x3 x5 x6 x7 x8 x4 x9 σ = some t2 := h1
          unfold FX7_weeks_L82 at h1
          refine lv_iload hx hb dX7_weeks_82 (lv_at hl 8 rfl) ?_
          refine lv_aload_n hx hb dX7_weeks_84 rfl (lv_at hl 0 rfl) ?_
          refine z_getm C0 hZ h1 hk0 fRX7_19 rfl dX7_weeks_85 (fun q_12 hq_12 h1 => ?_)
          refine z_getr C0 hZ hq_12 fRX7_118 rfl dX7_weeks_88 ?_
          refine z_geti C0 hZ (zkt5_1 hq_12) fRX7_122 rfl dX7_weeks_91 ?_
          refine z_ic_ge (tgt := 146) C0 h1 dX7_weeks_94 (by decide) (fun h1 => ?_) (fun h1 => ?_)
          · have h1 := zout h1 hz2
            exact J146 x4 x5 x6 x7 x8 _ _ _ _  hZ (lv_sub hl [0, 1, 2, 3, 4, 5, 6, 7] rfl) h1
          refine lv_iload hx hb dX7_weeks_97 (lv_at hl 3 rfl) ?_
          refine lv_ldcw (v := 1103515245) hx hb C0.2.2.2.1 (C0.2.2.2.2 _ (zmem 1384 (by decide +kernel) (by decide +kernel))) dX7_weeks_99 ?_
          refine lv_imul hx hb dX7_weeks_102 ?_
          refine lv_sipush (v := 12345) hx hb dX7_weeks_103 (by decide) ?_
          refine lv_iadd hx hb dX7_weeks_106 ?_
          refine z_istore C0 h1 hl (fun x4_13 => [(4, .int x4_13), (0, .ref (zad V k0)), (2, .int x2), (3, .int x3), (5, .int x5), (6, .int x6), (7, .int x7), (8, .int x8), (9, .int x9)]) dX7_weeks_107 (by decide) (fun _ => rfl) (fun x4_13 ls h1 hl => ?_)
          refine lv_iload hx hb dX7_weeks_109 (lv_at hl 0 rfl) ?_
          refine lv_bipush (v := 16) hx hb dX7_weeks_111 (by decide) ?_
          refine lv_iushr (v := ((Int32.toUInt32 x4_13) >>> ((Int32.toUInt32 16) &&& Int32.toUInt32 31)).toInt32) hx hb dX7_weeks_113 rfl ?_
          refine lv_sipush (v := 32767) hx hb dX7_weeks_114 (by decide) ?_
          refine lv_iand hx hb dX7_weeks_117 ?_
          refine lv_iconst (v := 2) hx hb dX7_weeks_118 (by decide) ?_
          refine z_irem C0 h1 dX7_weeks_119 (fun h1 => ?_)
          refine z_if_ne (tgt := 140) C0 h1 dX7_weeks_120 (by decide) (fun h1 => ?_) (fun h1 => ?_)
          · exact J140 x4_13 x9 _ _ _ _  hZ (lv_sub hl [1, 2, 3, 0, 4, 5, 6, 7, 8] rfl) h1
          refine lv_aload_n hx hb dX7_weeks_123 rfl (lv_at hl 1 rfl) ?_
          refine z_getr C0 hZ hk0 fRX7_53 rfl dX7_weeks_124 ?_
          refine lv_dup hx hb dX7_weeks_127 rfl ?_
          refine z_geti C0 hZ (zkt7_8 hk0) fRX7_292 rfl dX7_weeks_128 ?_
          refine lv_iload hx hb dX7_weeks_131 (lv_at hl 8 rfl) ?_
          refine z_cSi (As := [.int x9]) (rest := [.int (σ (k0 + 35) 5), .ref (zad V (k0 + 35))]) C0 hZ h1 (fun _ hf => kX7_bit l  hf) mRX7_231 sX7_bit rfl rfl hl.1 (Nat.le_of_ble_eq_true rfl) ⟨Nat.le_of_ble_eq_true rfl, Nat.le_of_ble_eq_true rfl⟩ dX7_weeks_133 ⟨Nat.le_of_ble_eq_true rfl, Nat.le_of_ble_eq_true rfl⟩ (fun r_15 σ_14 H locs h1 hZ => ?_)
          refine lv_ior hx hb dX7_weeks_136 ?_
          refine z_puti C0 hZ h1 (zkt7_8 hk0) fRX7_292 rfl tyX0_ok nmX0 rfl rfl rfl dX7_weeks_137 (fun σ_16 H locs h1 hZ => ?_)
          exact J140 x4_13 x9 _ _ _ _  hZ (lv_sub hl [1, 2, 3, 0, 4, 5, 6, 7, 8] rfl) h1
      replace h1 : FX7_weeks_L65 k0 x2 x3 x4 x5 x6 x7 x8 σ = some t1 := h1
      unfold FX7_weeks_L65 at h1
      refine lv_iload hx hb dX7_weeks_65 (lv_at hl 7 rfl) ?_
      refine lv_iload_n hx hb dX7_weeks_67 rfl (lv_at hl 1 rfl) ?_
      refine z_ic_ge (tgt := 193) C0 h1 dX7_weeks_68 (by decide) (fun h1 => ?_) (fun h1 => ?_)
      · have h1 := zout h1 hz1
        exact J193 x5 x6 x7 _ _ _ _  hZ (lv_sub hl [2, 4, 5, 6] rfl) h1
      refine lv_aload_n hx hb dX7_weeks_71 rfl (lv_at hl 0 rfl) ?_
      refine z_getr C0 hZ hk0 fRX7_53 rfl dX7_weeks_72 ?_
      refine lv_iconst (v := 0) hx hb dX7_weeks_75 (by decide) ?_
      refine z_puti C0 hZ h1 (zkt7_8 hk0) fRX7_292 rfl tyX0_ok nmX0 rfl rfl rfl dX7_weeks_76 (fun σ_17 H locs h1 hZ => ?_)
      refine lv_iconst (v := 0) hx hb dX7_weeks_79 (by decide) ?_
      refine z_istore C0 h1 hl (fun x9_18 => [(9, .int x9_18), (0, .ref (zad V k0)), (2, .int x2), (3, .int x3), (4, .int x4), (5, .int x5), (6, .int x6), (7, .int x7), (8, .int x8)]) dX7_weeks_80 (by decide) (fun _ => rfl) (fun x9_18 ls h1 hl => ?_)
      obtain ⟨n, h1⟩ := zlp_iff.mp h1
      exact J82 n x4 x5 x6 x7 x8 x9_18 _ _ _ _  hZ (lv_sub hl [1, 2, 3, 4, 5, 6, 7, 8, 0] rfl) h1
  refine lv_iload_n hx hb dX7_weeks_0 rfl (lv_at hl 3 rfl) ?_
  refine z_if_lt (tgt := 9) C0 h1 dX7_weeks_1 (by decide) (fun h1 => ?_) (fun h1 => ?_)
  · exact J9  _ _ _ _  hZ (lv_sub hl [] rfl) h1
  refine lv_iload_n hx hb dX7_weeks_4 rfl (lv_at hl 3 rfl) ?_
  refine lv_iconst (v := 2) hx hb dX7_weeks_5 (by decide) ?_
  refine z_ic_le (tgt := 17) C0 h1 dX7_weeks_6 (by decide) (fun h1 => ?_) (fun h1 => ?_)
  · refine lv_iload_n hx hb dX7_weeks_17 rfl (lv_at hl 2 rfl) ?_
    refine z_if_lt (tgt := 27) C0 h1 dX7_weeks_18 (by decide) (fun h1 => ?_) (fun h1 => ?_)
    · exact J27  _ _ _ _  hZ (lv_sub hl [] rfl) h1
    refine lv_iload_n hx hb dX7_weeks_21 rfl (lv_at hl 2 rfl) ?_
    refine lv_bipush (v := 30) hx hb dX7_weeks_22 (by decide) ?_
    refine z_ic_le (tgt := 35) C0 h1 dX7_weeks_24 (by decide) (fun h1 => ?_) (fun h1 => ?_)
    · refine lv_aload_n hx hb dX7_weeks_35 rfl (lv_at hl 0 rfl) ?_
      refine z_getr C0 hZ hk0 fRX7_53 rfl dX7_weeks_36 ?_
      refine lv_aload_n hx hb dX7_weeks_39 rfl (lv_at hl 0 rfl) ?_
      refine z_getm C0 hZ h1 hk0 fRX7_19 rfl dX7_weeks_40 (fun q_19 hq_19 h1 => ?_)
      refine lv_aload_n hx hb dX7_weeks_43 rfl (lv_at hl 0 rfl) ?_
      refine z_getr C0 hZ hk0 fRX7_33 rfl dX7_weeks_44 ?_
      refine z_cVv (As := [.ref (zad V q_19), .ref (zad V (k0 + 6))]) (rest := []) C0 hZ h1 (fun _ hf => kX0_prepare l (zkt7_8 hk0) hq_19 (zkt7_4 hk0) hf) mRX7_237 vX0_prepare (zkt7_8 hk0) rfl rfl hl.1 (Nat.le_of_ble_eq_true rfl) ⟨Nat.le_of_ble_eq_true rfl, Nat.le_of_ble_eq_true rfl⟩ dX7_weeks_47 ⟨Nat.le_of_ble_eq_true rfl, Nat.le_of_ble_eq_true rfl⟩ (fun _ σ_20 H locs h1 hZ => ?_)
      refine lv_iload_n hx hb dX7_weeks_50 rfl (lv_at hl 1 rfl) ?_
      refine z_istore C0 h1 hl (fun x4_22 => [(4, .int x4_22), (0, .ref (zad V k0)), (1, .int x1), (2, .int x2), (3, .int x3)]) dX7_weeks_51 (by decide) (fun _ => rfl) (fun x4_22 ls h1 hl => ?_)
      refine lv_iconst (v := 0) hx hb dX7_weeks_53 (by decide) ?_
      refine z_istore C0 h1 hl (fun x5_23 => [(5, .int x5_23), (4, .int x4_22), (0, .ref (zad V k0)), (1, .int x1), (2, .int x2), (3, .int x3)]) dX7_weeks_54 (by decide) (fun _ => rfl) (fun x5_23 ls h1 hl => ?_)
      refine lv_iconst (v := 0) hx hb dX7_weeks_56 (by decide) ?_
      refine z_istore C0 h1 hl (fun x6_24 => [(6, .int x6_24), (5, .int x5_23), (4, .int x4_22), (0, .ref (zad V k0)), (1, .int x1), (2, .int x2), (3, .int x3)]) dX7_weeks_57 (by decide) (fun _ => rfl) (fun x6_24 ls h1 hl => ?_)
      refine lv_iconst (v := 0) hx hb dX7_weeks_59 (by decide) ?_
      refine z_istore C0 h1 hl (fun x7_25 => [(7, .int x7_25), (6, .int x6_24), (5, .int x5_23), (4, .int x4_22), (0, .ref (zad V k0)), (1, .int x1), (2, .int x2), (3, .int x3)]) dX7_weeks_60 (by decide) (fun _ => rfl) (fun x7_25 ls h1 hl => ?_)
      refine lv_iconst (v := 0) hx hb dX7_weeks_62 (by decide) ?_
      refine z_istore C0 h1 hl (fun x8_26 => [(8, .int x8_26), (7, .int x7_25), (6, .int x6_24), (5, .int x5_23), (4, .int x4_22), (0, .ref (zad V k0)), (1, .int x1), (2, .int x2), (3, .int x3)]) dX7_weeks_63 (by decide) (fun _ => rfl) (fun x8_26 ls h1 hl => ?_)
      obtain ⟨n, h1⟩ := zlp_iff.mp h1
      exact J65 n x4_22 x5_23 x6_24 x7_25 x8_26 _ _ _ _  hZ (lv_sub hl [5, 7, 8, 4, 3, 2, 1, 0] rfl) h1
    exact J27  _ _ _ _  hZ (lv_sub hl [] rfl) h1
  exact J9  _ _ _ _  hZ (lv_sub hl [] rfl) h1
noncomputable def FX7_image (k0 : Nat) (σ : zS) : Option (Int32 × zS) := zbd (FX6_copy (k0 + 15) (k0 + 6) σ) (fun _ σ_1 => zlet (zup σ_1 k0 6 1) (fun σ_3 => some (0, σ_3)))
set_option maxHeartbeats 4000000 in
set_option maxRecDepth 100000 in
theorem kX7_image (l : Launch) {V : zV} {σ : zS} {t0 : Int32 × zS} {k0 : Nat} (hk0 : kd 0 k0 = 7) (h1 : FX7_image k0 σ = some t0) : zMv l yX7_image cX7_image 1 3 102 0 V σ t0 [.ref (zad V k0)] := by
  refine zMv_of (by decide) (Nat.le_of_ble_eq_true rfl) ?_
  intro p e s m below meth c A C0 hr hlk hZ ls hl
  generalize ([.ref (zad V k0)] : List Value).toArray = args at C0 ⊢
  obtain ⟨Q, hQ⟩ : ∃ Q, Q = MQ below (zQv 0 V t0 A) args s 0 0 A := ⟨_, rfl⟩
  rw [← hQ]
  have hx := C0.1
  have hb := C0.2.1
  have hl : lv_has ls 1 [(0, .ref (zad V k0))] := hl
  unfold FX7_image at h1
  refine lv_aload_n hx hb dX7_image_0 rfl (lv_at hl 0 rfl) ?_
  refine z_getr C0 hZ hk0 fRX7_37 rfl dX7_image_1 ?_
  refine lv_aload_n hx hb dX7_image_4 rfl (lv_at hl 0 rfl) ?_
  refine z_getr C0 hZ hk0 fRX7_33 rfl dX7_image_5 ?_
  refine z_cVv (As := [.ref (zad V (k0 + 6))]) (rest := []) C0 hZ h1 (fun _ hf => kX6_copy l (zkt7_5 hk0) (zkt7_4 hk0) hf) mRX7_355 vX6_copy (zkt7_5 hk0) rfl rfl hl.1 (Nat.le_of_ble_eq_true rfl) ⟨Nat.le_of_ble_eq_true rfl, Nat.le_of_ble_eq_true rfl⟩ dX7_image_8 ⟨Nat.le_of_ble_eq_true rfl, Nat.le_of_ble_eq_true rfl⟩ (fun _ σ_1 H locs h1 hZ => ?_)
  refine lv_aload_n hx hb dX7_image_11 rfl (lv_at hl 0 rfl) ?_
  refine lv_iconst (v := 1) hx hb dX7_image_12 (by decide) ?_
  refine z_puti C0 hZ h1 hk0 fRX7_40 rfl tyX7_ok nmX7 rfl rfl rfl dX7_image_13 (fun σ_3 H locs h1 hZ => ?_)
  rw [hQ]; exact z_vret C0 hr hlk hZ h1 dX7_image_16
noncomputable def FX7_restore (k0 : Nat) (σ : zS) : Option (Int32 × zS) := if (σ k0 6) = 0 then zgd (0 == 0 || 0 == 1) (some (0, σ)) else zbd (FX6_copy (k0 + 6) (k0 + 15) σ) (fun _ σ_1 => zlet (zup σ_1 k0 9 0) (fun σ_3 => zgd (1 == 0 || 1 == 1) (some (1, σ_3))))
set_option maxHeartbeats 4000000 in
set_option maxRecDepth 100000 in
theorem kX7_restore (l : Launch) {V : zV} {σ : zS} {t0 : Int32 × zS} {k0 : Nat} (hk0 : kd 0 k0 = 7) (h1 : FX7_restore k0 σ = some t0) : zMi l yX7_restore cX7_restore 1 (some .boolean) 3 102 0 V σ t0 [.ref (zad V k0)] := by
  refine zMi_of (by decide) (Nat.le_of_ble_eq_true rfl) ?_
  intro p e s m below meth c A C0 hr hlk hZ ls hl
  generalize ([.ref (zad V k0)] : List Value).toArray = args at C0 ⊢
  obtain ⟨Q, hQ⟩ : ∃ Q, Q = MQ below (zQi 0 V t0 A) args s 0 0 A := ⟨_, rfl⟩
  rw [← hQ]
  have hx := C0.1
  have hb := C0.2.1
  have hl : lv_has ls 1 [(0, .ref (zad V k0))] := hl
  unfold FX7_restore at h1
  refine lv_aload_n hx hb dX7_restore_0 rfl (lv_at hl 0 rfl) ?_
  refine z_geti C0 hZ hk0 fRX7_40 rfl dX7_restore_1 ?_
  refine z_if_ne (tgt := 9) C0 h1 dX7_restore_4 (by decide) (fun h1 => ?_) (fun h1 => ?_)
  · refine lv_aload_n hx hb dX7_restore_9 rfl (lv_at hl 0 rfl) ?_
    refine z_getr C0 hZ hk0 fRX7_33 rfl dX7_restore_10 ?_
    refine lv_aload_n hx hb dX7_restore_13 rfl (lv_at hl 0 rfl) ?_
    refine z_getr C0 hZ hk0 fRX7_37 rfl dX7_restore_14 ?_
    refine z_cVv (As := [.ref (zad V (k0 + 15))]) (rest := []) C0 hZ h1 (fun _ hf => kX6_copy l (zkt7_4 hk0) (zkt7_5 hk0) hf) mRX7_355 vX6_copy (zkt7_4 hk0) rfl rfl hl.1 (Nat.le_of_ble_eq_true rfl) ⟨Nat.le_of_ble_eq_true rfl, Nat.le_of_ble_eq_true rfl⟩ dX7_restore_17 ⟨Nat.le_of_ble_eq_true rfl, Nat.le_of_ble_eq_true rfl⟩ (fun _ σ_1 H locs h1 hZ => ?_)
    refine lv_aload_n hx hb dX7_restore_20 rfl (lv_at hl 0 rfl) ?_
    refine lv_iconst (v := 0) hx hb dX7_restore_21 (by decide) ?_
    refine z_puti C0 hZ h1 hk0 fRX7_56 rfl tyX7_ok nmX7 rfl rfl rfl dX7_restore_22 (fun σ_3 H locs h1 hZ => ?_)
    refine lv_iconst (v := 1) hx hb dX7_restore_25 (by decide) ?_
    rw [hQ]; exact z_zret C0 hr hlk hZ h1 dX7_restore_26
  refine lv_iconst (v := 0) hx hb dX7_restore_7 (by decide) ?_
  rw [hQ]; exact z_zret C0 hr hlk hZ h1 dX7_restore_8
