noncomputable def FX3_readTest_b67 (G : zGr)  (σ : zS) : Option (Int32 × zS) := some (0, σ)
noncomputable def FX3_readTest_b46 (G : zGr) (k0 : Nat) (x1 : Int32) (y0 : Int32) (σ : zS) : Option (Int32 × zS) := zlet y0 (fun x2_1 => zbd (FX3_readToken k0 σ) (fun _ σ_2 => zbd (G 4 k0 x1 0 σ_2) (fun _ σ_4 => zgd (kd 0 (σ_4 k0 1).toNatClampNeg == 5) (zlet (σ_4 k0 1).toNatClampNeg (fun q_6 => zbd (FX4_add (q_6 + 14) x2_1 σ_4) (fun _ σ_7 => FX3_readTest_b67 G  σ_7))))))
noncomputable def FX3_readTest_b30 (G : zGr) (k0 : Nat) (x1 : Int32) (σ : zS) : Option (Int32 × zS) := zbd (FX3_isSign k0 60 σ) (fun r_10 σ_9 => if r_10 = 0 then FX3_readTest_b46 G k0 x1 (-14) σ_9 else FX3_readTest_b46 G k0 x1 (-13) σ_9)
noncomputable def FX3_readTest (G : zGr) (k0 : Nat) (x1 : Int32) (σ : zS) : Option (Int32 × zS) := zbd (G 4 k0 x1 0 σ) (fun _ σ_11 => if (σ_11 k0 8) = 0 then zbd (FX3_isSign k0 60 σ_11) (fun r_14 σ_13 => if r_14 = 0 then zbd (FX3_isSign k0 61 σ_13) (fun r_16 σ_15 => if r_16 = 0 then FX3_readTest_b67 G  σ_15 else FX3_readTest_b30 G k0 x1 σ_15) else FX3_readTest_b30 G k0 x1 σ_13) else FX3_readTest_b67 G  σ_11)
set_option maxHeartbeats 4000000 in
set_option maxRecDepth 100000 in
theorem kX3_readTest (l : Launch) {nd : Nat} {G : zGr} (ih : zPGX l nd G) {V : zV} {σ : zS} {t0 : Int32 × zS} {k0 : Nat} {x1 : Int32} (hk0 : kd 0 k0 = 3) (h1 : FX3_readTest G k0 x1 σ = some t0) : zMv l yX3_readTest cX3_readTest 3 (nd + 1 + 10) ((nd + 1) * 40 + 400) 0 V σ t0 [.ref (zad V k0), .int x1] := by
  refine zMv_of (by decide) (Nat.le_of_ble_eq_true rfl) ?_
  intro p e s m below meth c A C0 hr hlk hZ ls hl
  generalize ([.ref (zad V k0), .int x1] : List Value).toArray = args at C0 ⊢
  obtain ⟨Q, hQ⟩ : ∃ Q, Q = MQ below (zQv 0 V t0 A) args s 0 0 A := ⟨_, rfl⟩
  rw [← hQ]
  have hx := C0.1
  have hb := C0.2.1
  have hl : lv_has ls 3 [(0, .ref (zad V k0)), (1, .int x1)] := hl
  unfold FX3_readTest at h1
  have J67 : ∀  (σ : zS) (H : Heap) (locs : List Loc) (ls : Array Slot), zZ 0 V A σ s H locs → lv_has ls 3 [] → FX3_readTest_b67 G  σ = some t0 → W p l e (zrm (nd + 1 + 10) ((nd + 1) * 40 + 400)) s m args below meth c H locs 0 0 Q (F0 m 67 ls []) := by
    intro  σ H locs ls  hZ hl h1
    unfold FX3_readTest_b67 at h1
    rw [hQ]; exact z_vret C0 hr hlk hZ h1 dX3_readTest_67
  have J46 : ∀ (y0 : Int32) (σ : zS) (H : Heap) (locs : List Loc) (ls : Array Slot), zZ 0 V A σ s H locs → lv_has ls 3 [(0, .ref (zad V k0)), (1, .int x1)] → FX3_readTest_b46 G k0 x1 y0 σ = some t0 → W p l e (zrm (nd + 1 + 10) ((nd + 1) * 40 + 400)) s m args below meth c H locs 0 0 Q (F0 m 46 ls [.int y0]) := by
    intro y0 σ H locs ls  hZ hl h1
    unfold FX3_readTest_b46 at h1
    refine z_istore_n C0 h1 hl (fun x2_1 => [(2, .int x2_1), (0, .ref (zad V k0)), (1, .int x1)]) dX3_readTest_46 rfl (by decide) (fun _ => rfl) (fun x2_1 ls h1 hl => ?_)
    refine lv_aload_n hx hb dX3_readTest_47 rfl (lv_at hl 1 rfl) ?_
    refine z_cVv (As := []) (rest := []) C0 hZ h1 (fun _ hf => kX3_readToken l hk0 hf) mRX3_50 vX3_readToken hk0 rfl rfl hl.1 (Nat.le_of_ble_eq_true rfl) (zRo (by decide) (by decide)) dX3_readTest_48 ⟨Nat.le_of_ble_eq_true rfl, Nat.le_of_ble_eq_true rfl⟩ (fun _ σ_2 H locs h1 hZ => ?_)
    refine lv_aload_n hx hb dX3_readTest_51 rfl (lv_at hl 1 rfl) ?_
    refine lv_iload_n hx hb dX3_readTest_52 rfl (lv_at hl 2 rfl) ?_
    refine z_cVv (As := [.int x1]) (rest := []) C0 hZ h1 (fun _ hf => zGGX_4 ih hk0 hf) mRX3_260 vX3_readSum hk0 rfl rfl hl.1 (Nat.le_of_ble_eq_true rfl) (zRs (by decide)) dX3_readTest_53 ⟨Nat.le_of_ble_eq_true rfl, Nat.le_of_ble_eq_true rfl⟩ (fun _ σ_4 H locs h1 hZ => ?_)
    refine lv_aload_n hx hb dX3_readTest_56 rfl (lv_at hl 1 rfl) ?_
    refine z_getm C0 hZ h1 hk0 fRX3_18 rfl dX3_readTest_57 (fun q_6 hq_6 h1 => ?_)
    refine z_getr C0 hZ hq_6 fRX3_229 rfl dX3_readTest_60 ?_
    refine lv_iload_n hx hb dX3_readTest_63 rfl (lv_at hl 0 rfl) ?_
    refine z_cVv (As := [.int x2_1]) (rest := []) C0 hZ h1 (fun _ hf => kX4_add l (zkt5_2 hq_6) hf) mRX3_247 vX4_add (zkt5_2 hq_6) rfl rfl hl.1 (Nat.le_of_ble_eq_true rfl) (zRo (by decide) (by decide)) dX3_readTest_64 ⟨Nat.le_of_ble_eq_true rfl, Nat.le_of_ble_eq_true rfl⟩ (fun _ σ_7 H locs h1 hZ => ?_)
    exact J67  _ _ _ _  hZ (lv_sub hl [] rfl) h1
  have J30 : ∀  (σ : zS) (H : Heap) (locs : List Loc) (ls : Array Slot), zZ 0 V A σ s H locs → lv_has ls 3 [(0, .ref (zad V k0)), (1, .int x1)] → FX3_readTest_b30 G k0 x1 σ = some t0 → W p l e (zrm (nd + 1 + 10) ((nd + 1) * 40 + 400)) s m args below meth c H locs 0 0 Q (F0 m 30 ls []) := by
    intro  σ H locs ls  hZ hl h1
    unfold FX3_readTest_b30 at h1
    refine lv_aload_n hx hb dX3_readTest_30 rfl (lv_at hl 0 rfl) ?_
    refine lv_bipush (v := 60) hx hb dX3_readTest_31 (by decide) ?_
    refine z_cVi (As := [.int 60]) (rest := []) C0 hZ h1 (fun _ hf => kX3_isSign l hk0 hf) mRX3_150 vX3_isSign hk0 rfl rfl hl.1 (Nat.le_of_ble_eq_true rfl) (zRo (by decide) (by decide)) dX3_readTest_33 ⟨Nat.le_of_ble_eq_true rfl, Nat.le_of_ble_eq_true rfl⟩ (fun r_10 σ_9 H locs h1 hZ => ?_)
    refine z_if_eq (tgt := 44) C0 h1 dX3_readTest_36 (by decide) (fun h1 => ?_) (fun h1 => ?_)
    · refine lv_bipush (v := (-14)) hx hb dX3_readTest_44 (by decide) ?_
      exact J46 (-14) _ _ _ _  hZ (lv_sub hl [0, 1] rfl) h1
    refine lv_bipush (v := (-13)) hx hb dX3_readTest_39 (by decide) ?_
    refine lv_goto (tgt := 46) hx hb dX3_readTest_41 (by decide) ?_
    exact J46 (-13) _ _ _ _  hZ (lv_sub hl [0, 1] rfl) h1
  refine lv_aload_n hx hb dX3_readTest_0 rfl (lv_at hl 0 rfl) ?_
  refine lv_iload_n hx hb dX3_readTest_1 rfl (lv_at hl 1 rfl) ?_
  refine z_cVv (As := [.int x1]) (rest := []) C0 hZ h1 (fun _ hf => zGGX_4 ih hk0 hf) mRX3_260 vX3_readSum hk0 rfl rfl hl.1 (Nat.le_of_ble_eq_true rfl) (zRs (by decide)) dX3_readTest_2 ⟨Nat.le_of_ble_eq_true rfl, Nat.le_of_ble_eq_true rfl⟩ (fun _ σ_11 H locs h1 hZ => ?_)
  refine lv_aload_n hx hb dX3_readTest_5 rfl (lv_at hl 0 rfl) ?_
  refine z_geti C0 hZ hk0 fRX3_41 rfl dX3_readTest_6 ?_
  refine z_if_ne (tgt := 67) C0 h1 dX3_readTest_9 (by decide) (fun h1 => ?_) (fun h1 => ?_)
  · exact J67  _ _ _ _  hZ (lv_sub hl [] rfl) h1
  refine lv_aload_n hx hb dX3_readTest_12 rfl (lv_at hl 0 rfl) ?_
  refine lv_bipush (v := 60) hx hb dX3_readTest_13 (by decide) ?_
  refine z_cVi (As := [.int 60]) (rest := []) C0 hZ h1 (fun _ hf => kX3_isSign l hk0 hf) mRX3_150 vX3_isSign hk0 rfl rfl hl.1 (Nat.le_of_ble_eq_true rfl) (zRo (by decide) (by decide)) dX3_readTest_15 ⟨Nat.le_of_ble_eq_true rfl, Nat.le_of_ble_eq_true rfl⟩ (fun r_14 σ_13 H locs h1 hZ => ?_)
  refine z_if_ne (tgt := 30) C0 h1 dX3_readTest_18 (by decide) (fun h1 => ?_) (fun h1 => ?_)
  · exact J30  _ _ _ _  hZ (lv_sub hl [0, 1] rfl) h1
  refine lv_aload_n hx hb dX3_readTest_21 rfl (lv_at hl 0 rfl) ?_
  refine lv_bipush (v := 61) hx hb dX3_readTest_22 (by decide) ?_
  refine z_cVi (As := [.int 61]) (rest := []) C0 hZ h1 (fun _ hf => kX3_isSign l hk0 hf) mRX3_150 vX3_isSign hk0 rfl rfl hl.1 (Nat.le_of_ble_eq_true rfl) (zRo (by decide) (by decide)) dX3_readTest_24 ⟨Nat.le_of_ble_eq_true rfl, Nat.le_of_ble_eq_true rfl⟩ (fun r_16 σ_15 H locs h1 hZ => ?_)
  refine z_if_eq (tgt := 67) C0 h1 dX3_readTest_27 (by decide) (fun h1 => ?_) (fun h1 => ?_)
  · exact J67  _ _ _ _  hZ (lv_sub hl [] rfl) h1
  exact J30  _ _ _ _  hZ (lv_sub hl [0, 1] rfl) h1
