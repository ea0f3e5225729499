noncomputable def FX3_readNot_b55 (G : zGr)  (σ : zS) : Option (Int32 × zS) := some (0, σ)
noncomputable def FX3_readNot (G : zGr) (k0 : Nat) (x1 : Int32) (x2 : Int32) (σ : zS) : Option (Int32 × zS) := zbd (FX3_isWord k0 13 σ) (fun r_2 σ_1 => if r_2 = 0 then zbd (G 3 k0 x1 0 σ_1) (fun _ σ_12 => FX3_readNot_b55 G  σ_12) else if x2 < 6 then zbd (FX3_readToken k0 σ_1) (fun _ σ_3 => zbd (G 2 k0 x1 (x2 + 1) σ_3) (fun _ σ_5 => zgd (kd 0 (σ_5 k0 1).toNatClampNeg == 5) (zlet (σ_5 k0 1).toNatClampNeg (fun q_7 => zbd (FX4_add (q_7 + 14) (-12) σ_5) (fun _ σ_8 => FX3_readNot_b55 G  σ_8))))) else zbd (FX3_fail k0 2 σ_1) (fun _ σ_10 => FX3_readNot_b55 G  σ_10))
set_option maxHeartbeats 4000000 in
set_option maxRecDepth 100000 in
theorem kX3_readNot (l : Launch) {nd : Nat} {G : zGr} (ih : zPGX l nd G) {V : zV} {σ : zS} {t0 : Int32 × zS} {k0 : Nat} {x1 : Int32} {x2 : Int32} (hk0 : kd 0 k0 = 3) (h1 : FX3_readNot G k0 x1 x2 σ = some t0) : zMv l yX3_readNot cX3_readNot 3 (nd + 1 + 10) ((nd + 1) * 40 + 400) 0 V σ t0 [.ref (zad V k0), .int x1, .int x2] := by
  refine zMv_of (by decide) (Nat.le_of_ble_eq_true rfl) ?_
  intro p e s m below meth c A C0 hr hlk hZ ls hl
  generalize ([.ref (zad V k0), .int x1, .int x2] : List Value).toArray = args at C0 ⊢
  obtain ⟨Q, hQ⟩ : ∃ Q, Q = MQ below (zQv 0 V t0 A) args s 0 0 A := ⟨_, rfl⟩
  rw [← hQ]
  have hx := C0.1
  have hb := C0.2.1
  have hl : lv_has ls 3 [(0, .ref (zad V k0)), (1, .int x1), (2, .int x2)] := hl
  unfold FX3_readNot at h1
  have J55 : ∀  (σ : zS) (H : Heap) (locs : List Loc) (ls : Array Slot), zZ 0 V A σ s H locs → lv_has ls 3 [] → FX3_readNot_b55 G  σ = some t0 → W p l e (zrm (nd + 1 + 10) ((nd + 1) * 40 + 400)) s m args below meth c H locs 0 0 Q (F0 m 55 ls []) := by
    intro  σ H locs ls  hZ hl h1
    unfold FX3_readNot_b55 at h1
    rw [hQ]; exact z_vret C0 hr hlk hZ h1 dX3_readNot_55
  refine lv_aload_n hx hb dX3_readNot_0 rfl (lv_at hl 0 rfl) ?_
  refine z_ldcS (i := 13) (tx := "not") C0 hZ (by decide +kernel) dX3_readNot_1 ?_
  refine z_cVi (As := [.ref (V.2.2.2.1 13)]) (rest := []) C0 hZ h1 (fun _ hf => kX3_isWord l hk0 (by decide) hf) mRX3_97 vX3_isWord hk0 rfl rfl hl.1 (Nat.le_of_ble_eq_true rfl) (zRo (by decide) (by decide)) dX3_readNot_3 ⟨Nat.le_of_ble_eq_true rfl, Nat.le_of_ble_eq_true rfl⟩ (fun r_2 σ_1 H locs h1 hZ => ?_)
  refine z_if_ne (tgt := 17) C0 h1 dX3_readNot_6 (by decide) (fun h1 => ?_) (fun h1 => ?_)
  · refine lv_iload_n hx hb dX3_readNot_17 rfl (lv_at hl 2 rfl) ?_
    refine lv_bipush (v := 6) hx hb dX3_readNot_18 (by decide) ?_
    refine z_ic_lt (tgt := 31) C0 h1 dX3_readNot_20 (by decide) (fun h1 => ?_) (fun h1 => ?_)
    · refine lv_aload_n hx hb dX3_readNot_31 rfl (lv_at hl 0 rfl) ?_
      refine z_cVv (As := []) (rest := []) C0 hZ h1 (fun _ hf => kX3_readToken l hk0 hf) mRX3_50 vX3_readToken hk0 rfl rfl hl.1 (Nat.le_of_ble_eq_true rfl) (zRo (by decide) (by decide)) dX3_readNot_32 ⟨Nat.le_of_ble_eq_true rfl, Nat.le_of_ble_eq_true rfl⟩ (fun _ σ_3 H locs h1 hZ => ?_)
      refine lv_aload_n hx hb dX3_readNot_35 rfl (lv_at hl 0 rfl) ?_
      refine lv_iload_n hx hb dX3_readNot_36 rfl (lv_at hl 1 rfl) ?_
      refine lv_iload_n hx hb dX3_readNot_37 rfl (lv_at hl 2 rfl) ?_
      refine lv_iconst (v := 1) hx hb dX3_readNot_38 (by decide) ?_
      refine lv_iadd hx hb dX3_readNot_39 ?_
      refine z_cVv (As := [.int x1, .int (x2 + 1)]) (rest := []) C0 hZ h1 (fun _ hf => zGGX_2 ih hk0 hf) mRX3_250 vX3_readNot hk0 rfl rfl hl.1 (Nat.le_of_ble_eq_true rfl) (zRs (by decide)) dX3_readNot_40 ⟨Nat.le_of_ble_eq_true rfl, Nat.le_of_ble_eq_true rfl⟩ (fun _ σ_5 H locs h1 hZ => ?_)
      refine lv_aload_n hx hb dX3_readNot_43 rfl (lv_at hl 0 rfl) ?_
      refine z_getm C0 hZ h1 hk0 fRX3_18 rfl dX3_readNot_44 (fun q_7 hq_7 h1 => ?_)
      refine z_getr C0 hZ hq_7 fRX3_229 rfl dX3_readNot_47 ?_
      refine lv_bipush (v := (-12)) hx hb dX3_readNot_50 (by decide) ?_
      refine z_cVv (As := [.int (-12)]) (rest := []) C0 hZ h1 (fun _ hf => kX4_add l (zkt5_2 hq_7) hf) mRX3_247 vX4_add (zkt5_2 hq_7) rfl rfl hl.1 (Nat.le_of_ble_eq_true rfl) (zRo (by decide) (by decide)) dX3_readNot_52 ⟨Nat.le_of_ble_eq_true rfl, Nat.le_of_ble_eq_true rfl⟩ (fun _ σ_8 H locs h1 hZ => ?_)
      exact J55  _ _ _ _  hZ (lv_sub hl [] rfl) h1
    refine lv_aload_n hx hb dX3_readNot_23 rfl (lv_at hl 0 rfl) ?_
    refine lv_iconst (v := 2) hx hb dX3_readNot_24 (by decide) ?_
    refine z_cVv (As := [.int 2]) (rest := []) C0 hZ h1 (fun _ hf => kX3_fail l hk0 hf) mRX3_136 vX3_fail hk0 rfl rfl hl.1 (Nat.le_of_ble_eq_true rfl) (zRo (by decide) (by decide)) dX3_readNot_25 ⟨Nat.le_of_ble_eq_true rfl, Nat.le_of_ble_eq_true rfl⟩ (fun _ σ_10 H locs h1 hZ => ?_)
    refine lv_goto (tgt := 55) hx hb dX3_readNot_28 (by decide) ?_
    exact J55  _ _ _ _  hZ (lv_sub hl [] rfl) h1
  refine lv_aload_n hx hb dX3_readNot_9 rfl (lv_at hl 0 rfl) ?_
  refine lv_iload_n hx hb dX3_readNot_10 rfl (lv_at hl 1 rfl) ?_
  refine z_cVv (As := [.int x1]) (rest := []) C0 hZ h1 (fun _ hf => zGGX_3 ih hk0 hf) mRX3_257 vX3_readTest hk0 rfl rfl hl.1 (Nat.le_of_ble_eq_true rfl) (zRs (by decide)) dX3_readNot_11 ⟨Nat.le_of_ble_eq_true rfl, Nat.le_of_ble_eq_true rfl⟩ (fun _ σ_12 H locs h1 hZ => ?_)
  refine lv_goto (tgt := 55) hx hb dX3_readNot_14 (by decide) ?_
  exact J55  _ _ _ _  hZ (lv_sub hl [] rfl) h1
