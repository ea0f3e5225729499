noncomputable def FX8_readPart_b74 (G : zGr)  (σ : zS) : Option (Int32 × zS) := some (0, σ)
noncomputable def FX8_readPart_b56 (G : zGr) (k0 : Nat) (x2 : Int32) (σ : zS) : Option (Int32 × zS) := zbd (FX8_putSign k0 ((-1) - x2) σ) (fun _ σ_1 => if (σ_1 k0 25) = 0 then zbd (FX8_stepOn k0 σ_1) (fun _ σ_3 => FX8_readPart_b74 G  σ_3) else FX8_readPart_b74 G  σ_1)
noncomputable def FX8_readPart (G : zGr) (k0 : Nat) (x1 : Int32) (σ : zS) : Option (Int32 × zS) := if (σ k0 25) = 0 then if (σ k0 21) = 2 then zbd (FX8_readNumber k0 0 9999 σ) (fun r_17 σ_16 => zbd (FX8_putSign k0 r_17 σ_16) (fun _ σ_18 => some (0, σ_18))) else if (σ k0 21) = 1 then zbd (FX8_which k0 (k0 + 2) σ) (fun r_12 σ_11 => zlet r_12 (fun x2_13 => if x2_13 = (-1) then zbd (FX8_wrong k0 3 σ_11) (fun _ σ_14 => FX8_readPart_b56 G k0 x2_13 σ_14) else FX8_readPart_b56 G k0 x2_13 σ_11)) else zbd (FX8_mark k0 40 σ) (fun _ σ_5 => zbd (G 0 k0 (x1 + 1) 0 σ_5) (fun _ σ_7 => zbd (FX8_mark k0 41 σ_7) (fun _ σ_9 => some (0, σ_9)))) else some (0, σ)
set_option maxHeartbeats 4000000 in
set_option maxRecDepth 100000 in
theorem kX8_readPart (l : Launch) {nd : Nat} {G : zGr} (ih : zPGY l nd G) {V : zV} {σ : zS} {t0 : Int32 × zS} {k0 : Nat} {x1 : Int32} (hk0 : kd 1 k0 = 8) (h1 : FX8_readPart G k0 x1 σ = some t0) : zMv l yX8_readPart cX8_readPart 3 (nd + 1 + 10) ((nd + 1) * 40 + 400) 1 V σ t0 [.ref (zad V k0), .int x1] := by
  refine zMv_of (by decide) (Nat.le_of_ble_eq_true rfl) ?_
  intro p e s m below meth c A C0 hr hlk hZ ls hl
  generalize ([.ref (zad V k0), .int x1] : List Value).toArray = args at C0 ⊢
  obtain ⟨Q, hQ⟩ : ∃ Q, Q = MQ below (zQv 1 V t0 A) args s 0 0 A := ⟨_, rfl⟩
  rw [← hQ]
  have hx := C0.1
  have hb := C0.2.1
  have hl : lv_has ls 3 [(0, .ref (zad V k0)), (1, .int x1)] := hl
  unfold FX8_readPart at h1
  have J74 : ∀  (σ : zS) (H : Heap) (locs : List Loc) (ls : Array Slot), zZ 1 V A σ s H locs → lv_has ls 3 [] → FX8_readPart_b74 G  σ = some t0 → W p l e (zrm (nd + 1 + 10) ((nd + 1) * 40 + 400)) s m args below meth c H locs 0 0 Q (F0 m 74 ls []) := by
    intro  σ H locs ls  hZ hl h1
    unfold FX8_readPart_b74 at h1
    rw [hQ]; exact z_vret C0 hr hlk hZ h1 dX8_readPart_74
  have J56 : ∀ (x2 : Int32) (σ : zS) (H : Heap) (locs : List Loc) (ls : Array Slot), zZ 1 V A σ s H locs → lv_has ls 3 [(0, .ref (zad V k0)), (2, .int x2)] → FX8_readPart_b56 G k0 x2 σ = some t0 → W p l e (zrm (nd + 1 + 10) ((nd + 1) * 40 + 400)) s m args below meth c H locs 0 0 Q (F0 m 56 ls []) := by
    intro x2 σ H locs ls  hZ hl h1
    unfold FX8_readPart_b56 at h1
    refine lv_aload_n hx hb dX8_readPart_56 rfl (lv_at hl 0 rfl) ?_
    refine lv_iconst (v := (-1)) hx hb dX8_readPart_57 (by decide) ?_
    refine lv_iload_n hx hb dX8_readPart_58 rfl (lv_at hl 1 rfl) ?_
    refine lv_isub hx hb dX8_readPart_59 ?_
    refine z_cVv (As := [.int ((-1) - x2)]) (rest := []) C0 hZ h1 (fun _ hf => kX8_putSign l hk0 hf) mRX8_244 vX8_putSign hk0 rfl rfl hl.1 (Nat.le_of_ble_eq_true rfl) (zRo (by decide) (by decide)) dX8_readPart_60 ⟨Nat.le_of_ble_eq_true rfl, Nat.le_of_ble_eq_true rfl⟩ (fun _ σ_1 H locs h1 hZ => ?_)
    refine lv_aload_n hx hb dX8_readPart_63 rfl (lv_at hl 0 rfl) ?_
    refine z_geti C0 hZ hk0 fRX8_210 rfl dX8_readPart_64 ?_
    refine z_if_ne (tgt := 74) C0 h1 dX8_readPart_67 (by decide) (fun h1 => ?_) (fun h1 => ?_)
    · exact J74  _ _ _ _  hZ (lv_sub hl [] rfl) h1
    refine lv_aload_n hx hb dX8_readPart_70 rfl (lv_at hl 0 rfl) ?_
    refine z_cVv (As := []) (rest := []) C0 hZ h1 (fun _ hf => kX8_stepOn l hk0 hf) mRX8_235 vX8_stepOn hk0 rfl rfl hl.1 (Nat.le_of_ble_eq_true rfl) (zRo (by decide) (by decide)) dX8_readPart_71 ⟨Nat.le_of_ble_eq_true rfl, Nat.le_of_ble_eq_true rfl⟩ (fun _ σ_3 H locs h1 hZ => ?_)
    exact J74  _ _ _ _  hZ (lv_sub hl [] rfl) h1
  refine lv_aload_n hx hb dX8_readPart_0 rfl (lv_at hl 0 rfl) ?_
  refine z_geti C0 hZ hk0 fRX8_210 rfl dX8_readPart_1 ?_
  refine z_if_eq (tgt := 8) C0 h1 dX8_readPart_4 (by decide) (fun h1 => ?_) (fun h1 => ?_)
  · refine lv_aload_n hx hb dX8_readPart_8 rfl (lv_at hl 0 rfl) ?_
    refine z_geti C0 hZ hk0 fRX8_184 rfl dX8_readPart_9 ?_
    refine lv_iconst (v := 2) hx hb dX8_readPart_12 (by decide) ?_
    refine z_ic_ne (tgt := 29) C0 h1 dX8_readPart_13 (by decide) (fun h1 => ?_) (fun h1 => ?_)
    · refine lv_aload_n hx hb dX8_readPart_29 rfl (lv_at hl 0 rfl) ?_
      refine z_geti C0 hZ hk0 fRX8_184 rfl dX8_readPart_30 ?_
      refine lv_iconst (v := 1) hx hb dX8_readPart_33 (by decide) ?_
      refine z_ic_ne (tgt := 75) C0 h1 dX8_readPart_34 (by decide) (fun h1 => ?_) (fun h1 => ?_)
      · refine lv_aload_n hx hb dX8_readPart_75 rfl (lv_at hl 0 rfl) ?_
        refine lv_bipush (v := 40) hx hb dX8_readPart_76 (by decide) ?_
        refine z_cVv (As := [.int 40]) (rest := []) C0 hZ h1 (fun _ hf => kX8_mark l hk0 hf) mRX8_251 vX8_mark hk0 rfl rfl hl.1 (Nat.le_of_ble_eq_true rfl) (zRo (by decide) (by decide)) dX8_readPart_78 ⟨Nat.le_of_ble_eq_true rfl, Nat.le_of_ble_eq_true rfl⟩ (fun _ σ_5 H locs h1 hZ => ?_)
        refine lv_aload_n hx hb dX8_readPart_81 rfl (lv_at hl 0 rfl) ?_
        refine lv_iload_n hx hb dX8_readPart_82 rfl (lv_at hl 1 rfl) ?_
        refine lv_iconst (v := 1) hx hb dX8_readPart_83 (by decide) ?_
        refine lv_iadd hx hb dX8_readPart_84 ?_
        refine z_cVv (As := [.int (x1 + 1)]) (rest := []) C0 hZ h1 (fun _ hf => zGGY_0 ih hk0 hf) mRX8_254 vX8_readExpression hk0 rfl rfl hl.1 (Nat.le_of_ble_eq_true rfl) (zRs (by decide)) dX8_readPart_85 ⟨Nat.le_of_ble_eq_true rfl, Nat.le_of_ble_eq_true rfl⟩ (fun _ σ_7 H locs h1 hZ => ?_)
        refine lv_aload_n hx hb dX8_readPart_88 rfl (lv_at hl 0 rfl) ?_
        refine lv_bipush (v := 41) hx hb dX8_readPart_89 (by decide) ?_
        refine z_cVv (As := [.int 41]) (rest := []) C0 hZ h1 (fun _ hf => kX8_mark l hk0 hf) mRX8_251 vX8_mark hk0 rfl rfl hl.1 (Nat.le_of_ble_eq_true rfl) (zRo (by decide) (by decide)) dX8_readPart_91 ⟨Nat.le_of_ble_eq_true rfl, Nat.le_of_ble_eq_true rfl⟩ (fun _ σ_9 H locs h1 hZ => ?_)
        rw [hQ]; exact z_vret C0 hr hlk hZ h1 dX8_readPart_94
      refine lv_aload_n hx hb dX8_readPart_37 rfl (lv_at hl 0 rfl) ?_
      refine lv_aload_n hx hb dX8_readPart_38 rfl (lv_at hl 0 rfl) ?_
      refine z_getr C0 hZ hk0 fRX8_37 rfl dX8_readPart_39 ?_
      refine z_cVi (As := [.ref (zad V (k0 + 2))]) (rest := []) C0 hZ h1 (fun _ hf => kX8_which l hk0 (zkt8_1 hk0) hf) mRX8_247 vX8_which hk0 rfl rfl hl.1 (Nat.le_of_ble_eq_true rfl) (zRo (by decide) (by decide)) dX8_readPart_42 ⟨Nat.le_of_ble_eq_true rfl, Nat.le_of_ble_eq_true rfl⟩ (fun r_12 σ_11 H locs h1 hZ => ?_)
      refine z_istore_n C0 h1 hl (fun x2_13 => [(2, .int x2_13), (0, .ref (zad V k0)), (1, .int x1)]) dX8_readPart_45 rfl (by decide) (fun _ => rfl) (fun x2_13 ls h1 hl => ?_)
      refine lv_iload_n hx hb dX8_readPart_46 rfl (lv_at hl 0 rfl) ?_
      refine lv_iconst (v := (-1)) hx hb dX8_readPart_47 (by decide) ?_
      refine z_ic_ne (tgt := 56) C0 h1 dX8_readPart_48 (by decide) (fun h1 => ?_) (fun h1 => ?_)
      · exact J56 x2_13 _ _ _ _  hZ (lv_sub hl [1, 0] rfl) h1
      refine lv_aload_n hx hb dX8_readPart_51 rfl (lv_at hl 1 rfl) ?_
      refine lv_iconst (v := 3) hx hb dX8_readPart_52 (by decide) ?_
      refine z_cVv (As := [.int 3]) (rest := []) C0 hZ h1 (fun _ hf => kX8_wrong l hk0 hf) mRX8_231 vX8_wrong hk0 rfl rfl hl.1 (Nat.le_of_ble_eq_true rfl) (zRo (by decide) (by decide)) dX8_readPart_53 ⟨Nat.le_of_ble_eq_true rfl, Nat.le_of_ble_eq_true rfl⟩ (fun _ σ_14 H locs h1 hZ => ?_)
      exact J56 x2_13 _ _ _ _  hZ (lv_sub hl [1, 0] rfl) h1
    refine lv_aload_n hx hb dX8_readPart_16 rfl (lv_at hl 0 rfl) ?_
    refine lv_aload_n hx hb dX8_readPart_17 rfl (lv_at hl 0 rfl) ?_
    refine lv_iconst (v := 0) hx hb dX8_readPart_18 (by decide) ?_
    refine lv_sipush (v := 9999) hx hb dX8_readPart_19 (by decide) ?_
    refine z_cVi (As := [.int 0, .int 9999]) (rest := [.ref (zad V k0)]) C0 hZ h1 (fun _ hf => kX8_readNumber l hk0 hf) mRX8_241 vX8_readNumber hk0 rfl rfl hl.1 (Nat.le_of_ble_eq_true rfl) (zRo (by decide) (by decide)) dX8_readPart_22 ⟨Nat.le_of_ble_eq_true rfl, Nat.le_of_ble_eq_true rfl⟩ (fun r_17 σ_16 H locs h1 hZ => ?_)
    refine z_cVv (As := [.int r_17]) (rest := []) C0 hZ h1 (fun _ hf => kX8_putSign l hk0 hf) mRX8_244 vX8_putSign hk0 rfl rfl hl.1 (Nat.le_of_ble_eq_true rfl) (zRo (by decide) (by decide)) dX8_readPart_25 ⟨Nat.le_of_ble_eq_true rfl, Nat.le_of_ble_eq_true rfl⟩ (fun _ σ_18 H locs h1 hZ => ?_)
    rw [hQ]; exact z_vret C0 hr hlk hZ h1 dX8_readPart_28
  rw [hQ]; exact z_vret C0 hr hlk hZ h1 dX8_readPart_7
