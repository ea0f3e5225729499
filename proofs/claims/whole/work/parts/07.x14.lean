noncomputable def FX3_readPart_b82 (G : zGr)  (σ : zS) : Option (Int32 × zS) := some (0, σ)
noncomputable def FX3_readPart (G : zGr) (k0 : Nat) (x1 : Int32) (σ : zS) : Option (Int32 × zS) := if (σ k0 3) = 2 then zgd (kd 0 (σ k0 1).toNatClampNeg == 5) (zlet (σ k0 1).toNatClampNeg (fun q_15 => zbd (FX3_readNumber k0 0 9999 σ) (fun r_17 σ_16 => zbd (FX4_add (q_15 + 14) r_17 σ_16) (fun _ σ_18 => FX3_readPart_b82 G  σ_18)))) else if (σ k0 3) = 1 then zbd (FX3_valueTold k0 σ) (fun r_12 σ_11 => zbd (FX3_readValue k0 r_12 σ_11) (fun _ σ_13 => FX3_readPart_b82 G  σ_13)) else zbd (FX3_isSign k0 40 σ) (fun r_2 σ_1 => if r_2 = 0 then zbd (FX3_fail k0 1 σ_1) (fun _ σ_3 => FX3_readPart_b82 G  σ_3) else zbd (FX3_readToken k0 σ_1) (fun _ σ_5 => zbd (G 0 k0 (x1 + 1) 0 σ_5) (fun _ σ_7 => zbd (FX3_readSign k0 41 σ_7) (fun _ σ_9 => FX3_readPart_b82 G  σ_9))))
set_option maxHeartbeats 4000000 in
set_option maxRecDepth 100000 in
theorem kX3_readPart (l : Launch) {nd : Nat} {G : zGr} (ih : zPGX l nd G) {V : zV} {σ : zS} {t0 : Int32 × zS} {k0 : Nat} {x1 : Int32} (hk0 : kd 0 k0 = 3) (h1 : FX3_readPart G k0 x1 σ = some t0) : zMv l yX3_readPart cX3_readPart 2 (nd + 1 + 10) ((nd + 1) * 40 + 400) 0 V σ t0 [.ref (zad V k0), .int x1] := by
  refine zMv_of (by decide) (Nat.le_of_ble_eq_true rfl) ?_
  intro p e s m below meth c A C0 hr hlk hZ ls hl
  generalize ([.ref (zad V k0), .int x1] : List Value).toArray = args at C0 ⊢
  obtain ⟨Q, hQ⟩ : ∃ Q, Q = MQ below (zQv 0 V t0 A) args s 0 0 A := ⟨_, rfl⟩
  rw [← hQ]
  have hx := C0.1
  have hb := C0.2.1
  have hl : lv_has ls 2 [(0, .ref (zad V k0)), (1, .int x1)] := hl
  unfold FX3_readPart at h1
  have J82 : ∀  (σ : zS) (H : Heap) (locs : List Loc) (ls : Array Slot), zZ 0 V A σ s H locs → lv_has ls 2 [] → FX3_readPart_b82 G  σ = some t0 → W p l e (zrm (nd + 1 + 10) ((nd + 1) * 40 + 400)) s m args below meth c H locs 0 0 Q (F0 m 82 ls []) := by
    intro  σ H locs ls  hZ hl h1
    unfold FX3_readPart_b82 at h1
    rw [hQ]; exact z_vret C0 hr hlk hZ h1 dX3_readPart_82
  refine lv_aload_n hx hb dX3_readPart_0 rfl (lv_at hl 0 rfl) ?_
  refine z_geti C0 hZ hk0 fRX3_26 rfl dX3_readPart_1 ?_
  refine lv_iconst (v := 2) hx hb dX3_readPart_4 (by decide) ?_
  refine z_ic_ne (tgt := 29) C0 h1 dX3_readPart_5 (by decide) (fun h1 => ?_) (fun h1 => ?_)
  · refine lv_aload_n hx hb dX3_readPart_29 rfl (lv_at hl 0 rfl) ?_
    refine z_geti C0 hZ hk0 fRX3_26 rfl dX3_readPart_30 ?_
    refine lv_iconst (v := 1) hx hb dX3_readPart_33 (by decide) ?_
    refine z_ic_ne (tgt := 48) C0 h1 dX3_readPart_34 (by decide) (fun h1 => ?_) (fun h1 => ?_)
    · refine lv_aload_n hx hb dX3_readPart_48 rfl (lv_at hl 0 rfl) ?_
      refine lv_bipush (v := 40) hx hb dX3_readPart_49 (by decide) ?_
      refine z_cVi (As := [.int 40]) (rest := []) C0 hZ h1 (fun _ hf => kX3_isSign l hk0 hf) mRX3_150 vX3_isSign hk0 rfl rfl hl.1 (Nat.le_of_ble_eq_true rfl) (zRo (by decide) (by decide)) dX3_readPart_51 ⟨Nat.le_of_ble_eq_true rfl, Nat.le_of_ble_eq_true rfl⟩ (fun r_2 σ_1 H locs h1 hZ => ?_)
      refine z_if_eq (tgt := 77) C0 h1 dX3_readPart_54 (by decide) (fun h1 => ?_) (fun h1 => ?_)
      · refine lv_aload_n hx hb dX3_readPart_77 rfl (lv_at hl 0 rfl) ?_
        refine lv_iconst (v := 1) hx hb dX3_readPart_78 (by decide) ?_
        refine z_cVv (As := [.int 1]) (rest := []) C0 hZ h1 (fun _ hf => kX3_fail l hk0 hf) mRX3_136 vX3_fail hk0 rfl rfl hl.1 (Nat.le_of_ble_eq_true rfl) (zRo (by decide) (by decide)) dX3_readPart_79 ⟨Nat.le_of_ble_eq_true rfl, Nat.le_of_ble_eq_true rfl⟩ (fun _ σ_3 H locs h1 hZ => ?_)
        exact J82  _ _ _ _  hZ (lv_sub hl [] rfl) h1
      refine lv_aload_n hx hb dX3_readPart_57 rfl (lv_at hl 0 rfl) ?_
      refine z_cVv (As := []) (rest := []) C0 hZ h1 (fun _ hf => kX3_readToken l hk0 hf) mRX3_50 vX3_readToken hk0 rfl rfl hl.1 (Nat.le_of_ble_eq_true rfl) (zRo (by decide) (by decide)) dX3_readPart_58 ⟨Nat.le_of_ble_eq_true rfl, Nat.le_of_ble_eq_true rfl⟩ (fun _ σ_5 H locs h1 hZ => ?_)
      refine lv_aload_n hx hb dX3_readPart_61 rfl (lv_at hl 0 rfl) ?_
      refine lv_iload_n hx hb dX3_readPart_62 rfl (lv_at hl 1 rfl) ?_
      refine lv_iconst (v := 1) hx hb dX3_readPart_63 (by decide) ?_
      refine lv_iadd hx hb dX3_readPart_64 ?_
      refine z_cVv (As := [.int (x1 + 1)]) (rest := []) C0 hZ h1 (fun _ hf => zGGX_0 ih hk0 hf) mRX3_236 vX3_readExpr hk0 rfl rfl hl.1 (Nat.le_of_ble_eq_true rfl) (zRs (by decide)) dX3_readPart_65 ⟨Nat.le_of_ble_eq_true rfl, Nat.le_of_ble_eq_true rfl⟩ (fun _ σ_7 H locs h1 hZ => ?_)
      refine lv_aload_n hx hb dX3_readPart_68 rfl (lv_at hl 0 rfl) ?_
      refine lv_bipush (v := 41) hx hb dX3_readPart_69 (by decide) ?_
      refine z_cVv (As := [.int 41]) (rest := []) C0 hZ h1 (fun _ hf => kX3_readSign l hk0 hf) mRX3_139 vX3_readSign hk0 rfl rfl hl.1 (Nat.le_of_ble_eq_true rfl) (zRo (by decide) (by decide)) dX3_readPart_71 ⟨Nat.le_of_ble_eq_true rfl, Nat.le_of_ble_eq_true rfl⟩ (fun _ σ_9 H locs h1 hZ => ?_)
      refine lv_goto (tgt := 82) hx hb dX3_readPart_74 (by decide) ?_
      exact J82  _ _ _ _  hZ (lv_sub hl [] rfl) h1
    refine lv_aload_n hx hb dX3_readPart_37 rfl (lv_at hl 0 rfl) ?_
    refine lv_aload_n hx hb dX3_readPart_38 rfl (lv_at hl 0 rfl) ?_
    refine z_cVi (As := []) (rest := [.ref (zad V k0)]) C0 hZ h1 (fun _ hf => kX3_valueTold l hk0 hf) mRX3_269 vX3_valueTold hk0 rfl rfl hl.1 (Nat.le_of_ble_eq_true rfl) (zRo (by decide) (by decide)) dX3_readPart_39 ⟨Nat.le_of_ble_eq_true rfl, Nat.le_of_ble_eq_true rfl⟩ (fun r_12 σ_11 H locs h1 hZ => ?_)
    refine z_cVv (As := [.int r_12]) (rest := []) C0 hZ h1 (fun _ hf => kX3_readValue l hk0 hf) mRX3_272 vX3_readValue hk0 rfl rfl hl.1 (Nat.le_of_ble_eq_true rfl) (zRo (by decide) (by decide)) dX3_readPart_42 ⟨Nat.le_of_ble_eq_true rfl, Nat.le_of_ble_eq_true rfl⟩ (fun _ σ_13 H locs h1 hZ => ?_)
    refine lv_goto (tgt := 82) hx hb dX3_readPart_45 (by decide) ?_
    exact J82  _ _ _ _  hZ (lv_sub hl [] rfl) h1
  refine lv_aload_n hx hb dX3_readPart_8 rfl (lv_at hl 0 rfl) ?_
  refine z_getm C0 hZ h1 hk0 fRX3_18 rfl dX3_readPart_9 (fun q_15 hq_15 h1 => ?_)
  refine z_getr C0 hZ hq_15 fRX3_229 rfl dX3_readPart_12 ?_
  refine lv_aload_n hx hb dX3_readPart_15 rfl (lv_at hl 0 rfl) ?_
  refine lv_iconst (v := 0) hx hb dX3_readPart_16 (by decide) ?_
  refine lv_sipush (v := 9999) hx hb dX3_readPart_17 (by decide) ?_
  refine z_cVi (As := [.int 0, .int 9999]) (rest := [.ref (zad V (q_15 + 14))]) C0 hZ h1 (fun _ hf => kX3_readNumber l hk0 hf) mRX3_163 vX3_readNumber hk0 rfl rfl hl.1 (Nat.le_of_ble_eq_true rfl) (zRo (by decide) (by decide)) dX3_readPart_20 ⟨Nat.le_of_ble_eq_true rfl, Nat.le_of_ble_eq_true rfl⟩ (fun r_17 σ_16 H locs h1 hZ => ?_)
  refine z_cVv (As := [.int r_17]) (rest := []) C0 hZ h1 (fun _ hf => kX4_add l (zkt5_2 hq_15) hf) mRX3_247 vX4_add (zkt5_2 hq_15) rfl rfl hl.1 (Nat.le_of_ble_eq_true rfl) (zRo (by decide) (by decide)) dX3_readPart_23 ⟨Nat.le_of_ble_eq_true rfl, Nat.le_of_ble_eq_true rfl⟩ (fun _ σ_18 H locs h1 hZ => ?_)
  refine lv_goto (tgt := 82) hx hb dX3_readPart_26 (by decide) ?_
  exact J82  _ _ _ _  hZ (lv_sub hl [] rfl) h1
