noncomputable def FX8_readExpression_b95 (G : zGr)  (σ : zS) : Option (Int32 × zS) := some (0, σ)
noncomputable def FX8_readExpression_L67 (G : zGr) (k0 : Nat) (x1 : Int32) (σ : zS) : Option ((zS) ⊕ (Int32 × zS)) := zbd (FX8_is k0 11 σ) (fun r_2 σ_1 => if r_2 = 0 then zinr (FX8_readExpression_b95 G  σ_1) else zbd (FX8_stepOn k0 σ_1) (fun _ σ_3 => zbd (G 1 k0 x1 0 σ_3) (fun _ σ_5 => zbd (FX8_putSign k0 (-27) σ_5) (fun _ σ_7 => some (.inl (σ_7))))))
noncomputable def FX8_readExpression_b62 (G : zGr) (k0 : Nat) (x1 : Int32) (σ : zS) : Option (Int32 × zS) := zbd (G 1 k0 x1 0 σ) (fun _ σ_9 => zlp (fun q => FX8_readExpression_L67 G k0 x1 q) (σ_9))
noncomputable def FX8_readExpression_b38 (G : zGr) (k0 : Nat) (x1 : Int32) (y0 : Int32) (σ : zS) : Option (Int32 × zS) := zlet y0 (fun x2_11 => if x2_11 = 0 then zbd (FX8_wrong k0 1 σ) (fun _ σ_14 => FX8_readExpression_b62 G k0 x1 σ_14) else if x1 = 6 then zbd (FX8_wrong k0 2 σ) (fun _ σ_12 => FX8_readExpression_b62 G k0 x1 σ_12) else FX8_readExpression_b62 G k0 x1 σ)
noncomputable def FX8_readExpression_b33 (G : zGr) (k0 : Nat) (x1 : Int32) (σ : zS) : Option (Int32 × zS) := FX8_readExpression_b38 G k0 x1 1 σ
noncomputable def FX8_readExpression (G : zGr) (k0 : Nat) (x1 : Int32) (σ : zS) : Option (Int32 × zS) := if (σ k0 25) = 0 then if (σ k0 21) = 2 then FX8_readExpression_b33 G k0 x1 σ else if (σ k0 21) = 1 then FX8_readExpression_b33 G k0 x1 σ else zbd (FX8_isMarked k0 40 σ) (fun r_17 σ_16 => if r_17 = 0 then FX8_readExpression_b38 G k0 x1 0 σ_16 else FX8_readExpression_b33 G k0 x1 σ_16) else some (0, σ)
set_option maxHeartbeats 4000000 in
set_option maxRecDepth 100000 in
theorem kX8_readExpression (l : Launch) {nd : Nat} {G : zGr} (ih : zPGY l nd G) {V : zV} {σ : zS} {t0 : Int32 × zS} {k0 : Nat} {x1 : Int32} (hk0 : kd 1 k0 = 8) (h1 : FX8_readExpression G k0 x1 σ = some t0) : zMv l yX8_readExpression cX8_readExpression 3 (nd + 1 + 10) ((nd + 1) * 40 + 400) 1 V σ t0 [.ref (zad V k0), .int x1] := by
  refine zMv_of (by decide) (Nat.le_of_ble_eq_true rfl) ?_
  intro p e s m below meth c A C0 hr hlk hZ ls hl
  generalize ([.ref (zad V k0), .int x1] : List Value).toArray = args at C0 ⊢
  obtain ⟨Q, hQ⟩ : ∃ Q, Q = MQ below (zQv 1 V t0 A) args s 0 0 A := ⟨_, rfl⟩
  rw [← hQ]
  have hx := C0.1
  have hb := C0.2.1
  have hl : lv_has ls 3 [(0, .ref (zad V k0)), (1, .int x1)] := hl
  unfold FX8_readExpression at h1
  have J95 : ∀  (σ : zS) (H : Heap) (locs : List Loc) (ls : Array Slot), zZ 1 V A σ s H locs → lv_has ls 3 [] → FX8_readExpression_b95 G  σ = some t0 → W p l e (zrm (nd + 1 + 10) ((nd + 1) * 40 + 400)) s m args below meth c H locs 0 0 Q (F0 m 95 ls []) := by
    intro  σ H locs ls  hZ hl h1
    unfold FX8_readExpression_b95 at h1
    rw [hQ]; exact z_vret C0 hr hlk hZ h1 dX8_readExpression_95
  have J67 : ∀ (n : Nat)  (σ : zS) (H : Heap) (locs : List Loc) (ls : Array Slot), zZ 1 V A σ s H locs → lv_has ls 3 [(0, .ref (zad V k0)), (1, .int x1)] → zit (fun q => FX8_readExpression_L67 G k0 x1 q) n (σ) = some t0 → W p l e (zrm (nd + 1 + 10) ((nd + 1) * 40 + 400)) s m args below meth c H locs 0 0 Q (F0 m 67 ls []) := by
    intro n
    induction n with
    | zero => intro  σ H locs ls  _ _ h1; cases h1
    | succ n ih67 =>
      intro  σ H locs ls  hZ hl h1
      obtain ⟨t1, h1, hz1⟩ := zit_1 h1
      replace h1 : FX8_readExpression_L67 G k0 x1 σ = some t1 := h1
      unfold FX8_readExpression_L67 at h1
      refine lv_aload_n hx hb dX8_readExpression_67 rfl (lv_at hl 0 rfl) ?_
      refine z_ldcSw (i := 11) (tx := "or") C0 hZ (by decide +kernel) dX8_readExpression_68 ?_
      refine z_cVi (As := [.ref (V.2.2.2.1 11)]) (rest := []) C0 hZ h1 (fun _ hf => kX8_is l hk0 (by decide) hf) mRX8_224 vX8_is hk0 rfl rfl hl.1 (Nat.le_of_ble_eq_true rfl) (zRo (by decide) (by decide)) dX8_readExpression_71 ⟨Nat.le_of_ble_eq_true rfl, Nat.le_of_ble_eq_true rfl⟩ (fun r_2 σ_1 H locs h1 hZ => ?_)
      refine z_if_eq (tgt := 95) C0 h1 dX8_readExpression_74 (by decide) (fun h1 => ?_) (fun h1 => ?_)
      · have h1 := zout h1 hz1
        exact J95  _ _ _ _  hZ (lv_sub hl [] rfl) h1
      refine lv_aload_n hx hb dX8_readExpression_77 rfl (lv_at hl 0 rfl) ?_
      refine z_cVv (As := []) (rest := []) C0 hZ h1 (fun _ hf => kX8_stepOn l hk0 hf) mRX8_235 vX8_stepOn hk0 rfl rfl hl.1 (Nat.le_of_ble_eq_true rfl) (zRo (by decide) (by decide)) dX8_readExpression_78 ⟨Nat.le_of_ble_eq_true rfl, Nat.le_of_ble_eq_true rfl⟩ (fun _ σ_3 H locs h1 hZ => ?_)
      refine lv_aload_n hx hb dX8_readExpression_81 rfl (lv_at hl 0 rfl) ?_
      refine lv_iload_n hx hb dX8_readExpression_82 rfl (lv_at hl 1 rfl) ?_
      refine z_cVv (As := [.int x1]) (rest := []) C0 hZ h1 (fun _ hf => zGGY_1 ih hk0 hf) mRX8_273 vX8_readAnd hk0 rfl rfl hl.1 (Nat.le_of_ble_eq_true rfl) (zRs (by decide)) dX8_readExpression_83 ⟨Nat.le_of_ble_eq_true rfl, Nat.le_of_ble_eq_true rfl⟩ (fun _ σ_5 H locs h1 hZ => ?_)
      refine lv_aload_n hx hb dX8_readExpression_86 rfl (lv_at hl 0 rfl) ?_
      refine lv_bipush (v := (-27)) hx hb dX8_readExpression_87 (by decide) ?_
      refine z_cVv (As := [.int (-27)]) (rest := []) C0 hZ h1 (fun _ hf => kX8_putSign l hk0 hf) mRX8_244 vX8_putSign hk0 rfl rfl hl.1 (Nat.le_of_ble_eq_true rfl) (zRo (by decide) (by decide)) dX8_readExpression_89 ⟨Nat.le_of_ble_eq_true rfl, Nat.le_of_ble_eq_true rfl⟩ (fun _ σ_7 H locs h1 hZ => ?_)
      refine lv_goto (tgt := 67) hx hb dX8_readExpression_92 (by decide) ?_
      exact ih67  _ _ _ _  hZ (lv_sub hl [0, 1] rfl) (zback h1 hz1)
  have J62 : ∀  (σ : zS) (H : Heap) (locs : List Loc) (ls : Array Slot), zZ 1 V A σ s H locs → lv_has ls 3 [(0, .ref (zad V k0)), (1, .int x1)] → FX8_readExpression_b62 G k0 x1 σ = some t0 → W p l e (zrm (nd + 1 + 10) ((nd + 1) * 40 + 400)) s m args below meth c H locs 0 0 Q (F0 m 62 ls []) := by
    intro  σ H locs ls  hZ hl h1
    unfold FX8_readExpression_b62 at h1
    refine lv_aload_n hx hb dX8_readExpression_62 rfl (lv_at hl 0 rfl) ?_
    refine lv_iload_n hx hb dX8_readExpression_63 rfl (lv_at hl 1 rfl) ?_
    refine z_cVv (As := [.int x1]) (rest := []) C0 hZ h1 (fun _ hf => zGGY_1 ih hk0 hf) mRX8_273 vX8_readAnd hk0 rfl rfl hl.1 (Nat.le_of_ble_eq_true rfl) (zRs (by decide)) dX8_readExpression_64 ⟨Nat.le_of_ble_eq_true rfl, Nat.le_of_ble_eq_true rfl⟩ (fun _ σ_9 H locs h1 hZ => ?_)
    obtain ⟨n, h1⟩ := zlp_iff.mp h1
    exact J67 n  _ _ _ _  hZ (lv_sub hl [0, 1] rfl) h1
  have J38 : ∀ (y0 : Int32) (σ : zS) (H : Heap) (locs : List Loc) (ls : Array Slot), zZ 1 V A σ s H locs → lv_has ls 3 [(0, .ref (zad V k0)), (1, .int x1)] → FX8_readExpression_b38 G k0 x1 y0 σ = some t0 → W p l e (zrm (nd + 1 + 10) ((nd + 1) * 40 + 400)) s m args below meth c H locs 0 0 Q (F0 m 38 ls [.int y0]) := by
    intro y0 σ H locs ls  hZ hl h1
    unfold FX8_readExpression_b38 at h1
    refine z_istore_n C0 h1 hl (fun x2_11 => [(2, .int x2_11), (0, .ref (zad V k0)), (1, .int x1)]) dX8_readExpression_38 rfl (by decide) (fun _ => rfl) (fun x2_11 ls h1 hl => ?_)
    refine lv_iload_n hx hb dX8_readExpression_39 rfl (lv_at hl 0 rfl) ?_
    refine z_if_ne (tgt := 51) C0 h1 dX8_readExpression_40 (by decide) (fun h1 => ?_) (fun h1 => ?_)
    · refine lv_iload_n hx hb dX8_readExpression_51 rfl (lv_at hl 2 rfl) ?_
      refine lv_bipush (v := 6) hx hb dX8_readExpression_52 (by decide) ?_
      refine z_ic_ne (tgt := 62) C0 h1 dX8_readExpression_54 (by decide) (fun h1 => ?_) (fun h1 => ?_)
      · exact J62  _ _ _ _  hZ (lv_sub hl [1, 2] rfl) h1
      refine lv_aload_n hx hb dX8_readExpression_57 rfl (lv_at hl 1 rfl) ?_
      refine lv_iconst (v := 2) hx hb dX8_readExpression_58 (by decide) ?_
      refine z_cVv (As := [.int 2]) (rest := []) C0 hZ h1 (fun _ hf => kX8_wrong l hk0 hf) mRX8_231 vX8_wrong hk0 rfl rfl hl.1 (Nat.le_of_ble_eq_true rfl) (zRo (by decide) (by decide)) dX8_readExpression_59 ⟨Nat.le_of_ble_eq_true rfl, Nat.le_of_ble_eq_true rfl⟩ (fun _ σ_12 H locs h1 hZ => ?_)
      exact J62  _ _ _ _  hZ (lv_sub hl [1, 2] rfl) h1
    refine lv_aload_n hx hb dX8_readExpression_43 rfl (lv_at hl 1 rfl) ?_
    refine lv_iconst (v := 1) hx hb dX8_readExpression_44 (by decide) ?_
    refine z_cVv (As := [.int 1]) (rest := []) C0 hZ h1 (fun _ hf => kX8_wrong l hk0 hf) mRX8_231 vX8_wrong hk0 rfl rfl hl.1 (Nat.le_of_ble_eq_true rfl) (zRo (by decide) (by decide)) dX8_readExpression_45 ⟨Nat.le_of_ble_eq_true rfl, Nat.le_of_ble_eq_true rfl⟩ (fun _ σ_14 H locs h1 hZ => ?_)
    refine lv_goto (tgt := 62) hx hb dX8_readExpression_48 (by decide) ?_
    exact J62  _ _ _ _  hZ (lv_sub hl [1, 2] rfl) h1
  have J33 : ∀  (σ : zS) (H : Heap) (locs : List Loc) (ls : Array Slot), zZ 1 V A σ s H locs → lv_has ls 3 [(0, .ref (zad V k0)), (1, .int x1)] → FX8_readExpression_b33 G k0 x1 σ = some t0 → W p l e (zrm (nd + 1 + 10) ((nd + 1) * 40 + 400)) s m args below meth c H locs 0 0 Q (F0 m 33 ls []) := by
    intro  σ H locs ls  hZ hl h1
    unfold FX8_readExpression_b33 at h1
    refine lv_iconst (v := 1) hx hb dX8_readExpression_33 (by decide) ?_
    refine lv_goto (tgt := 38) hx hb dX8_readExpression_34 (by decide) ?_
    exact J38 1 _ _ _ _  hZ (lv_sub hl [0, 1] rfl) h1
  refine lv_aload_n hx hb dX8_readExpression_0 rfl (lv_at hl 0 rfl) ?_
  refine z_geti C0 hZ hk0 fRX8_210 rfl dX8_readExpression_1 ?_
  refine z_if_eq (tgt := 8) C0 h1 dX8_readExpression_4 (by decide) (fun h1 => ?_) (fun h1 => ?_)
  · refine lv_aload_n hx hb dX8_readExpression_8 rfl (lv_at hl 0 rfl) ?_
    refine z_geti C0 hZ hk0 fRX8_184 rfl dX8_readExpression_9 ?_
    refine lv_iconst (v := 2) hx hb dX8_readExpression_12 (by decide) ?_
    refine z_ic_eq (tgt := 33) C0 h1 dX8_readExpression_13 (by decide) (fun h1 => ?_) (fun h1 => ?_)
    · exact J33  _ _ _ _  hZ (lv_sub hl [0, 1] rfl) h1
    refine lv_aload_n hx hb dX8_readExpression_16 rfl (lv_at hl 0 rfl) ?_
    refine z_geti C0 hZ hk0 fRX8_184 rfl dX8_readExpression_17 ?_
    refine lv_iconst (v := 1) hx hb dX8_readExpression_20 (by decide) ?_
    refine z_ic_eq (tgt := 33) C0 h1 dX8_readExpression_21 (by decide) (fun h1 => ?_) (fun h1 => ?_)
    · exact J33  _ _ _ _  hZ (lv_sub hl [0, 1] rfl) h1
    refine lv_aload_n hx hb dX8_readExpression_24 rfl (lv_at hl 0 rfl) ?_
    refine lv_bipush (v := 40) hx hb dX8_readExpression_25 (by decide) ?_
    refine z_cVi (As := [.int 40]) (rest := []) C0 hZ h1 (fun _ hf => kX8_isMarked l hk0 hf) mRX8_228 vX8_isMarked hk0 rfl rfl hl.1 (Nat.le_of_ble_eq_true rfl) (zRo (by decide) (by decide)) dX8_readExpression_27 ⟨Nat.le_of_ble_eq_true rfl, Nat.le_of_ble_eq_true rfl⟩ (fun r_17 σ_16 H locs h1 hZ => ?_)
    refine z_if_eq (tgt := 37) C0 h1 dX8_readExpression_30 (by decide) (fun h1 => ?_) (fun h1 => ?_)
    · refine lv_iconst (v := 0) hx hb dX8_readExpression_37 (by decide) ?_
      exact J38 0 _ _ _ _  hZ (lv_sub hl [0, 1] rfl) h1
    exact J33  _ _ _ _  hZ (lv_sub hl [0, 1] rfl) h1
  rw [hQ]; exact z_vret C0 hr hlk hZ h1 dX8_readExpression_7
