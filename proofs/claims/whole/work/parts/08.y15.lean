noncomputable def FX8_route_b50 (y0 : Int32) (σ : zS) : Option (Int32 × zS) := some (y0, σ)
noncomputable def FX8_route_b45 (k0 : Nat) (σ : zS) : Option (Int32 × zS) := zbd (FX8_fail k0 1 σ) (fun r_2 σ_1 => FX8_route_b50 r_2 σ_1)
noncomputable def FX8_route (k0 : Nat) (x1 : Int32) (x2 : Int32) (σ : zS) : Option (Int32 × zS) := zlet (zup σ k0 2 0) (fun σ_3 => zbd (FX8_isPerson k0 x1 σ_3) (fun r_5 σ_4 => if r_5 = 0 then FX8_route_b45 k0 σ_4 else zin (ln 1 (k0 + 12)) x1 (zbd (FX8_isIn (Int32.toInt64 x2) 0 (Int32.toInt64 ((σ_4 (k0 + 12) (Int32.toNatClampNeg x1)) - 1)) σ_4) (fun r_7 σ_6 => if r_7 = 0 then FX8_route_b45 k0 σ_6 else zin (ln 1 (k0 + 13)) ((12 * x1) + x2) (FX8_route_b50 (σ_6 (k0 + 13) (Int32.toNatClampNeg ((12 * x1) + x2))) σ_6)))))
set_option maxHeartbeats 4000000 in
set_option maxRecDepth 100000 in
theorem kX8_route (l : Launch) {V : zV} {σ : zS} {t0 : Int32 × zS} {k0 : Nat} {x1 : Int32} {x2 : Int32} (hk0 : kd 1 k0 = 8) (h1 : FX8_route k0 x1 x2 σ = some t0) : zMi l yX8_route cX8_route 3 (some .int) 2 46 1 V σ t0 [.ref (zad V k0), .int x1, .int x2] := by
  refine zMi_of (by decide) (Nat.le_of_ble_eq_true rfl) ?_
  intro p e s m below meth c A C0 hr hlk hZ ls hl
  generalize ([.ref (zad V k0), .int x1, .int x2] : List Value).toArray = args at C0 ⊢
  obtain ⟨Q, hQ⟩ : ∃ Q, Q = MQ below (zQi 1 V t0 A) args s 0 0 A := ⟨_, rfl⟩
  rw [← hQ]
  have hx := C0.1
  have hb := C0.2.1
  have hl : lv_has ls 3 [(0, .ref (zad V k0)), (1, .int x1), (2, .int x2)] := hl
  unfold FX8_route at h1
  have J50 : ∀ (y0 : Int32) (σ : zS) (H : Heap) (locs : List Loc) (ls : Array Slot), zZ 1 V A σ s H locs → lv_has ls 3 [] → FX8_route_b50 y0 σ = some t0 → W p l e (zrm 2 46) s m args below meth c H locs 0 0 Q (F0 m 50 ls [.int y0]) := by
    intro y0 σ H locs ls  hZ hl h1
    unfold FX8_route_b50 at h1
    rw [hQ]; exact z_iret C0 hr hlk hZ h1 dX8_route_50
  have J45 : ∀  (σ : zS) (H : Heap) (locs : List Loc) (ls : Array Slot), zZ 1 V A σ s H locs → lv_has ls 3 [(0, .ref (zad V k0))] → FX8_route_b45 k0 σ = some t0 → W p l e (zrm 2 46) s m args below meth c H locs 0 0 Q (F0 m 45 ls []) := by
    intro  σ H locs ls  hZ hl h1
    unfold FX8_route_b45 at h1
    refine lv_aload_n hx hb dX8_route_45 rfl (lv_at hl 0 rfl) ?_
    refine lv_iconst (v := 1) hx hb dX8_route_46 (by decide) ?_
    refine z_cVi (As := [.int 1]) (rest := []) C0 hZ h1 (fun _ hf => kX8_fail l hk0 hf) mRX8_310 vX8_fail hk0 rfl rfl hl.1 (Nat.le_of_ble_eq_true rfl) ⟨Nat.le_of_ble_eq_true rfl, Nat.le_of_ble_eq_true rfl⟩ dX8_route_47 ⟨Nat.le_of_ble_eq_true rfl, Nat.le_of_ble_eq_true rfl⟩ (fun r_2 σ_1 H locs h1 hZ => ?_)
    exact J50 r_2 _ _ _ _  hZ (lv_sub hl [] rfl) h1
  refine lv_aload_n hx hb dX8_route_0 rfl (lv_at hl 0 rfl) ?_
  refine lv_iconst (v := 0) hx hb dX8_route_1 (by decide) ?_
  refine z_puti C0 hZ h1 hk0 fRX8_159 rfl tyX8_ok nmX8 rfl rfl rfl dX8_route_2 (fun σ_3 H locs h1 hZ => ?_)
  refine lv_aload_n hx hb dX8_route_5 rfl (lv_at hl 0 rfl) ?_
  refine lv_iload_n hx hb dX8_route_6 rfl (lv_at hl 1 rfl) ?_
  refine z_cVi (As := [.int x1]) (rest := []) C0 hZ h1 (fun _ hf => kX8_isPerson l hk0 hf) mRX8_448 vX8_isPerson hk0 rfl rfl hl.1 (Nat.le_of_ble_eq_true rfl) ⟨Nat.le_of_ble_eq_true rfl, Nat.le_of_ble_eq_true rfl⟩ dX8_route_7 ⟨Nat.le_of_ble_eq_true rfl, Nat.le_of_ble_eq_true rfl⟩ (fun r_5 σ_4 H locs h1 hZ => ?_)
  refine z_if_eq (tgt := 45) C0 h1 dX8_route_10 (by decide) (fun h1 => ?_) (fun h1 => ?_)
  · exact J45  _ _ _ _  hZ (lv_sub hl [0] rfl) h1
  refine lv_iload_n hx hb dX8_route_13 rfl (lv_at hl 2 rfl) ?_
  refine lv_i2l (v := (Int32.toInt64 x2)) hx hb dX8_route_14 rfl ?_
  refine lv_lconst (v := 0) hx hb dX8_route_15 (by decide) ?_
  refine lv_aload_n hx hb dX8_route_16 rfl (lv_at hl 0 rfl) ?_
  refine z_getr C0 hZ hk0 fRX8_66 rfl dX8_route_17 ?_
  refine lv_iload_n hx hb dX8_route_20 rfl (lv_at hl 1 rfl) ?_
  refine z_iald C0 hZ h1 (zkt8_12 hk0) dX8_route_21 (fun h1 => ?_)
  refine lv_iconst (v := 1) hx hb dX8_route_22 (by decide) ?_
  refine lv_isub hx hb dX8_route_23 ?_
  refine lv_i2l (v := (Int32.toInt64 ((σ_4 (k0 + 12) (Int32.toNatClampNeg x1)) - 1))) hx hb dX8_route_24 rfl ?_
  refine z_cSi (As := [.long (Int32.toInt64 x2), .long 0, .long (Int32.toInt64 ((σ_4 (k0 + 12) (Int32.toNatClampNeg x1)) - 1))]) (rest := []) C0 hZ h1 (fun _ hf => kX8_isIn l  hf) mRX8_162 sX8_isIn rfl rfl hl.1 (Nat.le_of_ble_eq_true rfl) ⟨Nat.le_of_ble_eq_true rfl, Nat.le_of_ble_eq_true rfl⟩ dX8_route_25 ⟨Nat.le_of_ble_eq_true rfl, Nat.le_of_ble_eq_true rfl⟩ (fun r_7 σ_6 H locs h1 hZ => ?_)
  refine z_if_eq (tgt := 45) C0 h1 dX8_route_28 (by decide) (fun h1 => ?_) (fun h1 => ?_)
  · exact J45  _ _ _ _  hZ (lv_sub hl [0] rfl) h1
  refine lv_aload_n hx hb dX8_route_31 rfl (lv_at hl 0 rfl) ?_
  refine z_getr C0 hZ hk0 fRX8_69 rfl dX8_route_32 ?_
  refine lv_bipush (v := 12) hx hb dX8_route_35 (by decide) ?_
  refine lv_iload_n hx hb dX8_route_37 rfl (lv_at hl 1 rfl) ?_
  refine lv_imul hx hb dX8_route_38 ?_
  refine lv_iload_n hx hb dX8_route_39 rfl (lv_at hl 2 rfl) ?_
  refine lv_iadd hx hb dX8_route_40 ?_
  refine z_iald C0 hZ h1 (zkt8_13 hk0) dX8_route_41 (fun h1 => ?_)
  refine lv_goto (tgt := 50) hx hb dX8_route_42 (by decide) ?_
  exact J50 (σ_6 (k0 + 13) (Int32.toNatClampNeg ((12 * x1) + x2))) _ _ _ _  hZ (lv_sub hl [] rfl) h1
noncomputable def FX8_refuse (k0 : Nat) (x1 : Int32) (σ : zS) : Option (Int32 × zS) := zin (ln 1 (k0 + 16)) x1 (zin (ln 1 (k0 + 16)) x1 (zlet (zup σ (k0 + 16) (Int32.toNatClampNeg x1) ((σ (k0 + 16) (Int32.toNatClampNeg x1)) + 1)) (fun σ_1 => some ((-1), σ_1))))
set_option maxHeartbeats 4000000 in
set_option maxRecDepth 100000 in
theorem kX8_refuse (l : Launch) {V : zV} {σ : zS} {t0 : Int32 × zS} {k0 : Nat} {x1 : Int32} (hk0 : kd 1 k0 = 8) (h1 : FX8_refuse k0 x1 σ = some t0) : zMi l yX8_refuse cX8_refuse 2 (some .int) 0 0 1 V σ t0 [.ref (zad V k0), .int x1] := by
  refine zMi_of (by decide) (Nat.le_of_ble_eq_true rfl) ?_
  intro p e s m below meth c A C0 hr hlk hZ ls hl
  generalize ([.ref (zad V k0), .int x1] : List Value).toArray = args at C0 ⊢
  obtain ⟨Q, hQ⟩ : ∃ Q, Q = MQ below (zQi 1 V t0 A) args s 0 0 A := ⟨_, rfl⟩
  rw [← hQ]
  have hx := C0.1
  have hb := C0.2.1
  have hl : lv_has ls 2 [(0, .ref (zad V k0)), (1, .int x1)] := hl
  unfold FX8_refuse at h1
  refine lv_aload_n hx hb dX8_refuse_0 rfl (lv_at hl 0 rfl) ?_
  refine z_getr C0 hZ hk0 fRX8_78 rfl dX8_refuse_1 ?_
  refine lv_iload_n hx hb dX8_refuse_4 rfl (lv_at hl 1 rfl) ?_
  refine lv_dup2_11 hx hb dX8_refuse_5 rfl rfl ?_
  refine z_iald C0 hZ h1 (zkt8_16 hk0) dX8_refuse_6 (fun h1 => ?_)
  refine lv_iconst (v := 1) hx hb dX8_refuse_7 (by decide) ?_
  refine lv_iadd hx hb dX8_refuse_8 ?_
  refine z_iast C0 hZ h1 (zkt8_16 hk0) dX8_refuse_9 (fun σ_1 H locs h1 hZ => ?_)
  refine lv_iconst (v := (-1)) hx hb dX8_refuse_10 (by decide) ?_
  rw [hQ]; exact z_iret C0 hr hlk hZ h1 dX8_refuse_11
noncomputable def FX8_keep_b52 (k0 : Nat) (σ : zS) : Option (Int32 × zS) := zbd (FX8_pack k0 (k0 + 19) (26 * (σ k0 35)) σ) (fun _ σ_1 => zlet (zup σ_1 k0 35 ((σ_1 k0 35) + 1)) (fun σ_3 => some (0, σ_3)))
noncomputable def FX8_keep_b42 (k0 : Nat) (σ : zS) : Option (Int32 × zS) := zlet (zup σ k0 35 ((σ k0 35) - 1)) (fun σ_4 => FX8_keep_b52 k0 σ_4)
noncomputable def FX8_keep_L12 (k0 : Nat) (x1 : Int32) (σ : zS) : Option ((Int32 × zS) ⊕ (Int32 × zS)) := if (nI (ln 1 (k0 + 19))) ≤ x1 then zinr (FX8_keep_b42 k0 σ) else zin (ln 1 (k0 + 19)) x1 (zin (ln 1 (k0 + 19)) (x1 - 26) (zlet (zup σ (k0 + 19) (Int32.toNatClampNeg (x1 - 26)) (σ (k0 + 19) (Int32.toNatClampNeg x1))) (fun σ_5 => zlet (x1 + 1) (fun x1_6 => some (.inl (x1_6, σ_5))))))
noncomputable def FX8_keep (k0 : Nat) (σ : zS) : Option (Int32 × zS) := if (σ k0 35) = 40 then zlet 26 (fun x1_7 => zlp (fun q => FX8_keep_L12 k0 q.1 q.2) (x1_7, σ)) else FX8_keep_b52 k0 σ
set_option maxHeartbeats 4000000 in
set_option maxRecDepth 100000 in
theorem kX8_keep (l : Launch) {V : zV} {σ : zS} {t0 : Int32 × zS} {k0 : Nat} (hk0 : kd 1 k0 = 8) (h1 : FX8_keep k0 σ = some t0) : zMv l yX8_keep cX8_keep 2 1 23 1 V σ t0 [.ref (zad V k0)] := by
  refine zMv_of (by decide) (Nat.le_of_ble_eq_true rfl) ?_
  intro p e s m below meth c A C0 hr hlk hZ ls hl
  generalize ([.ref (zad V k0)] : List Value).toArray = args at C0 ⊢
  obtain ⟨Q, hQ⟩ : ∃ Q, Q = MQ below (zQv 1 V t0 A) args s 0 0 A := ⟨_, rfl⟩
  rw [← hQ]
  have hx := C0.1
  have hb := C0.2.1
  have hl : lv_has ls 2 [(0, .ref (zad V k0))] := hl
  unfold FX8_keep at h1
  have J52 : ∀  (σ : zS) (H : Heap) (locs : List Loc) (ls : Array Slot), zZ 1 V A σ s H locs → lv_has ls 2 [(0, .ref (zad V k0))] → FX8_keep_b52 k0 σ = some t0 → W p l e (zrm 1 23) s m args below meth c H locs 0 0 Q (F0 m 52 ls []) := by
    intro  σ H locs ls  hZ hl h1
    unfold FX8_keep_b52 at h1
    refine lv_aload_n hx hb dX8_keep_52 rfl (lv_at hl 0 rfl) ?_
    refine lv_aload_n hx hb dX8_keep_53 rfl (lv_at hl 0 rfl) ?_
    refine z_getr C0 hZ hk0 fRX8_93 rfl dX8_keep_54 ?_
    refine lv_bipush (v := 26) hx hb dX8_keep_57 (by decide) ?_
    refine lv_aload_n hx hb dX8_keep_59 rfl (lv_at hl 0 rfl) ?_
    refine z_geti C0 hZ hk0 fRX8_338 rfl dX8_keep_60 ?_
    refine lv_imul hx hb dX8_keep_63 ?_
    refine z_cVv (As := [.ref (zad V (k0 + 19)), .int (26 * (σ k0 35))]) (rest := []) C0 hZ h1 (fun _ hf => kX8_pack l hk0 (zkt8_38 hk0) hf) mRX8_453 vX8_pack hk0 rfl rfl hl.1 (Nat.le_of_ble_eq_true rfl) ⟨Nat.le_of_ble_eq_true rfl, Nat.le_of_ble_eq_true rfl⟩ dX8_keep_64 ⟨Nat.le_of_ble_eq_true rfl, Nat.le_of_ble_eq_true rfl⟩ (fun _ σ_1 H locs h1 hZ => ?_)
    refine lv_aload_n hx hb dX8_keep_67 rfl (lv_at hl 0 rfl) ?_
    refine lv_dup hx hb dX8_keep_68 rfl ?_
    refine z_geti C0 hZ hk0 fRX8_338 rfl dX8_keep_69 ?_
    refine lv_iconst (v := 1) hx hb dX8_keep_72 (by decide) ?_
    refine lv_iadd hx hb dX8_keep_73 ?_
    refine z_puti C0 hZ h1 hk0 fRX8_338 rfl tyX8_ok nmX8 rfl rfl rfl dX8_keep_74 (fun σ_3 H locs h1 hZ => ?_)
    rw [hQ]; exact z_vret C0 hr hlk hZ h1 dX8_keep_77
  have J42 : ∀  (σ : zS) (H : Heap) (locs : List Loc) (ls : Array Slot), zZ 1 V A σ s H locs → lv_has ls 2 [(0, .ref (zad V k0))] → FX8_keep_b42 k0 σ = some t0 → W p l e (zrm 1 23) s m args below meth c H locs 0 0 Q (F0 m 42 ls []) := by
    intro  σ H locs ls  hZ hl h1
    unfold FX8_keep_b42 at h1
    refine lv_aload_n hx hb dX8_keep_42 rfl (lv_at hl 0 rfl) ?_
    refine lv_dup hx hb dX8_keep_43 rfl ?_
    refine z_geti C0 hZ hk0 fRX8_338 rfl dX8_keep_44 ?_
    refine lv_iconst (v := 1) hx hb dX8_keep_47 (by decide) ?_
    refine lv_isub hx hb dX8_keep_48 ?_
    refine z_puti C0 hZ h1 hk0 fRX8_338 rfl tyX8_ok nmX8 rfl rfl rfl dX8_keep_49 (fun σ_4 H locs h1 hZ => ?_)
    exact J52  _ _ _ _  hZ (lv_sub hl [0] rfl) h1
  have J12 : ∀ (n : Nat) (x1 : Int32) (σ : zS) (H : Heap) (locs : List Loc) (ls : Array Slot), zZ 1 V A σ s H locs → lv_has ls 2 [(0, .ref (zad V k0)), (1, .int x1)] → zit (fun q => FX8_keep_L12 k0 q.1 q.2) n (x1, σ) = some t0 → W p l e (zrm 1 23) s m args below meth c H locs 0 0 Q (F0 m 12 ls []) := by
    intro n
    induction n with
    | zero => intro x1 σ H locs ls  _ _ h1; cases h1
    | succ n ih12 =>
      intro x1 σ H locs ls  hZ hl h1
      obtain ⟨t1, h1, hz1⟩ := zit_1 h1
      replace h1 : FX8_keep_L12 k0 x1 σ = some t1 := h1
      unfold FX8_keep_L12 at h1
      refine lv_iload_n hx hb dX8_keep_12 rfl (lv_at hl 1 rfl) ?_
      refine lv_aload_n hx hb dX8_keep_13 rfl (lv_at hl 0 rfl) ?_
      refine z_getr C0 hZ hk0 fRX8_93 rfl dX8_keep_14 ?_
      refine z_alen C0 hZ (zkt8_38 hk0) dX8_keep_17 ?_
      refine z_ic_ge (tgt := 42) C0 h1 dX8_keep_18 (by decide) (fun h1 => ?_) (fun h1 => ?_)
      · have h1 := zout h1 hz1
        exact J42  _ _ _ _  hZ (lv_sub hl [0] rfl) h1
      refine lv_aload_n hx hb dX8_keep_21 rfl (lv_at hl 0 rfl) ?_
      refine z_getr C0 hZ hk0 fRX8_93 rfl dX8_keep_22 ?_
      refine lv_iload_n hx hb dX8_keep_25 rfl (lv_at hl 1 rfl) ?_
      refine lv_bipush (v := 26) hx hb dX8_keep_26 (by decide) ?_
      refine lv_isub hx hb dX8_keep_28 ?_
      refine lv_aload_n hx hb dX8_keep_29 rfl (lv_at hl 0 rfl) ?_
      refine z_getr C0 hZ hk0 fRX8_93 rfl dX8_keep_30 ?_
      refine lv_iload_n hx hb dX8_keep_33 rfl (lv_at hl 1 rfl) ?_
      refine z_iald C0 hZ h1 (zkt8_38 hk0) dX8_keep_34 (fun h1 => ?_)
      refine z_iast C0 hZ h1 (zkt8_38 hk0) dX8_keep_35 (fun σ_5 H locs h1 hZ => ?_)
      refine z_iinc (v := 1) C0 h1 hl (fun x1_6 => [(1, .int x1_6), (0, .ref (zad V k0))]) dX8_keep_36 (k := 1) rfl (by decide) (by decide) (fun _ => rfl) (fun x1_6 ls h1 hl => ?_)
      refine lv_goto (tgt := 12) hx hb dX8_keep_39 (by decide) ?_
      exact ih12 x1_6 _ _ _ _  hZ (lv_sub hl [1, 0] rfl) (zback h1 hz1)
  refine lv_aload_n hx hb dX8_keep_0 rfl (lv_at hl 0 rfl) ?_
  refine z_geti C0 hZ hk0 fRX8_338 rfl dX8_keep_1 ?_
  refine lv_bipush (v := 40) hx hb dX8_keep_4 (by decide) ?_
  refine z_ic_ne (tgt := 52) C0 h1 dX8_keep_6 (by decide) (fun h1 => ?_) (fun h1 => ?_)
  · exact J52  _ _ _ _  hZ (lv_sub hl [0] rfl) h1
  refine lv_bipush (v := 26) hx hb dX8_keep_9 (by decide) ?_
  refine z_istore_n C0 h1 hl (fun x1_7 => [(1, .int x1_7), (0, .ref (zad V k0))]) dX8_keep_11 rfl (by decide) (fun _ => rfl) (fun x1_7 ls h1 hl => ?_)
  obtain ⟨n, h1⟩ := zlp_iff.mp h1
  exact J12 n x1_7 _ _ _ _  hZ (lv_sub hl [1, 0] rfl) h1
noncomputable def FX8_watch_b99 (q0 : Nat) (y1 : Int32) (σ : zS) : Option (Int32 × zS) := zlet (zup σ q0 30 y1) (fun σ_1 => zgd (1 == 0 || 1 == 1) (some (1, σ_1)))
noncomputable def FX8_watch_b63 (k0 : Nat) (x1 : Int32) (x2 : Int32) (y0 : Int32) (σ : zS) : Option (Int32 × zS) := zlet y0 (fun x3_2 => if x3_2 = 0 then zin (ln 1 (k0 + 16)) 1 (zin (ln 1 (k0 + 16)) 1 (zlet (zup σ (k0 + 16) (Int32.toNatClampNeg 1) ((σ (k0 + 16) (Int32.toNatClampNeg 1)) + 1)) (fun σ_6 => zgd (0 == 0 || 0 == 1) (some (0, σ_6))))) else zbd (FX8_keep k0 σ) (fun _ σ_3 => zlet (zup σ_3 k0 29 x1) (fun σ_5 => if x1 = 0 then FX8_watch_b99 k0 0 σ_5 else FX8_watch_b99 k0 x2 σ_5)))
noncomputable def FX8_watch_b58 (k0 : Nat) (x1 : Int32) (x2 : Int32) (σ : zS) : Option (Int32 × zS) := FX8_watch_b63 k0 x1 x2 1 σ
noncomputable def FX8_watch_b62 (k0 : Nat) (x1 : Int32) (x2 : Int32) (σ : zS) : Option (Int32 × zS) := FX8_watch_b63 k0 x1 x2 0 σ
noncomputable def FX8_watch_b45 (k0 : Nat) (x1 : Int32) (x2 : Int32) (σ : zS) : Option (Int32 × zS) := if x1 = 3 then zbd (FX8_isAisle k0 x2 σ) (fun r_8 σ_7 => if r_8 = 0 then FX8_watch_b62 k0 x1 x2 σ_7 else FX8_watch_b58 k0 x1 x2 σ_7) else FX8_watch_b62 k0 x1 x2 σ
noncomputable def FX8_watch_b32 (k0 : Nat) (x1 : Int32) (x2 : Int32) (σ : zS) : Option (Int32 × zS) := if x1 = 2 then zbd (FX8_isPerson k0 x2 σ) (fun r_10 σ_9 => if r_10 = 0 then FX8_watch_b45 k0 x1 x2 σ_9 else FX8_watch_b58 k0 x1 x2 σ_9) else FX8_watch_b45 k0 x1 x2 σ
noncomputable def FX8_watch (k0 : Nat) (x1 : Int32) (x2 : Int32) (σ : zS) : Option (Int32 × zS) := zlet (zup σ k0 2 0) (fun σ_11 => if x1 = 0 then FX8_watch_b58 k0 x1 x2 σ_11 else if x1 = 1 then zin (ln 1 (k0 + 3)) 4 (zbd (FX8_isIn (Int32.toInt64 x2) 0 (Int32.toInt64 ((σ_11 (k0 + 3) (Int32.toNatClampNeg 4)) - 1)) σ_11) (fun r_13 σ_12 => if r_13 = 0 then FX8_watch_b32 k0 x1 x2 σ_12 else FX8_watch_b58 k0 x1 x2 σ_12)) else FX8_watch_b32 k0 x1 x2 σ_11)
set_option maxHeartbeats 4000000 in
set_option maxRecDepth 100000 in
theorem kX8_watch (l : Launch) {V : zV} {σ : zS} {t0 : Int32 × zS} {k0 : Nat} {x1 : Int32} {x2 : Int32} (hk0 : kd 1 k0 = 8) (h1 : FX8_watch k0 x1 x2 σ = some t0) : zMi l yX8_watch cX8_watch 4 (some .boolean) 2 46 1 V σ t0 [.ref (zad V k0), .int x1, .int x2] := by
  refine zMi_of (by decide) (Nat.le_of_ble_eq_true rfl) ?_
  intro p e s m below meth c A C0 hr hlk hZ ls hl
  generalize ([.ref (zad V k0), .int x1, .int x2] : List Value).toArray = args at C0 ⊢
  obtain ⟨Q, hQ⟩ : ∃ Q, Q = MQ below (zQi 1 V t0 A) args s 0 0 A := ⟨_, rfl⟩
  rw [← hQ]
  have hx := C0.1
  have hb := C0.2.1
  have hl : lv_has ls 4 [(0, .ref (zad V k0)), (1, .int x1), (2, .int x2)] := hl
  unfold FX8_watch at h1
  have J99 : ∀ (q0 : Nat) (y1 : Int32) (σ : zS) (H : Heap) (locs : List Loc) (ls : Array Slot), kd 1 q0 = 8 → zZ 1 V A σ s H locs → lv_has ls 4 [] → FX8_watch_b99 q0 y1 σ = some t0 → W p l e (zrm 2 46) s m args below meth c H locs 0 0 Q (F0 m 99 ls [.int y1, .ref (zad V q0)]) := by
    intro q0 y1 σ H locs ls hq0 hZ hl h1
    unfold FX8_watch_b99 at h1
    refine z_puti C0 hZ h1 hq0 fRX8_326 rfl tyX8_ok nmX8 rfl rfl rfl dX8_watch_99 (fun σ_1 H locs h1 hZ => ?_)
    refine lv_iconst (v := 1) hx hb dX8_watch_102 (by decide) ?_
    rw [hQ]; exact z_zret C0 hr hlk hZ h1 dX8_watch_103
  have J63 : ∀ (y0 : Int32) (σ : zS) (H : Heap) (locs : List Loc) (ls : Array Slot), zZ 1 V A σ s H locs → lv_has ls 4 [(0, .ref (zad V k0)), (1, .int x1), (2, .int x2)] → FX8_watch_b63 k0 x1 x2 y0 σ = some t0 → W p l e (zrm 2 46) s m args below meth c H locs 0 0 Q (F0 m 63 ls [.int y0]) := by
    intro y0 σ H locs ls  hZ hl h1
    unfold FX8_watch_b63 at h1
    refine z_istore_n C0 h1 hl (fun x3_2 => [(3, .int x3_2), (0, .ref (zad V k0)), (1, .int x1), (2, .int x2)]) dX8_watch_63 rfl (by decide) (fun _ => rfl) (fun x3_2 ls h1 hl => ?_)
    refine lv_iload_n hx hb dX8_watch_64 rfl (lv_at hl 0 rfl) ?_
    refine z_if_ne (tgt := 80) C0 h1 dX8_watch_65 (by decide) (fun h1 => ?_) (fun h1 => ?_)
    · refine lv_aload_n hx hb dX8_watch_80 rfl (lv_at hl 1 rfl) ?_
      refine z_cVv (As := []) (rest := []) C0 hZ h1 (fun _ hf => kX8_keep l hk0 hf) mRX8_457 vX8_keep hk0 rfl rfl hl.1 (Nat.le_of_ble_eq_true rfl) ⟨Nat.le_of_ble_eq_true rfl, Nat.le_of_ble_eq_true rfl⟩ dX8_watch_81 ⟨Nat.le_of_ble_eq_true rfl, Nat.le_of_ble_eq_true rfl⟩ (fun _ σ_3 H locs h1 hZ => ?_)
      refine lv_aload_n hx hb dX8_watch_84 rfl (lv_at hl 1 rfl) ?_
      refine lv_iload_n hx hb dX8_watch_85 rfl (lv_at hl 2 rfl) ?_
      refine z_puti C0 hZ h1 hk0 fRX8_323 rfl tyX8_ok nmX8 rfl rfl rfl dX8_watch_86 (fun σ_5 H locs h1 hZ => ?_)
      refine lv_aload_n hx hb dX8_watch_89 rfl (lv_at hl 1 rfl) ?_
      refine lv_iload_n hx hb dX8_watch_90 rfl (lv_at hl 2 rfl) ?_
      refine z_if_ne (tgt := 98) C0 h1 dX8_watch_91 (by decide) (fun h1 => ?_) (fun h1 => ?_)
      · refine lv_iload_n hx hb dX8_watch_98 rfl (lv_at hl 3 rfl) ?_
        exact J99 k0 x2 _ _ _ _ hk0 hZ (lv_sub hl [] rfl) h1
      refine lv_iconst (v := 0) hx hb dX8_watch_94 (by decide) ?_
      refine lv_goto (tgt := 99) hx hb dX8_watch_95 (by decide) ?_
      exact J99 k0 0 _ _ _ _ hk0 hZ (lv_sub hl [] rfl) h1
    refine lv_aload_n hx hb dX8_watch_68 rfl (lv_at hl 1 rfl) ?_
    refine z_getr C0 hZ hk0 fRX8_78 rfl dX8_watch_69 ?_
    refine lv_iconst (v := 1) hx hb dX8_watch_72 (by decide) ?_
    refine lv_dup2_11 hx hb dX8_watch_73 rfl rfl ?_
    refine z_iald C0 hZ h1 (zkt8_16 hk0) dX8_watch_74 (fun h1 => ?_)
    refine lv_iconst (v := 1) hx hb dX8_watch_75 (by decide) ?_
    refine lv_iadd hx hb dX8_watch_76 ?_
    refine z_iast C0 hZ h1 (zkt8_16 hk0) dX8_watch_77 (fun σ_6 H locs h1 hZ => ?_)
    refine lv_iconst (v := 0) hx hb dX8_watch_78 (by decide) ?_
    rw [hQ]; exact z_zret C0 hr hlk hZ h1 dX8_watch_79
  have J58 : ∀  (σ : zS) (H : Heap) (locs : List Loc) (ls : Array Slot), zZ 1 V A σ s H locs → lv_has ls 4 [(0, .ref (zad V k0)), (1, .int x1), (2, .int x2)] → FX8_watch_b58 k0 x1 x2 σ = some t0 → W p l e (zrm 2 46) s m args below meth c H locs 0 0 Q (F0 m 58 ls []) := by
    intro  σ H locs ls  hZ hl h1
    unfold FX8_watch_b58 at h1
    refine lv_iconst (v := 1) hx hb dX8_watch_58 (by decide) ?_
    refine lv_goto (tgt := 63) hx hb dX8_watch_59 (by decide) ?_
    exact J63 1 _ _ _ _  hZ (lv_sub hl [0, 1, 2] rfl) h1
  have J62 : ∀  (σ : zS) (H : Heap) (locs : List Loc) (ls : Array Slot), zZ 1 V A σ s H locs → lv_has ls 4 [(0, .ref (zad V k0)), (1, .int x1), (2, .int x2)] → FX8_watch_b62 k0 x1 x2 σ = some t0 → W p l e (zrm 2 46) s m args below meth c H locs 0 0 Q (F0 m 62 ls []) := by
    intro  σ H locs ls  hZ hl h1
    unfold FX8_watch_b62 at h1
    refine lv_iconst (v := 0) hx hb dX8_watch_62 (by decide) ?_
    exact J63 0 _ _ _ _  hZ (lv_sub hl [0, 1, 2] rfl) h1
  have J45 : ∀  (σ : zS) (H : Heap) (locs : List Loc) (ls : Array Slot), zZ 1 V A σ s H locs → lv_has ls 4 [(0, .ref (zad V k0)), (1, .int x1), (2, .int x2)] → FX8_watch_b45 k0 x1 x2 σ = some t0 → W p l e (zrm 2 46) s m args below meth c H locs 0 0 Q (F0 m 45 ls []) := by
    intro  σ H locs ls  hZ hl h1
    unfold FX8_watch_b45 at h1
    refine lv_iload_n hx hb dX8_watch_45 rfl (lv_at hl 1 rfl) ?_
    refine lv_iconst (v := 3) hx hb dX8_watch_46 (by decide) ?_
    refine z_ic_ne (tgt := 62) C0 h1 dX8_watch_47 (by decide) (fun h1 => ?_) (fun h1 => ?_)
    · exact J62  _ _ _ _  hZ (lv_sub hl [0, 1, 2] rfl) h1
    refine lv_aload_n hx hb dX8_watch_50 rfl (lv_at hl 0 rfl) ?_
    refine lv_iload_n hx hb dX8_watch_51 rfl (lv_at hl 2 rfl) ?_
    refine z_cVi (As := [.int x2]) (rest := []) C0 hZ h1 (fun _ hf => kX8_isAisle l hk0 hf) mRX8_357 vX8_isAisle hk0 rfl rfl hl.1 (Nat.le_of_ble_eq_true rfl) ⟨Nat.le_of_ble_eq_true rfl, Nat.le_of_ble_eq_true rfl⟩ dX8_watch_52 ⟨Nat.le_of_ble_eq_true rfl, Nat.le_of_ble_eq_true rfl⟩ (fun r_8 σ_7 H locs h1 hZ => ?_)
    refine z_if_eq (tgt := 62) C0 h1 dX8_watch_55 (by decide) (fun h1 => ?_) (fun h1 => ?_)
    · exact J62  _ _ _ _  hZ (lv_sub hl [0, 1, 2] rfl) h1
    exact J58  _ _ _ _  hZ (lv_sub hl [0, 1, 2] rfl) h1
  have J32 : ∀  (σ : zS) (H : Heap) (locs : List Loc) (ls : Array Slot), zZ 1 V A σ s H locs → lv_has ls 4 [(0, .ref (zad V k0)), (1, .int x1), (2, .int x2)] → FX8_watch_b32 k0 x1 x2 σ = some t0 → W p l e (zrm 2 46) s m args below meth c H locs 0 0 Q (F0 m 32 ls []) := by
    intro  σ H locs ls  hZ hl h1
    unfold FX8_watch_b32 at h1
    refine lv_iload_n hx hb dX8_watch_32 rfl (lv_at hl 1 rfl) ?_
    refine lv_iconst (v := 2) hx hb dX8_watch_33 (by decide) ?_
    refine z_ic_ne (tgt := 45) C0 h1 dX8_watch_34 (by decide) (fun h1 => ?_) (fun h1 => ?_)
    · exact J45  _ _ _ _  hZ (lv_sub hl [0, 1, 2] rfl) h1
    refine lv_aload_n hx hb dX8_watch_37 rfl (lv_at hl 0 rfl) ?_
    refine lv_iload_n hx hb dX8_watch_38 rfl (lv_at hl 2 rfl) ?_
    refine z_cVi (As := [.int x2]) (rest := []) C0 hZ h1 (fun _ hf => kX8_isPerson l hk0 hf) mRX8_448 vX8_isPerson hk0 rfl rfl hl.1 (Nat.le_of_ble_eq_true rfl) ⟨Nat.le_of_ble_eq_true rfl, Nat.le_of_ble_eq_true rfl⟩ dX8_watch_39 ⟨Nat.le_of_ble_eq_true rfl, Nat.le_of_ble_eq_true rfl⟩ (fun r_10 σ_9 H locs h1 hZ => ?_)
    refine z_if_ne (tgt := 58) C0 h1 dX8_watch_42 (by decide) (fun h1 => ?_) (fun h1 => ?_)
    · exact J58  _ _ _ _  hZ (lv_sub hl [0, 1, 2] rfl) h1
    exact J45  _ _ _ _  hZ (lv_sub hl [0, 1, 2] rfl) h1
  refine lv_aload_n hx hb dX8_watch_0 rfl (lv_at hl 0 rfl) ?_
  refine lv_iconst (v := 0) hx hb dX8_watch_1 (by decide) ?_
  refine z_puti C0 hZ h1 hk0 fRX8_159 rfl tyX8_ok nmX8 rfl rfl rfl dX8_watch_2 (fun σ_11 H locs h1 hZ => ?_)
  refine lv_iload_n hx hb dX8_watch_5 rfl (lv_at hl 1 rfl) ?_
  refine z_if_eq (tgt := 58) C0 h1 dX8_watch_6 (by decide) (fun h1 => ?_) (fun h1 => ?_)
  · exact J58  _ _ _ _  hZ (lv_sub hl [0, 1, 2] rfl) h1
  refine lv_iload_n hx hb dX8_watch_9 rfl (lv_at hl 1 rfl) ?_
  refine lv_iconst (v := 1) hx hb dX8_watch_10 (by decide) ?_
  refine z_ic_ne (tgt := 32) C0 h1 dX8_watch_11 (by decide) (fun h1 => ?_) (fun h1 => ?_)
  · exact J32  _ _ _ _  hZ (lv_sub hl [0, 1, 2] rfl) h1
  refine lv_iload_n hx hb dX8_watch_14 rfl (lv_at hl 2 rfl) ?_
  refine lv_i2l (v := (Int32.toInt64 x2)) hx hb dX8_watch_15 rfl ?_
  refine lv_lconst (v := 0) hx hb dX8_watch_16 (by decide) ?_
  refine lv_aload_n hx hb dX8_watch_17 rfl (lv_at hl 0 rfl) ?_
  refine z_getr C0 hZ hk0 fRX8_40 rfl dX8_watch_18 ?_
  refine lv_iconst (v := 4) hx hb dX8_watch_21 (by decide) ?_
  refine z_iald C0 hZ h1 (zkt8_3 hk0) dX8_watch_22 (fun h1 => ?_)
  refine lv_iconst (v := 1) hx hb dX8_watch_23 (by decide) ?_
  refine lv_isub hx hb dX8_watch_24 ?_
  refine lv_i2l (v := (Int32.toInt64 ((σ_11 (k0 + 3) (Int32.toNatClampNeg 4)) - 1))) hx hb dX8_watch_25 rfl ?_
  refine z_cSi (As := [.long (Int32.toInt64 x2), .long 0, .long (Int32.toInt64 ((σ_11 (k0 + 3) (Int32.toNatClampNeg 4)) - 1))]) (rest := []) C0 hZ h1 (fun _ hf => kX8_isIn l  hf) mRX8_162 sX8_isIn rfl rfl hl.1 (Nat.le_of_ble_eq_true rfl) ⟨Nat.le_of_ble_eq_true rfl, Nat.le_of_ble_eq_true rfl⟩ dX8_watch_26 ⟨Nat.le_of_ble_eq_true rfl, Nat.le_of_ble_eq_true rfl⟩ (fun r_13 σ_12 H locs h1 hZ => ?_)
  refine z_if_ne (tgt := 58) C0 h1 dX8_watch_29 (by decide) (fun h1 => ?_) (fun h1 => ?_)
  · exact J58  _ _ _ _  hZ (lv_sub hl [0, 1, 2] rfl) h1
  exact J32  _ _ _ _  hZ (lv_sub hl [0, 1, 2] rfl) h1
noncomputable def FX8_open_b33 (x2 : Int32) (q0 : Nat) (y1 : Int32) (σ : zS) : Option (Int32 × zS) := zlet (zup σ q0 31 y1) (fun σ_1 => zgd (x2 == 0 || x2 == 1) (some (x2, σ_1)))
noncomputable def FX8_open_b22 (k0 : Nat) (x1 : Int32) (y0 : Int32) (σ : zS) : Option (Int32 × zS) := zlet y0 (fun x2_2 => if x1 = 0 then FX8_open_b33 x2_2 k0 0 σ else FX8_open_b33 x2_2 k0 1 σ)
noncomputable def FX8_open (k0 : Nat) (x1 : Int32) (σ : zS) : Option (Int32 × zS) := zlet (zup σ k0 2 0) (fun σ_3 => zbd (FX8_keep k0 σ_3) (fun _ σ_4 => if (σ_4 k0 31) = 1 then FX8_open_b22 k0 x1 1 σ_4 else FX8_open_b22 k0 x1 0 σ_4))
set_option maxHeartbeats 4000000 in
set_option maxRecDepth 100000 in
theorem kX8_open (l : Launch) {V : zV} {σ : zS} {t0 : Int32 × zS} {k0 : Nat} {x1 : Int32} (hk0 : kd 1 k0 = 8) (h1 : FX8_open k0 x1 σ = some t0) : zMi l yX8_open cX8_open 3 (some .boolean) 2 44 1 V σ t0 [.ref (zad V k0), .int x1] := by
  refine zMi_of (by decide) (Nat.le_of_ble_eq_true rfl) ?_
  intro p e s m below meth c A C0 hr hlk hZ ls hl
  generalize ([.ref (zad V k0), .int x1] : List Value).toArray = args at C0 ⊢
  obtain ⟨Q, hQ⟩ : ∃ Q, Q = MQ below (zQi 1 V t0 A) args s 0 0 A := ⟨_, rfl⟩
  rw [← hQ]
  have hx := C0.1
  have hb := C0.2.1
  have hl : lv_has ls 3 [(0, .ref (zad V k0)), (1, .int x1)] := hl
  unfold FX8_open at h1
  have J33 : ∀ (x2 : Int32) (q0 : Nat) (y1 : Int32) (σ : zS) (H : Heap) (locs : List Loc) (ls : Array Slot), kd 1 q0 = 8 → zZ 1 V A σ s H locs → lv_has ls 3 [(2, .int x2)] → FX8_open_b33 x2 q0 y1 σ = some t0 → W p l e (zrm 2 44) s m args below meth c H locs 0 0 Q (F0 m 33 ls [.int y1, .ref (zad V q0)]) := by
    intro x2 q0 y1 σ H locs ls hq0 hZ hl h1
    unfold FX8_open_b33 at h1
    refine z_puti C0 hZ h1 hq0 fRX8_329 rfl tyX8_ok nmX8 rfl rfl rfl dX8_open_33 (fun σ_1 H locs h1 hZ => ?_)
    refine lv_iload_n hx hb dX8_open_36 rfl (lv_at hl 0 rfl) ?_
    rw [hQ]; exact z_zret C0 hr hlk hZ h1 dX8_open_37
  have J22 : ∀ (y0 : Int32) (σ : zS) (H : Heap) (locs : List Loc) (ls : Array Slot), zZ 1 V A σ s H locs → lv_has ls 3 [(0, .ref (zad V k0)), (1, .int x1)] → FX8_open_b22 k0 x1 y0 σ = some t0 → W p l e (zrm 2 44) s m args below meth c H locs 0 0 Q (F0 m 22 ls [.int y0]) := by
    intro y0 σ H locs ls  hZ hl h1
    unfold FX8_open_b22 at h1
    refine z_istore_n C0 h1 hl (fun x2_2 => [(2, .int x2_2), (0, .ref (zad V k0)), (1, .int x1)]) dX8_open_22 rfl (by decide) (fun _ => rfl) (fun x2_2 ls h1 hl => ?_)
    refine lv_aload_n hx hb dX8_open_23 rfl (lv_at hl 1 rfl) ?_
    refine lv_iload_n hx hb dX8_open_24 rfl (lv_at hl 2 rfl) ?_
    refine z_if_eq (tgt := 32) C0 h1 dX8_open_25 (by decide) (fun h1 => ?_) (fun h1 => ?_)
    · refine lv_iconst (v := 0) hx hb dX8_open_32 (by decide) ?_
      exact J33 x2_2 k0 0 _ _ _ _ hk0 hZ (lv_sub hl [0] rfl) h1
    refine lv_iconst (v := 1) hx hb dX8_open_28 (by decide) ?_
    refine lv_goto (tgt := 33) hx hb dX8_open_29 (by decide) ?_
    exact J33 x2_2 k0 1 _ _ _ _ hk0 hZ (lv_sub hl [0] rfl) h1
  refine lv_aload_n hx hb dX8_open_0 rfl (lv_at hl 0 rfl) ?_
  refine lv_iconst (v := 0) hx hb dX8_open_1 (by decide) ?_
  refine z_puti C0 hZ h1 hk0 fRX8_159 rfl tyX8_ok nmX8 rfl rfl rfl dX8_open_2 (fun σ_3 H locs h1 hZ => ?_)
  refine lv_aload_n hx hb dX8_open_5 rfl (lv_at hl 0 rfl) ?_
  refine z_cVv (As := []) (rest := []) C0 hZ h1 (fun _ hf => kX8_keep l hk0 hf) mRX8_457 vX8_keep hk0 rfl rfl hl.1 (Nat.le_of_ble_eq_true rfl) ⟨Nat.le_of_ble_eq_true rfl, Nat.le_of_ble_eq_true rfl⟩ dX8_open_6 ⟨Nat.le_of_ble_eq_true rfl, Nat.le_of_ble_eq_true rfl⟩ (fun _ σ_4 H locs h1 hZ => ?_)
  refine lv_aload_n hx hb dX8_open_9 rfl (lv_at hl 0 rfl) ?_
  refine z_geti C0 hZ hk0 fRX8_329 rfl dX8_open_10 ?_
  refine lv_iconst (v := 1) hx hb dX8_open_13 (by decide) ?_
  refine z_ic_ne (tgt := 21) C0 h1 dX8_open_14 (by decide) (fun h1 => ?_) (fun h1 => ?_)
  · refine lv_iconst (v := 0) hx hb dX8_open_21 (by decide) ?_
    exact J22 0 _ _ _ _  hZ (lv_sub hl [0, 1] rfl) h1
  refine lv_iconst (v := 1) hx hb dX8_open_17 (by decide) ?_
  refine lv_goto (tgt := 22) hx hb dX8_open_18 (by decide) ?_
  exact J22 1 _ _ _ _  hZ (lv_sub hl [0, 1] rfl) h1
noncomputable def FX8_stops (k0 : Nat) (x1 : Int32) (σ : zS) : Option (Int32 × zS) := zlet (zup σ k0 2 0) (fun σ_1 => zbd (FX8_isIn (Int32.toInt64 x1) 0 2 σ_1) (fun r_3 σ_2 => if r_3 = 0 then zbd (FX8_refuse k0 1 σ_2) (fun r_9 σ_8 => some (r_9, σ_8)) else zbd (FX8_keep k0 σ_2) (fun _ σ_4 => zlet (σ_4 k0 32) (fun x2_6 => zlet (zup σ_4 k0 32 x1) (fun σ_7 => some (x2_6, σ_7))))))
set_option maxHeartbeats 4000000 in
set_option maxRecDepth 100000 in
theorem kX8_stops (l : Launch) {V : zV} {σ : zS} {t0 : Int32 × zS} {k0 : Nat} {x1 : Int32} (hk0 : kd 1 k0 = 8) (h1 : FX8_stops k0 x1 σ = some t0) : zMi l yX8_stops cX8_stops 3 (some .int) 2 44 1 V σ t0 [.ref (zad V k0), .int x1] := by
  refine zMi_of (by decide) (Nat.le_of_ble_eq_true rfl) ?_
  intro p e s m below meth c A C0 hr hlk hZ ls hl
  generalize ([.ref (zad V k0), .int x1] : List Value).toArray = args at C0 ⊢
  obtain ⟨Q, hQ⟩ : ∃ Q, Q = MQ below (zQi 1 V t0 A) args s 0 0 A := ⟨_, rfl⟩
  rw [← hQ]
  have hx := C0.1
  have hb := C0.2.1
  have hl : lv_has ls 3 [(0, .ref (zad V k0)), (1, .int x1)] := hl
  unfold FX8_stops at h1
  refine lv_aload_n hx hb dX8_stops_0 rfl (lv_at hl 0 rfl) ?_
  refine lv_iconst (v := 0) hx hb dX8_stops_1 (by decide) ?_
  refine z_puti C0 hZ h1 hk0 fRX8_159 rfl tyX8_ok nmX8 rfl rfl rfl dX8_stops_2 (fun σ_1 H locs h1 hZ => ?_)
  refine lv_iload_n hx hb dX8_stops_5 rfl (lv_at hl 1 rfl) ?_
  refine lv_i2l (v := (Int32.toInt64 x1)) hx hb dX8_stops_6 rfl ?_
  refine lv_lconst (v := 0) hx hb dX8_stops_7 (by decide) ?_
  refine lv_ldc2 (v := 2) hx hb C0.2.2.2.1 (C0.2.2.2.2 _ (zmem 1853 (by decide +kernel) (by decide +kernel))) dX8_stops_8 ?_
  refine z_cSi (As := [.long (Int32.toInt64 x1), .long 0, .long 2]) (rest := []) C0 hZ h1 (fun _ hf => kX8_isIn l  hf) mRX8_162 sX8_isIn rfl rfl hl.1 (Nat.le_of_ble_eq_true rfl) ⟨Nat.le_of_ble_eq_true rfl, Nat.le_of_ble_eq_true rfl⟩ dX8_stops_11 ⟨Nat.le_of_ble_eq_true rfl, Nat.le_of_ble_eq_true rfl⟩ (fun r_3 σ_2 H locs h1 hZ => ?_)
  refine z_if_ne (tgt := 23) C0 h1 dX8_stops_14 (by decide) (fun h1 => ?_) (fun h1 => ?_)
  · refine lv_aload_n hx hb dX8_stops_23 rfl (lv_at hl 0 rfl) ?_
    refine z_cVv (As := []) (rest := []) C0 hZ h1 (fun _ hf => kX8_keep l hk0 hf) mRX8_457 vX8_keep hk0 rfl rfl hl.1 (Nat.le_of_ble_eq_true rfl) ⟨Nat.le_of_ble_eq_true rfl, Nat.le_of_ble_eq_true rfl⟩ dX8_stops_24 ⟨Nat.le_of_ble_eq_true rfl, Nat.le_of_ble_eq_true rfl⟩ (fun _ σ_4 H locs h1 hZ => ?_)
    refine lv_aload_n hx hb dX8_stops_27 rfl (lv_at hl 0 rfl) ?_
    refine z_geti C0 hZ hk0 fRX8_90 rfl dX8_stops_28 ?_
    refine z_istore_n C0 h1 hl (fun x2_6 => [(2, .int x2_6), (0, .ref (zad V k0)), (1, .int x1)]) dX8_stops_31 rfl (by decide) (fun _ => rfl) (fun x2_6 ls h1 hl => ?_)
    refine lv_aload_n hx hb dX8_stops_32 rfl (lv_at hl 1 rfl) ?_
    refine lv_iload_n hx hb dX8_stops_33 rfl (lv_at hl 2 rfl) ?_
    refine z_puti C0 hZ h1 hk0 fRX8_90 rfl tyX8_ok nmX8 rfl rfl rfl dX8_stops_34 (fun σ_7 H locs h1 hZ => ?_)
    refine lv_iload_n hx hb dX8_stops_37 rfl (lv_at hl 0 rfl) ?_
    rw [hQ]; exact z_iret C0 hr hlk hZ h1 dX8_stops_38
  refine lv_aload_n hx hb dX8_stops_17 rfl (lv_at hl 0 rfl) ?_
  refine lv_iconst (v := 1) hx hb dX8_stops_18 (by decide) ?_
  refine z_cVi (As := [.int 1]) (rest := []) C0 hZ h1 (fun _ hf => kX8_refuse l hk0 hf) mRX8_462 vX8_refuse hk0 rfl rfl hl.1 (Nat.le_of_ble_eq_true rfl) ⟨Nat.le_of_ble_eq_true rfl, Nat.le_of_ble_eq_true rfl⟩ dX8_stops_19 ⟨Nat.le_of_ble_eq_true rfl, Nat.le_of_ble_eq_true rfl⟩ (fun r_9 σ_8 H locs h1 hZ => ?_)
  rw [hQ]; exact z_iret C0 hr hlk hZ h1 dX8_stops_22
noncomputable def FX8_mirror_b48 (k0 : Nat) (σ : zS) : Option (Int32 × zS) := zbd (FX8_refuse k0 1 σ) (fun r_2 σ_1 => some (r_2, σ_1))
noncomputable def FX8_mirror (k0 : Nat) (x1 : Int32) (x2 : Int32) (σ : zS) : Option (Int32 × zS) := zlet (zup σ k0 2 0) (fun σ_3 => if (σ_3 k0 33) = 6 then FX8_mirror_b48 k0 σ_3 else zbd (FX8_isAisle k0 x1 σ_3) (fun r_5 σ_4 => if r_5 = 0 then FX8_mirror_b48 k0 σ_4 else zbd (FX8_isAisle k0 x2 σ_4) (fun r_7 σ_6 => if r_7 = 0 then FX8_mirror_b48 k0 σ_6 else if x1 = x2 then FX8_mirror_b48 k0 σ_6 else zin (ln 1 (k0 + 7)) x1 (zbd (FX8_isOf (σ_6 (k0 + 7) (Int32.toNatClampNeg x1)) x2 σ_6) (fun r_9 σ_8 => if r_9 = 0 then zbd (FX8_keep k0 σ_8) (fun _ σ_10 => zin (ln 1 (k0 + 7)) x1 (zin (ln 1 (k0 + 7)) x1 (zlet (zup σ_10 (k0 + 7) (Int32.toNatClampNeg x1) ((σ_10 (k0 + 7) (Int32.toNatClampNeg x1)) ||| ((1 : Int32) <<< (x2 &&& 31)))) (fun σ_12 => zlet (zup σ_12 k0 33 ((σ_12 k0 33) + 1)) (fun σ_13 => some ((σ_13 k0 33), σ_13)))))) else FX8_mirror_b48 k0 σ_8)))))
set_option maxHeartbeats 4000000 in
set_option maxRecDepth 100000 in
theorem kX8_mirror (l : Launch) {V : zV} {σ : zS} {t0 : Int32 × zS} {k0 : Nat} {x1 : Int32} {x2 : Int32} (hk0 : kd 1 k0 = 8) (h1 : FX8_mirror k0 x1 x2 σ = some t0) : zMi l yX8_mirror cX8_mirror 3 (some .int) 2 46 1 V σ t0 [.ref (zad V k0), .int x1, .int x2] := by
  refine zMi_of (by decide) (Nat.le_of_ble_eq_true rfl) ?_
  intro p e s m below meth c A C0 hr hlk hZ ls hl
  generalize ([.ref (zad V k0), .int x1, .int x2] : List Value).toArray = args at C0 ⊢
  obtain ⟨Q, hQ⟩ : ∃ Q, Q = MQ below (zQi 1 V t0 A) args s 0 0 A := ⟨_, rfl⟩
  rw [← hQ]
  have hx := C0.1
  have hb := C0.2.1
  have hl : lv_has ls 3 [(0, .ref (zad V k0)), (1, .int x1), (2, .int x2)] := hl
  unfold FX8_mirror at h1
  have J48 : ∀  (σ : zS) (H : Heap) (locs : List Loc) (ls : Array Slot), zZ 1 V A σ s H locs → lv_has ls 3 [(0, .ref (zad V k0))] → FX8_mirror_b48 k0 σ = some t0 → W p l e (zrm 2 46) s m args below meth c H locs 0 0 Q (F0 m 48 ls []) := by
    intro  σ H locs ls  hZ hl h1
    unfold FX8_mirror_b48 at h1
    refine lv_aload_n hx hb dX8_mirror_48 rfl (lv_at hl 0 rfl) ?_
    refine lv_iconst (v := 1) hx hb dX8_mirror_49 (by decide) ?_
    refine z_cVi (As := [.int 1]) (rest := []) C0 hZ h1 (fun _ hf => kX8_refuse l hk0 hf) mRX8_462 vX8_refuse hk0 rfl rfl hl.1 (Nat.le_of_ble_eq_true rfl) ⟨Nat.le_of_ble_eq_true rfl, Nat.le_of_ble_eq_true rfl⟩ dX8_mirror_50 ⟨Nat.le_of_ble_eq_true rfl, Nat.le_of_ble_eq_true rfl⟩ (fun r_2 σ_1 H locs h1 hZ => ?_)
    rw [hQ]; exact z_iret C0 hr hlk hZ h1 dX8_mirror_53
  refine lv_aload_n hx hb dX8_mirror_0 rfl (lv_at hl 0 rfl) ?_
  refine lv_iconst (v := 0) hx hb dX8_mirror_1 (by decide) ?_
  refine z_puti C0 hZ h1 hk0 fRX8_159 rfl tyX8_ok nmX8 rfl rfl rfl dX8_mirror_2 (fun σ_3 H locs h1 hZ => ?_)
  refine lv_aload_n hx hb dX8_mirror_5 rfl (lv_at hl 0 rfl) ?_
  refine z_geti C0 hZ hk0 fRX8_332 rfl dX8_mirror_6 ?_
  refine lv_bipush (v := 6) hx hb dX8_mirror_9 (by decide) ?_
  refine z_ic_eq (tgt := 48) C0 h1 dX8_mirror_11 (by decide) (fun h1 => ?_) (fun h1 => ?_)
  · exact J48  _ _ _ _  hZ (lv_sub hl [0] rfl) h1
  refine lv_aload_n hx hb dX8_mirror_14 rfl (lv_at hl 0 rfl) ?_
  refine lv_iload_n hx hb dX8_mirror_15 rfl (lv_at hl 1 rfl) ?_
  refine z_cVi (As := [.int x1]) (rest := []) C0 hZ h1 (fun _ hf => kX8_isAisle l hk0 hf) mRX8_357 vX8_isAisle hk0 rfl rfl hl.1 (Nat.le_of_ble_eq_true rfl) ⟨Nat.le_of_ble_eq_true rfl, Nat.le_of_ble_eq_true rfl⟩ dX8_mirror_16 ⟨Nat.le_of_ble_eq_true rfl, Nat.le_of_ble_eq_true rfl⟩ (fun r_5 σ_4 H locs h1 hZ => ?_)
  refine z_if_eq (tgt := 48) C0 h1 dX8_mirror_19 (by decide) (fun h1 => ?_) (fun h1 => ?_)
  · exact J48  _ _ _ _  hZ (lv_sub hl [0] rfl) h1
  refine lv_aload_n hx hb dX8_mirror_22 rfl (lv_at hl 0 rfl) ?_
  refine lv_iload_n hx hb dX8_mirror_23 rfl (lv_at hl 2 rfl) ?_
  refine z_cVi (As := [.int x2]) (rest := []) C0 hZ h1 (fun _ hf => kX8_isAisle l hk0 hf) mRX8_357 vX8_isAisle hk0 rfl rfl hl.1 (Nat.le_of_ble_eq_true rfl) ⟨Nat.le_of_ble_eq_true rfl, Nat.le_of_ble_eq_true rfl⟩ dX8_mirror_24 ⟨Nat.le_of_ble_eq_true rfl, Nat.le_of_ble_eq_true rfl⟩ (fun r_7 σ_6 H locs h1 hZ => ?_)
  refine z_if_eq (tgt := 48) C0 h1 dX8_mirror_27 (by decide) (fun h1 => ?_) (fun h1 => ?_)
  · exact J48  _ _ _ _  hZ (lv_sub hl [0] rfl) h1
  refine lv_iload_n hx hb dX8_mirror_30 rfl (lv_at hl 1 rfl) ?_
  refine lv_iload_n hx hb dX8_mirror_31 rfl (lv_at hl 2 rfl) ?_
  refine z_ic_eq (tgt := 48) C0 h1 dX8_mirror_32 (by decide) (fun h1 => ?_) (fun h1 => ?_)
  · exact J48  _ _ _ _  hZ (lv_sub hl [0] rfl) h1
  refine lv_aload_n hx hb dX8_mirror_35 rfl (lv_at hl 0 rfl) ?_
  refine z_getr C0 hZ hk0 fRX8_52 rfl dX8_mirror_36 ?_
  refine lv_iload_n hx hb dX8_mirror_39 rfl (lv_at hl 1 rfl) ?_
  refine z_iald C0 hZ h1 (zkt8_7 hk0) dX8_mirror_40 (fun h1 => ?_)
  refine lv_iload_n hx hb dX8_mirror_41 rfl (lv_at hl 2 rfl) ?_
  refine z_cSi (As := [.int (σ_6 (k0 + 7) (Int32.toNatClampNeg x1)), .int x2]) (rest := []) C0 hZ h1 (fun _ hf => kX8_isOf l  hf) mRX8_383 sX8_isOf rfl rfl hl.1 (Nat.le_of_ble_eq_true rfl) ⟨Nat.le_of_ble_eq_true rfl, Nat.le_of_ble_eq_true rfl⟩ dX8_mirror_42 ⟨Nat.le_of_ble_eq_true rfl, Nat.le_of_ble_eq_true rfl⟩ (fun r_9 σ_8 H locs h1 hZ => ?_)
  refine z_if_eq (tgt := 54) C0 h1 dX8_mirror_45 (by decide) (fun h1 => ?_) (fun h1 => ?_)
  · refine lv_aload_n hx hb dX8_mirror_54 rfl (lv_at hl 0 rfl) ?_
    refine z_cVv (As := []) (rest := []) C0 hZ h1 (fun _ hf => kX8_keep l hk0 hf) mRX8_457 vX8_keep hk0 rfl rfl hl.1 (Nat.le_of_ble_eq_true rfl) ⟨Nat.le_of_ble_eq_true rfl, Nat.le_of_ble_eq_true rfl⟩ dX8_mirror_55 ⟨Nat.le_of_ble_eq_true rfl, Nat.le_of_ble_eq_true rfl⟩ (fun _ σ_10 H locs h1 hZ => ?_)
    refine lv_aload_n hx hb dX8_mirror_58 rfl (lv_at hl 0 rfl) ?_
    refine z_getr C0 hZ hk0 fRX8_52 rfl dX8_mirror_59 ?_
    refine lv_iload_n hx hb dX8_mirror_62 rfl (lv_at hl 1 rfl) ?_
    refine lv_dup2_11 hx hb dX8_mirror_63 rfl rfl ?_
    refine z_iald C0 hZ h1 (zkt8_7 hk0) dX8_mirror_64 (fun h1 => ?_)
    refine lv_iconst (v := 1) hx hb dX8_mirror_65 (by decide) ?_
    refine lv_iload_n hx hb dX8_mirror_66 rfl (lv_at hl 2 rfl) ?_
    refine lv_ishl hx hb dX8_mirror_67 ?_
    refine lv_ior hx hb dX8_mirror_68 ?_
    refine z_iast C0 hZ h1 (zkt8_7 hk0) dX8_mirror_69 (fun σ_12 H locs h1 hZ => ?_)
    refine lv_aload_n hx hb dX8_mirror_70 rfl (lv_at hl 0 rfl) ?_
    refine lv_dup hx hb dX8_mirror_71 rfl ?_
    refine z_geti C0 hZ hk0 fRX8_332 rfl dX8_mirror_72 ?_
    refine lv_iconst (v := 1) hx hb dX8_mirror_75 (by decide) ?_
    refine lv_iadd hx hb dX8_mirror_76 ?_
    refine z_puti C0 hZ h1 hk0 fRX8_332 rfl tyX8_ok nmX8 rfl rfl rfl dX8_mirror_77 (fun σ_13 H locs h1 hZ => ?_)
    refine lv_aload_n hx hb dX8_mirror_80 rfl (lv_at hl 0 rfl) ?_
    refine z_geti C0 hZ hk0 fRX8_332 rfl dX8_mirror_81 ?_
    rw [hQ]; exact z_iret C0 hr hlk hZ h1 dX8_mirror_84
  exact J48  _ _ _ _  hZ (lv_sub hl [0] rfl) h1
noncomputable def FX8_stock (k0 : Nat) (x1 : Int32) (x2 : Int32) (σ : zS) : Option (Int32 × zS) := zlet (zup σ k0 2 0) (fun σ_1 => zbd (FX8_isAisle k0 x1 σ_1) (fun r_3 σ_2 => if r_3 = 0 then zbd (FX8_fail k0 1 σ_2) (fun r_13 σ_12 => some (r_13, σ_12)) else zbd (FX8_isIn (Int32.toInt64 x2) 0 99 σ_2) (fun r_5 σ_4 => if r_5 = 0 then zbd (FX8_refuse k0 1 σ_4) (fun r_11 σ_10 => some (r_11, σ_10)) else zbd (FX8_keep k0 σ_4) (fun _ σ_6 => zin (ln 1 (k0 + 5)) x1 (zlet (σ_6 (k0 + 5) (Int32.toNatClampNeg x1)) (fun x3_8 => zin (ln 1 (k0 + 5)) x1 (zlet (zup σ_6 (k0 + 5) (Int32.toNatClampNeg x1) x2) (fun σ_9 => some (x3_8, σ_9)))))))))
set_option maxHeartbeats 4000000 in
set_option maxRecDepth 100000 in
theorem kX8_stock (l : Launch) {V : zV} {σ : zS} {t0 : Int32 × zS} {k0 : Nat} {x1 : Int32} {x2 : Int32} (hk0 : kd 1 k0 = 8) (h1 : FX8_stock k0 x1 x2 σ = some t0) : zMi l yX8_stock cX8_stock 4 (some .int) 2 46 1 V σ t0 [.ref (zad V k0), .int x1, .int x2] := by
  refine zMi_of (by decide) (Nat.le_of_ble_eq_true rfl) ?_
  intro p e s m below meth c A C0 hr hlk hZ ls hl
  generalize ([.ref (zad V k0), .int x1, .int x2] : List Value).toArray = args at C0 ⊢
  obtain ⟨Q, hQ⟩ : ∃ Q, Q = MQ below (zQi 1 V t0 A) args s 0 0 A := ⟨_, rfl⟩
  rw [← hQ]
  have hx := C0.1
  have hb := C0.2.1
  have hl : lv_has ls 4 [(0, .ref (zad V k0)), (1, .int x1), (2, .int x2)] := hl
  unfold FX8_stock at h1
  refine lv_aload_n hx hb dX8_stock_0 rfl (lv_at hl 0 rfl) ?_
  refine lv_iconst (v := 0) hx hb dX8_stock_1 (by decide) ?_
  refine z_puti C0 hZ h1 hk0 fRX8_159 rfl tyX8_ok nmX8 rfl rfl rfl dX8_stock_2 (fun σ_1 H locs h1 hZ => ?_)
  refine lv_aload_n hx hb dX8_stock_5 rfl (lv_at hl 0 rfl) ?_
  refine lv_iload_n hx hb dX8_stock_6 rfl (lv_at hl 1 rfl) ?_
  refine z_cVi (As := [.int x1]) (rest := []) C0 hZ h1 (fun _ hf => kX8_isAisle l hk0 hf) mRX8_357 vX8_isAisle hk0 rfl rfl hl.1 (Nat.le_of_ble_eq_true rfl) ⟨Nat.le_of_ble_eq_true rfl, Nat.le_of_ble_eq_true rfl⟩ dX8_stock_7 ⟨Nat.le_of_ble_eq_true rfl, Nat.le_of_ble_eq_true rfl⟩ (fun r_3 σ_2 H locs h1 hZ => ?_)
  refine z_if_ne (tgt := 19) C0 h1 dX8_stock_10 (by decide) (fun h1 => ?_) (fun h1 => ?_)
  · refine lv_iload_n hx hb dX8_stock_19 rfl (lv_at hl 2 rfl) ?_
    refine lv_i2l (v := (Int32.toInt64 x2)) hx hb dX8_stock_20 rfl ?_
    refine lv_lconst (v := 0) hx hb dX8_stock_21 (by decide) ?_
    refine lv_ldc2 (v := 99) hx hb C0.2.2.2.1 (C0.2.2.2.2 _ (zmem 1869 (by decide +kernel) (by decide +kernel))) dX8_stock_22 ?_
    refine z_cSi (As := [.long (Int32.toInt64 x2), .long 0, .long 99]) (rest := []) C0 hZ h1 (fun _ hf => kX8_isIn l  hf) mRX8_162 sX8_isIn rfl rfl hl.1 (Nat.le_of_ble_eq_true rfl) ⟨Nat.le_of_ble_eq_true rfl, Nat.le_of_ble_eq_true rfl⟩ dX8_stock_25 ⟨Nat.le_of_ble_eq_true rfl, Nat.le_of_ble_eq_true rfl⟩ (fun r_5 σ_4 H locs h1 hZ => ?_)
    refine z_if_ne (tgt := 37) C0 h1 dX8_stock_28 (by decide) (fun h1 => ?_) (fun h1 => ?_)
    · refine lv_aload_n hx hb dX8_stock_37 rfl (lv_at hl 0 rfl) ?_
      refine z_cVv (As := []) (rest := []) C0 hZ h1 (fun _ hf => kX8_keep l hk0 hf) mRX8_457 vX8_keep hk0 rfl rfl hl.1 (Nat.le_of_ble_eq_true rfl) ⟨Nat.le_of_ble_eq_true rfl, Nat.le_of_ble_eq_true rfl⟩ dX8_stock_38 ⟨Nat.le_of_ble_eq_true rfl, Nat.le_of_ble_eq_true rfl⟩ (fun _ σ_6 H locs h1 hZ => ?_)
      refine lv_aload_n hx hb dX8_stock_41 rfl (lv_at hl 0 rfl) ?_
      refine z_getr C0 hZ hk0 fRX8_46 rfl dX8_stock_42 ?_
      refine lv_iload_n hx hb dX8_stock_45 rfl (lv_at hl 1 rfl) ?_
      refine z_iald C0 hZ h1 (zkt8_5 hk0) dX8_stock_46 (fun h1 => ?_)
      refine z_istore_n C0 h1 hl (fun x3_8 => [(3, .int x3_8), (0, .ref (zad V k0)), (1, .int x1), (2, .int x2)]) dX8_stock_47 rfl (by decide) (fun _ => rfl) (fun x3_8 ls h1 hl => ?_)
      refine lv_aload_n hx hb dX8_stock_48 rfl (lv_at hl 1 rfl) ?_
      refine z_getr C0 hZ hk0 fRX8_46 rfl dX8_stock_49 ?_
      refine lv_iload_n hx hb dX8_stock_52 rfl (lv_at hl 2 rfl) ?_
      refine lv_iload_n hx hb dX8_stock_53 rfl (lv_at hl 3 rfl) ?_
      refine z_iast C0 hZ h1 (zkt8_5 hk0) dX8_stock_54 (fun σ_9 H locs h1 hZ => ?_)
      refine lv_iload_n hx hb dX8_stock_55 rfl (lv_at hl 0 rfl) ?_
      rw [hQ]; exact z_iret C0 hr hlk hZ h1 dX8_stock_56
    refine lv_aload_n hx hb dX8_stock_31 rfl (lv_at hl 0 rfl) ?_
    refine lv_iconst (v := 1) hx hb dX8_stock_32 (by decide) ?_
    refine z_cVi (As := [.int 1]) (rest := []) C0 hZ h1 (fun _ hf => kX8_refuse l hk0 hf) mRX8_462 vX8_refuse hk0 rfl rfl hl.1 (Nat.le_of_ble_eq_true rfl) ⟨Nat.le_of_ble_eq_true rfl, Nat.le_of_ble_eq_true rfl⟩ dX8_stock_33 ⟨Nat.le_of_ble_eq_true rfl, Nat.le_of_ble_eq_true rfl⟩ (fun r_11 σ_10 H locs h1 hZ => ?_)
    rw [hQ]; exact z_iret C0 hr hlk hZ h1 dX8_stock_36
  refine lv_aload_n hx hb dX8_stock_13 rfl (lv_at hl 0 rfl) ?_
  refine lv_iconst (v := 1) hx hb dX8_stock_14 (by decide) ?_
  refine z_cVi (As := [.int 1]) (rest := []) C0 hZ h1 (fun _ hf => kX8_fail l hk0 hf) mRX8_310 vX8_fail hk0 rfl rfl hl.1 (Nat.le_of_ble_eq_true rfl) ⟨Nat.le_of_ble_eq_true rfl, Nat.le_of_ble_eq_true rfl⟩ dX8_stock_15 ⟨Nat.le_of_ble_eq_true rfl, Nat.le_of_ble_eq_true rfl⟩ (fun r_13 σ_12 H locs h1 hZ => ?_)
  rw [hQ]; exact z_iret C0 hr hlk hZ h1 dX8_stock_18
noncomputable def FX8_days_b79 (k0 : Nat) (x1 : Int32) (x2 : Int32) (σ : zS) : Option (Int32 × zS) := zlet (zup σ k0 34 ((σ k0 34) + x1)) (fun σ_1 => some (x2, σ_1))
noncomputable def FX8_days_L55 (k0 : Nat) (x1 : Int32) (x2 : Int32) (x3 : Int32) (σ : zS) : Option ((Int32 × zS) ⊕ (Int32 × zS)) := if 10 ≤ x3 then zinr (FX8_days_b79 k0 x1 x2 σ) else zin (ln 1 (k0 + 23)) x3 (zin (ln 1 (k0 + 5)) x3 (zlet (zup σ (k0 + 5) (Int32.toNatClampNeg x3) (σ (k0 + 23) (Int32.toNatClampNeg x3))) (fun σ_2 => zlet (x3 + 1) (fun x3_3 => some (.inl (x3_3, σ_2))))))
noncomputable def FX8_days_b53 (k0 : Nat) (x1 : Int32) (x2 : Int32) (σ : zS) : Option (Int32 × zS) := zlet 0 (fun x3_4 => zlp (fun q => FX8_days_L55 k0 x1 x2 q.1 q.2) (x3_4, σ))
noncomputable def FX8_days_L35 (k0 : Nat) (x1 : Int32) (x2 : Int32) (x3 : Int32) (σ : zS) : Option ((Int32 × Int32 × zS) ⊕ (Int32 × zS)) := if x1 ≤ x3 then zinr (FX8_days_b53 k0 x1 x2 σ) else zbd (FX8_costNow k0 σ) (fun r_6 σ_5 => zlet (x2 + r_6) (fun x2_7 => zlet (x3 + 1) (fun x3_8 => some (.inl (x2_7, x3_8, σ_5)))))
noncomputable def FX8_days (k0 : Nat) (x1 : Int32) (σ : zS) : Option (Int32 × zS) := zlet (zup σ k0 2 0) (fun σ_9 => zbd (FX8_isIn (Int32.toInt64 x1) 1 30 σ_9) (fun r_11 σ_10 => if r_11 = 0 then zbd (FX8_refuse k0 1 σ_10) (fun r_19 σ_18 => some (r_19, σ_18)) else zbd (FX8_keep k0 σ_10) (fun _ σ_12 => zbd (FX8_set k0 σ_12) (fun _ σ_14 => zlet 0 (fun x2_16 => zlet 0 (fun x3_17 => zlp (fun q => FX8_days_L35 k0 x1 q.1 q.2.1 q.2.2) (x2_16, x3_17, σ_14)))))))
set_option maxHeartbeats 4000000 in
set_option maxRecDepth 100000 in
theorem kX8_days (l : Launch) {V : zV} {σ : zS} {t0 : Int32 × zS} {k0 : Nat} {x1 : Int32} (hk0 : kd 1 k0 = 8) (h1 : FX8_days k0 x1 σ = some t0) : zMi l yX8_days cX8_days 4 (some .int) 7 159 1 V σ t0 [.ref (zad V k0), .int x1] := by
  refine zMi_of (by decide) (Nat.le_of_ble_eq_true rfl) ?_
  intro p e s m below meth c A C0 hr hlk hZ ls hl
  generalize ([.ref (zad V k0), .int x1] : List Value).toArray = args at C0 ⊢
  obtain ⟨Q, hQ⟩ : ∃ Q, Q = MQ below (zQi 1 V t0 A) args s 0 0 A := ⟨_, rfl⟩
  rw [← hQ]
  have hx := C0.1
  have hb := C0.2.1
  have hl : lv_has ls 4 [(0, .ref (zad V k0)), (1, .int x1)] := hl
  unfold FX8_days at h1
  have J79 : ∀ (x2 : Int32) (σ : zS) (H : Heap) (locs : List Loc) (ls : Array Slot), zZ 1 V A σ s H locs → lv_has ls 4 [(0, .ref (zad V k0)), (1, .int x1), (2, .int x2)] → FX8_days_b79 k0 x1 x2 σ = some t0 → W p l e (zrm 7 159) s m args below meth c H locs 0 0 Q (F0 m 79 ls []) := by
    intro x2 σ H locs ls  hZ hl h1
    unfold FX8_days_b79 at h1
    refine lv_aload_n hx hb dX8_days_79 rfl (lv_at hl 0 rfl) ?_
    refine lv_dup hx hb dX8_days_80 rfl ?_
    refine z_geti C0 hZ hk0 fRX8_335 rfl dX8_days_81 ?_
    refine lv_iload_n hx hb dX8_days_84 rfl (lv_at hl 1 rfl) ?_
    refine lv_iadd hx hb dX8_days_85 ?_
    refine z_puti C0 hZ h1 hk0 fRX8_335 rfl tyX8_ok nmX8 rfl rfl rfl dX8_days_86 (fun σ_1 H locs h1 hZ => ?_)
    refine lv_iload_n hx hb dX8_days_89 rfl (lv_at hl 2 rfl) ?_
    rw [hQ]; exact z_iret C0 hr hlk hZ h1 dX8_days_90
  have J55 : ∀ (n : Nat) (x2 : Int32) (x3 : Int32) (σ : zS) (H : Heap) (locs : List Loc) (ls : Array Slot), zZ 1 V A σ s H locs → lv_has ls 4 [(0, .ref (zad V k0)), (1, .int x1), (2, .int x2), (3, .int x3)] → zit (fun q => FX8_days_L55 k0 x1 x2 q.1 q.2) n (x3, σ) = some t0 → W p l e (zrm 7 159) s m args below meth c H locs 0 0 Q (F0 m 55 ls []) := by
    intro n
    induction n with
    | zero => intro x2 x3 σ H locs ls  _ _ h1; cases h1
    | succ n ih55 =>
      intro x2 x3 σ H locs ls  hZ hl h1
      obtain ⟨t1, h1, hz1⟩ := zit_1 h1
      replace h1 : FX8_days_L55 k0 x1 x2 x3 σ = some t1 := h1
      unfold FX8_days_L55 at h1
      refine lv_iload_n hx hb dX8_days_55 rfl (lv_at hl 3 rfl) ?_
      refine lv_bipush (v := 10) hx hb dX8_days_56 (by decide) ?_
      refine z_ic_ge (tgt := 79) C0 h1 dX8_days_58 (by decide) (fun h1 => ?_) (fun h1 => ?_)
      · have h1 := zout h1 hz1
        exact J79 x2 _ _ _ _  hZ (lv_sub hl [0, 1, 2] rfl) h1
      refine lv_aload_n hx hb dX8_days_61 rfl (lv_at hl 0 rfl) ?_
      refine z_getr C0 hZ hk0 fRX8_46 rfl dX8_days_62 ?_
      refine lv_iload_n hx hb dX8_days_65 rfl (lv_at hl 3 rfl) ?_
      refine lv_aload_n hx hb dX8_days_66 rfl (lv_at hl 0 rfl) ?_
      refine z_getr C0 hZ hk0 fRX8_105 rfl dX8_days_67 ?_
      refine lv_iload_n hx hb dX8_days_70 rfl (lv_at hl 3 rfl) ?_
      refine z_iald C0 hZ h1 (zkt8_42 hk0) dX8_days_71 (fun h1 => ?_)
      refine z_iast C0 hZ h1 (zkt8_5 hk0) dX8_days_72 (fun σ_2 H locs h1 hZ => ?_)
      refine z_iinc (v := 1) C0 h1 hl (fun x3_3 => [(3, .int x3_3), (0, .ref (zad V k0)), (1, .int x1), (2, .int x2)]) dX8_days_73 (k := 3) rfl (by decide) (by decide) (fun _ => rfl) (fun x3_3 ls h1 hl => ?_)
      refine lv_goto (tgt := 55) hx hb dX8_days_76 (by decide) ?_
      exact ih55 x2 x3_3 _ _ _ _  hZ (lv_sub hl [1, 2, 3, 0] rfl) (zback h1 hz1)
  have J53 : ∀ (x2 : Int32) (σ : zS) (H : Heap) (locs : List Loc) (ls : Array Slot), zZ 1 V A σ s H locs → lv_has ls 4 [(0, .ref (zad V k0)), (1, .int x1), (2, .int x2)] → FX8_days_b53 k0 x1 x2 σ = some t0 → W p l e (zrm 7 159) s m args below meth c H locs 0 0 Q (F0 m 53 ls []) := by
    intro x2 σ H locs ls  hZ hl h1
    unfold FX8_days_b53 at h1
    refine lv_iconst (v := 0) hx hb dX8_days_53 (by decide) ?_
    refine z_istore_n C0 h1 hl (fun x3_4 => [(3, .int x3_4), (0, .ref (zad V k0)), (1, .int x1), (2, .int x2)]) dX8_days_54 rfl (by decide) (fun _ => rfl) (fun x3_4 ls h1 hl => ?_)
    obtain ⟨n, h1⟩ := zlp_iff.mp h1
    exact J55 n x2 x3_4 _ _ _ _  hZ (lv_sub hl [1, 2, 3, 0] rfl) h1
  have J35 : ∀ (n : Nat) (x2 : Int32) (x3 : Int32) (σ : zS) (H : Heap) (locs : List Loc) (ls : Array Slot), zZ 1 V A σ s H locs → lv_has ls 4 [(0, .ref (zad V k0)), (1, .int x1), (2, .int x2), (3, .int x3)] → zit (fun q => FX8_days_L35 k0 x1 q.1 q.2.1 q.2.2) n (x2, x3, σ) = some t0 → W p l e (zrm 7 159) s m args below meth c H locs 0 0 Q (F0 m 35 ls []) := by
    intro n
    induction n with
    | zero => intro x2 x3 σ H locs ls  _ _ h1; cases h1
    | succ n ih35 =>
      intro x2 x3 σ H locs ls  hZ hl h1
      obtain ⟨t1, h1, hz1⟩ := zit_1 h1
      replace h1 : FX8_days_L35 k0 x1 x2 x3 σ = some t1 := h1
      unfold FX8_days_L35 at h1
      refine lv_iload_n hx hb dX8_days_35 rfl (lv_at hl 3 rfl) ?_
      refine lv_iload_n hx hb dX8_days_36 rfl (lv_at hl 1 rfl) ?_
      refine z_ic_ge (tgt := 53) C0 h1 dX8_days_37 (by decide) (fun h1 => ?_) (fun h1 => ?_)
      · have h1 := zout h1 hz1
        exact J53 x2 _ _ _ _  hZ (lv_sub hl [0, 1, 2] rfl) h1
      refine lv_iload_n hx hb dX8_days_40 rfl (lv_at hl 2 rfl) ?_
      refine lv_aload_n hx hb dX8_days_41 rfl (lv_at hl 0 rfl) ?_
      refine z_cVi (As := []) (rest := [.int x2]) C0 hZ h1 (fun _ hf => kX8_costNow l hk0 hf) mRX8_472 vX8_costNow hk0 rfl rfl hl.1 (Nat.le_of_ble_eq_true rfl) ⟨Nat.le_of_ble_eq_true rfl, Nat.le_of_ble_eq_true rfl⟩ dX8_days_42 ⟨Nat.le_of_ble_eq_true rfl, Nat.le_of_ble_eq_true rfl⟩ (fun r_6 σ_5 H locs h1 hZ => ?_)
      refine lv_iadd hx hb dX8_days_45 ?_
      refine z_istore_n C0 h1 hl (fun x2_7 => [(2, .int x2_7), (0, .ref (zad V k0)), (1, .int x1), (3, .int x3)]) dX8_days_46 rfl (by decide) (fun _ => rfl) (fun x2_7 ls h1 hl => ?_)
      refine z_iinc (v := 1) C0 h1 hl (fun x3_8 => [(3, .int x3_8), (2, .int x2_7), (0, .ref (zad V k0)), (1, .int x1)]) dX8_days_47 (k := 3) rfl (by decide) (by decide) (fun _ => rfl) (fun x3_8 ls h1 hl => ?_)
      refine lv_goto (tgt := 35) hx hb dX8_days_50 (by decide) ?_
      exact ih35 x2_7 x3_8 _ _ _ _  hZ (lv_sub hl [2, 3, 1, 0] rfl) (zback h1 hz1)
  refine lv_aload_n hx hb dX8_days_0 rfl (lv_at hl 0 rfl) ?_
  refine lv_iconst (v := 0) hx hb dX8_days_1 (by decide) ?_
  refine z_puti C0 hZ h1 hk0 fRX8_159 rfl tyX8_ok nmX8 rfl rfl rfl dX8_days_2 (fun σ_9 H locs h1 hZ => ?_)
  refine lv_iload_n hx hb dX8_days_5 rfl (lv_at hl 1 rfl) ?_
  refine lv_i2l (v := (Int32.toInt64 x1)) hx hb dX8_days_6 rfl ?_
  refine lv_lconst (v := 1) hx hb dX8_days_7 (by decide) ?_
  refine lv_ldc2 (v := 30) hx hb C0.2.2.2.1 (C0.2.2.2.2 _ (zmem 1874 (by decide +kernel) (by decide +kernel))) dX8_days_8 ?_
  refine z_cSi (As := [.long (Int32.toInt64 x1), .long 1, .long 30]) (rest := []) C0 hZ h1 (fun _ hf => kX8_isIn l  hf) mRX8_162 sX8_isIn rfl rfl hl.1 (Nat.le_of_ble_eq_true rfl) ⟨Nat.le_of_ble_eq_true rfl, Nat.le_of_ble_eq_true rfl⟩ dX8_days_11 ⟨Nat.le_of_ble_eq_true rfl, Nat.le_of_ble_eq_true rfl⟩ (fun r_11 σ_10 H locs h1 hZ => ?_)
  refine z_if_ne (tgt := 23) C0 h1 dX8_days_14 (by decide) (fun h1 => ?_) (fun h1 => ?_)
  · refine lv_aload_n hx hb dX8_days_23 rfl (lv_at hl 0 rfl) ?_
    refine z_cVv (As := []) (rest := []) C0 hZ h1 (fun _ hf => kX8_keep l hk0 hf) mRX8_457 vX8_keep hk0 rfl rfl hl.1 (Nat.le_of_ble_eq_true rfl) ⟨Nat.le_of_ble_eq_true rfl, Nat.le_of_ble_eq_true rfl⟩ dX8_days_24 ⟨Nat.le_of_ble_eq_true rfl, Nat.le_of_ble_eq_true rfl⟩ (fun _ σ_12 H locs h1 hZ => ?_)
    refine lv_aload_n hx hb dX8_days_27 rfl (lv_at hl 0 rfl) ?_
    refine z_cVv (As := []) (rest := []) C0 hZ h1 (fun _ hf => kX8_set l hk0 hf) mRX8_469 vX8_set hk0 rfl rfl hl.1 (Nat.le_of_ble_eq_true rfl) ⟨Nat.le_of_ble_eq_true rfl, Nat.le_of_ble_eq_true rfl⟩ dX8_days_28 ⟨Nat.le_of_ble_eq_true rfl, Nat.le_of_ble_eq_true rfl⟩ (fun _ σ_14 H locs h1 hZ => ?_)
    refine lv_iconst (v := 0) hx hb dX8_days_31 (by decide) ?_
    refine z_istore_n C0 h1 hl (fun x2_16 => [(2, .int x2_16), (0, .ref (zad V k0)), (1, .int x1)]) dX8_days_32 rfl (by decide) (fun _ => rfl) (fun x2_16 ls h1 hl => ?_)
    refine lv_iconst (v := 0) hx hb dX8_days_33 (by decide) ?_
    refine z_istore_n C0 h1 hl (fun x3_17 => [(3, .int x3_17), (2, .int x2_16), (0, .ref (zad V k0)), (1, .int x1)]) dX8_days_34 rfl (by decide) (fun _ => rfl) (fun x3_17 ls h1 hl => ?_)
    obtain ⟨n, h1⟩ := zlp_iff.mp h1
    exact J35 n x2_16 x3_17 _ _ _ _  hZ (lv_sub hl [2, 3, 1, 0] rfl) h1
  refine lv_aload_n hx hb dX8_days_17 rfl (lv_at hl 0 rfl) ?_
  refine lv_iconst (v := 1) hx hb dX8_days_18 (by decide) ?_
  refine z_cVi (As := [.int 1]) (rest := []) C0 hZ h1 (fun _ hf => kX8_refuse l hk0 hf) mRX8_462 vX8_refuse hk0 rfl rfl hl.1 (Nat.le_of_ble_eq_true rfl) ⟨Nat.le_of_ble_eq_true rfl, Nat.le_of_ble_eq_true rfl⟩ dX8_days_19 ⟨Nat.le_of_ble_eq_true rfl, Nat.le_of_ble_eq_true rfl⟩ (fun r_19 σ_18 H locs h1 hZ => ?_)
  rw [hQ]; exact z_iret C0 hr hlk hZ h1 dX8_days_22
