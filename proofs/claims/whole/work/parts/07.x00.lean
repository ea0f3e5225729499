noncomputable def FX7_copyRow (k0 : Nat) (k1 : Nat) (σ : zS) : Option (Int32 × zS) := zgd (zcpok (ln 0 k0) (ln 0 k1) 0 0 (if (nI (ln 0 k1)) < (nI (ln 0 k0)) then (nI (ln 0 k1)) else (nI (ln 0 k0)))) (zlet (zrow σ k1 (va_cpy (σ k0) (σ k1) (Int32.toNatClampNeg 0) (Int32.toNatClampNeg 0) (Int32.toNatClampNeg (if (nI (ln 0 k1)) < (nI (ln 0 k0)) then (nI (ln 0 k1)) else (nI (ln 0 k0)))))) (fun σ_2 => some (0, σ_2)))
set_option maxHeartbeats 4000000 in
set_option maxRecDepth 100000 in
theorem kX7_copyRow (l : Launch) {V : zV} {σ : zS} {t0 : Int32 × zS} {k0 : Nat} {k1 : Nat} (hk0 : kd 0 k0 = 100) (hk1 : kd 0 k1 = 100) (h1 : FX7_copyRow k0 k1 σ = some t0) : zMv l yX7_copyRow cX7_copyRow 2 1 60 0 V σ t0 [.ref (zad V k0), .ref (zad V k1)] := by
  refine zMv_of (by decide) (Nat.le_of_ble_eq_true rfl) ?_
  intro p e s m below meth c A C0 hr hlk hZ ls hl
  generalize ([.ref (zad V k0), .ref (zad V k1)] : List Value).toArray = args at C0 ⊢
  obtain ⟨Q, hQ⟩ : ∃ Q, Q = MQ below (zQv 0 V t0 A) args s 0 0 A := ⟨_, rfl⟩
  rw [← hQ]
  have hx := C0.1
  have hb := C0.2.1
  have hl : lv_has ls 2 [(0, .ref (zad V k0)), (1, .ref (zad V k1))] := hl
  unfold FX7_copyRow at h1
  refine lv_aload_n hx hb dX7_copyRow_0 rfl (lv_at hl 0 rfl) ?_
  refine lv_iconst (v := 0) hx hb dX7_copyRow_1 (by decide) ?_
  refine lv_aload_n hx hb dX7_copyRow_2 rfl (lv_at hl 1 rfl) ?_
  refine lv_iconst (v := 0) hx hb dX7_copyRow_3 (by decide) ?_
  refine lv_aload_n hx hb dX7_copyRow_4 rfl (lv_at hl 0 rfl) ?_
  refine z_alen C0 hZ hk0 dX7_copyRow_5 ?_
  refine lv_aload_n hx hb dX7_copyRow_6 rfl (lv_at hl 1 rfl) ?_
  refine z_alen C0 hZ hk1 dX7_copyRow_7 ?_
  refine z_mmin C0 hl.1 mmRX7_362 ⟨Nat.le_of_ble_eq_true rfl, Nat.le_of_ble_eq_true rfl⟩ ⟨Nat.le_of_ble_eq_true rfl, Nat.le_of_ble_eq_true rfl⟩ dX7_copyRow_8 ?_
  refine z_copy C0 hl.1 hZ h1 cpRX7_365 hk0 hk1 ⟨Nat.le_of_ble_eq_true rfl, Nat.le_of_ble_eq_true rfl⟩ dX7_copyRow_11 (fun σ_2 H locs h1 hZ => ?_)
  rw [hQ]; exact z_vret C0 hr hlk hZ h1 dX7_copyRow_14
noncomputable def FX0_prepare (k0 : Nat) (k1 : Nat) (k2 : Nat) (σ : zS) : Option (Int32 × zS) := zlet (zup σ k0 0 (nI k1)) (fun σ_1 => zlet (zup σ_1 k0 1 (σ_1 k2 0)) (fun σ_2 => zlet (zup σ_2 k0 2 (σ_2 k2 1)) (fun σ_3 => zlet (zup σ_3 k0 3 (σ_3 k2 2)) (fun σ_4 => zlet (zup σ_4 k0 4 (σ_4 k2 3)) (fun σ_5 => zlet (zup σ_5 k0 5 0) (fun σ_6 => zgd (kd 0 (σ_6 k0 0).toNatClampNeg == 5) (zlet (σ_6 k0 0).toNatClampNeg (fun q_7 => zbd (FX7_copyRow ((q_7 + 1) + 1) (k0 + 1) σ_6) (fun _ σ_8 => zbd (FX7_copyRow (k2 + 1) (k0 + 2) σ_8) (fun _ σ_10 => zbd (FX7_copyRow (k2 + 2) (k0 + 3) σ_10) (fun _ σ_12 => some (0, σ_12))))))))))))
set_option maxHeartbeats 4000000 in
set_option maxRecDepth 100000 in
theorem kX0_prepare (l : Launch) {V : zV} {σ : zS} {t0 : Int32 × zS} {k0 : Nat} {k1 : Nat} {k2 : Nat} (hk0 : kd 0 k0 = 0) (hk1 : kd 0 k1 = 5) (hk2 : kd 0 k2 = 6) (h1 : FX0_prepare k0 k1 k2 σ = some t0) : zMv l yX0_prepare cX0_prepare 3 2 81 0 V σ t0 [.ref (zad V k0), .ref (zad V k1), .ref (zad V k2)] := by
  refine zMv_of (by decide) (Nat.le_of_ble_eq_true rfl) ?_
  intro p e s m below meth c A C0 hr hlk hZ ls hl
  generalize ([.ref (zad V k0), .ref (zad V k1), .ref (zad V k2)] : List Value).toArray = args at C0 ⊢
  obtain ⟨Q, hQ⟩ : ∃ Q, Q = MQ below (zQv 0 V t0 A) args s 0 0 A := ⟨_, rfl⟩
  rw [← hQ]
  have hx := C0.1
  have hb := C0.2.1
  have hl : lv_has ls 3 [(0, .ref (zad V k0)), (1, .ref (zad V k1)), (2, .ref (zad V k2))] := hl
  unfold FX0_prepare at h1
  refine lv_aload_n hx hb dX0_prepare_0 rfl (lv_at hl 0 rfl) ?_
  refine lv_aload_n hx hb dX0_prepare_1 rfl (lv_at hl 1 rfl) ?_
  refine z_putm C0 hZ h1 hk0 (zkd_lt hk1) fRX0_64 rfl tyX0_ok nmX0 rfl (fun _ => rfl) (fun _ => rfl) dX0_prepare_2 (fun σ_1 H locs h1 hZ => ?_)
  refine lv_aload_n hx hb dX0_prepare_5 rfl (lv_at hl 0 rfl) ?_
  refine lv_aload_n hx hb dX0_prepare_6 rfl (lv_at hl 2 rfl) ?_
  refine z_geti C0 hZ hk2 fRX0_68 rfl dX0_prepare_7 ?_
  refine z_puti C0 hZ h1 hk0 fRX0_9 rfl tyX0_ok nmX0 rfl rfl rfl dX0_prepare_10 (fun σ_2 H locs h1 hZ => ?_)
  refine lv_aload_n hx hb dX0_prepare_13 rfl (lv_at hl 0 rfl) ?_
  refine lv_aload_n hx hb dX0_prepare_14 rfl (lv_at hl 2 rfl) ?_
  refine z_geti C0 hZ hk2 fRX0_71 rfl dX0_prepare_15 ?_
  refine z_puti C0 hZ h1 hk0 fRX0_15 rfl tyX0_ok nmX0 rfl rfl rfl dX0_prepare_18 (fun σ_3 H locs h1 hZ => ?_)
  refine lv_aload_n hx hb dX0_prepare_21 rfl (lv_at hl 0 rfl) ?_
  refine lv_aload_n hx hb dX0_prepare_22 rfl (lv_at hl 2 rfl) ?_
  refine z_geti C0 hZ hk2 fRX0_72 rfl dX0_prepare_23 ?_
  refine z_puti C0 hZ h1 hk0 fRX0_18 rfl tyX0_ok nmX0 rfl rfl rfl dX0_prepare_26 (fun σ_4 H locs h1 hZ => ?_)
  refine lv_aload_n hx hb dX0_prepare_29 rfl (lv_at hl 0 rfl) ?_
  refine lv_aload_n hx hb dX0_prepare_30 rfl (lv_at hl 2 rfl) ?_
  refine z_geti C0 hZ hk2 fRX0_73 rfl dX0_prepare_31 ?_
  refine z_puti C0 hZ h1 hk0 fRX0_21 rfl tyX0_ok nmX0 rfl rfl rfl dX0_prepare_34 (fun σ_5 H locs h1 hZ => ?_)
  refine lv_aload_n hx hb dX0_prepare_37 rfl (lv_at hl 0 rfl) ?_
  refine lv_iconst (v := 0) hx hb dX0_prepare_38 (by decide) ?_
  refine z_puti C0 hZ h1 hk0 fRX0_24 rfl tyX0_ok nmX0 rfl rfl rfl dX0_prepare_39 (fun σ_6 H locs h1 hZ => ?_)
  refine lv_aload_n hx hb dX0_prepare_42 rfl (lv_at hl 0 rfl) ?_
  refine z_getm C0 hZ h1 hk0 fRX0_64 rfl dX0_prepare_43 (fun q_7 hq_7 h1 => ?_)
  refine z_getr C0 hZ hq_7 fRX0_74 rfl dX0_prepare_46 ?_
  refine z_getr C0 hZ (zkt5_0 hq_7) fRX0_80 rfl dX0_prepare_49 ?_
  refine lv_aload_n hx hb dX0_prepare_52 rfl (lv_at hl 0 rfl) ?_
  refine z_getr C0 hZ hk0 fRX0_27 rfl dX0_prepare_53 ?_
  refine z_cSv (As := [.ref (zad V ((q_7 + 1) + 1)), .ref (zad V (k0 + 1))]) (rest := []) C0 hZ h1 (fun _ hf => kX7_copyRow l (zkt1_3 (zkt5_0 hq_7)) (zkt0_6 hk0) hf) mRX0_83 sX7_copyRow rfl rfl hl.1 (Nat.le_of_ble_eq_true rfl) ⟨Nat.le_of_ble_eq_true rfl, Nat.le_of_ble_eq_true rfl⟩ dX0_prepare_56 ⟨Nat.le_of_ble_eq_true rfl, Nat.le_of_ble_eq_true rfl⟩ (fun _ σ_8 H locs h1 hZ => ?_)
  refine lv_aload_n hx hb dX0_prepare_59 rfl (lv_at hl 2 rfl) ?_
  refine z_getr C0 hZ hk2 fRX0_87 rfl dX0_prepare_60 ?_
  refine lv_aload_n hx hb dX0_prepare_63 rfl (lv_at hl 0 rfl) ?_
  refine z_getr C0 hZ hk0 fRX0_31 rfl dX0_prepare_64 ?_
  refine z_cSv (As := [.ref (zad V (k2 + 1)), .ref (zad V (k0 + 2))]) (rest := []) C0 hZ h1 (fun _ hf => kX7_copyRow l (zkt6_6 hk2) (zkt0_7 hk0) hf) mRX0_83 sX7_copyRow rfl rfl hl.1 (Nat.le_of_ble_eq_true rfl) ⟨Nat.le_of_ble_eq_true rfl, Nat.le_of_ble_eq_true rfl⟩ dX0_prepare_67 ⟨Nat.le_of_ble_eq_true rfl, Nat.le_of_ble_eq_true rfl⟩ (fun _ σ_10 H locs h1 hZ => ?_)
  refine lv_aload_n hx hb dX0_prepare_70 rfl (lv_at hl 2 rfl) ?_
  refine z_getr C0 hZ hk2 fRX0_88 rfl dX0_prepare_71 ?_
  refine lv_aload_n hx hb dX0_prepare_74 rfl (lv_at hl 0 rfl) ?_
  refine z_getr C0 hZ hk0 fRX0_34 rfl dX0_prepare_75 ?_
  refine z_cSv (As := [.ref (zad V (k2 + 2)), .ref (zad V (k0 + 3))]) (rest := []) C0 hZ h1 (fun _ hf => kX7_copyRow l (zkt6_7 hk2) (zkt0_8 hk0) hf) mRX0_83 sX7_copyRow rfl rfl hl.1 (Nat.le_of_ble_eq_true rfl) ⟨Nat.le_of_ble_eq_true rfl, Nat.le_of_ble_eq_true rfl⟩ dX0_prepare_78 ⟨Nat.le_of_ble_eq_true rfl, Nat.le_of_ble_eq_true rfl⟩ (fun _ σ_12 H locs h1 hZ => ?_)
  rw [hQ]; exact z_vret C0 hr hlk hZ h1 dX0_prepare_81
noncomputable def FX7_fillRow_b18  (σ : zS) : Option (Int32 × zS) := some (0, σ)
noncomputable def FX7_fillRow_L2 (k0 : Nat) (x1 : Int32) (x2 : Int32) (σ : zS) : Option ((Int32 × zS) ⊕ (Int32 × zS)) := if (nI (ln 0 k0)) ≤ x2 then zinr (FX7_fillRow_b18  σ) else zin (ln 0 k0) x2 (zlet (zup σ k0 (Int32.toNatClampNeg x2) x1) (fun σ_1 => zlet (x2 + 1) (fun x2_2 => some (.inl (x2_2, σ_1)))))
noncomputable def FX7_fillRow (k0 : Nat) (x1 : Int32) (σ : zS) : Option (Int32 × zS) := zlet 0 (fun x2_3 => zlp (fun q => FX7_fillRow_L2 k0 x1 q.1 q.2) (x2_3, σ))
set_option maxHeartbeats 4000000 in
set_option maxRecDepth 100000 in
theorem kX7_fillRow (l : Launch) {V : zV} {σ : zS} {t0 : Int32 × zS} {k0 : Nat} {x1 : Int32} (hk0 : kd 0 k0 = 100) (h1 : FX7_fillRow k0 x1 σ = some t0) : zMv l yX7_fillRow cX7_fillRow 3 0 0 0 V σ t0 [.ref (zad V k0), .int x1] := by
  refine zMv_of (by decide) (Nat.le_of_ble_eq_true rfl) ?_
  intro p e s m below meth c A C0 hr hlk hZ ls hl
  generalize ([.ref (zad V k0), .int x1] : List Value).toArray = args at C0 ⊢
  obtain ⟨Q, hQ⟩ : ∃ Q, Q = MQ below (zQv 0 V t0 A) args s 0 0 A := ⟨_, rfl⟩
  rw [← hQ]
  have hx := C0.1
  have hb := C0.2.1
  have hl : lv_has ls 3 [(0, .ref (zad V k0)), (1, .int x1)] := hl
  unfold FX7_fillRow at h1
  have J18 : ∀  (σ : zS) (H : Heap) (locs : List Loc) (ls : Array Slot), zZ 0 V A σ s H locs → lv_has ls 3 [] → FX7_fillRow_b18  σ = some t0 → W p l e (zrm 0 0) s m args below meth c H locs 0 0 Q (F0 m 18 ls []) := by
    intro  σ H locs ls  hZ hl h1
    unfold FX7_fillRow_b18 at h1
    rw [hQ]; exact z_vret C0 hr hlk hZ h1 dX7_fillRow_18
  have J2 : ∀ (n : Nat) (x2 : Int32) (σ : zS) (H : Heap) (locs : List Loc) (ls : Array Slot), zZ 0 V A σ s H locs → lv_has ls 3 [(0, .ref (zad V k0)), (1, .int x1), (2, .int x2)] → zit (fun q => FX7_fillRow_L2 k0 x1 q.1 q.2) n (x2, σ) = some t0 → W p l e (zrm 0 0) s m args below meth c H locs 0 0 Q (F0 m 2 ls []) := by
    intro n
    induction n with
    | zero => intro x2 σ H locs ls  _ _ h1; cases h1
    | succ n ih2 =>
      intro x2 σ H locs ls  hZ hl h1
      obtain ⟨t1, h1, hz1⟩ := zit_1 h1
      replace h1 : FX7_fillRow_L2 k0 x1 x2 σ = some t1 := h1
      unfold FX7_fillRow_L2 at h1
      refine lv_iload_n hx hb dX7_fillRow_2 rfl (lv_at hl 2 rfl) ?_
      refine lv_aload_n hx hb dX7_fillRow_3 rfl (lv_at hl 0 rfl) ?_
      refine z_alen C0 hZ hk0 dX7_fillRow_4 ?_
      refine z_ic_ge (tgt := 18) C0 h1 dX7_fillRow_5 (by decide) (fun h1 => ?_) (fun h1 => ?_)
      · have h1 := zout h1 hz1
        exact J18  _ _ _ _  hZ (lv_sub hl [] rfl) h1
      refine lv_aload_n hx hb dX7_fillRow_8 rfl (lv_at hl 0 rfl) ?_
      refine lv_iload_n hx hb dX7_fillRow_9 rfl (lv_at hl 2 rfl) ?_
      refine lv_iload_n hx hb dX7_fillRow_10 rfl (lv_at hl 1 rfl) ?_
      refine z_iast C0 hZ h1 hk0 dX7_fillRow_11 (fun σ_1 H locs h1 hZ => ?_)
      refine z_iinc (v := 1) C0 h1 hl (fun x2_2 => [(2, .int x2_2), (0, .ref (zad V k0)), (1, .int x1)]) dX7_fillRow_12 (k := 2) rfl (by decide) (by decide) (fun _ => rfl) (fun x2_2 ls h1 hl => ?_)
      refine lv_goto (tgt := 2) hx hb dX7_fillRow_15 (by decide) ?_
      exact ih2 x2_2 _ _ _ _  hZ (lv_sub hl [1, 2, 0] rfl) (zback h1 hz1)
  refine lv_iconst (v := 0) hx hb dX7_fillRow_0 (by decide) ?_
  refine z_istore_n C0 h1 hl (fun x2_3 => [(2, .int x2_3), (0, .ref (zad V k0)), (1, .int x1)]) dX7_fillRow_1 rfl (by decide) (fun _ => rfl) (fun x2_3 ls h1 hl => ?_)
  obtain ⟨n, h1⟩ := zlp_iff.mp h1
  exact J2 n x2_3 _ _ _ _  hZ (lv_sub hl [1, 2, 0] rfl) h1
noncomputable def FX7_holds_b23 (y0 : Int32) (σ : zS) : Option (Int32 × zS) := zgd (y0 == 0 || y0 == 1) (some (y0, σ))
noncomputable def FX7_holds_b22  (σ : zS) : Option (Int32 × zS) := FX7_holds_b23 0 σ
noncomputable def FX7_holds (x0 : Int32) (x1 : Int32) (σ : zS) : Option (Int32 × zS) := if x1 < 0 then FX7_holds_b22  σ else if 32 ≤ x1 then FX7_holds_b22  σ else if ((x0 >>> (x1 &&& 31)) &&& 1) = 0 then FX7_holds_b22  σ else FX7_holds_b23 1 σ
set_option maxHeartbeats 4000000 in
set_option maxRecDepth 100000 in
theorem kX7_holds (l : Launch) {V : zV} {σ : zS} {t0 : Int32 × zS} {x0 : Int32} {x1 : Int32}  (h1 : FX7_holds x0 x1 σ = some t0) : zMi l yX7_holds cX7_holds 2 (some .boolean) 0 0 0 V σ t0 [.int x0, .int x1] := by
  refine zMi_of (by decide) (Nat.le_of_ble_eq_true rfl) ?_
  intro p e s m below meth c A C0 hr hlk hZ ls hl
  generalize ([.int x0, .int x1] : List Value).toArray = args at C0 ⊢
  obtain ⟨Q, hQ⟩ : ∃ Q, Q = MQ below (zQi 0 V t0 A) args s 0 0 A := ⟨_, rfl⟩
  rw [← hQ]
  have hx := C0.1
  have hb := C0.2.1
  have hl : lv_has ls 2 [(0, .int x0), (1, .int x1)] := hl
  unfold FX7_holds at h1
  have J23 : ∀ (y0 : Int32) (σ : zS) (H : Heap) (locs : List Loc) (ls : Array Slot), zZ 0 V A σ s H locs → lv_has ls 2 [] → FX7_holds_b23 y0 σ = some t0 → W p l e (zrm 0 0) s m args below meth c H locs 0 0 Q (F0 m 23 ls [.int y0]) := by
    intro y0 σ H locs ls  hZ hl h1
    unfold FX7_holds_b23 at h1
    rw [hQ]; exact z_zret C0 hr hlk hZ h1 dX7_holds_23
  have J22 : ∀  (σ : zS) (H : Heap) (locs : List Loc) (ls : Array Slot), zZ 0 V A σ s H locs → lv_has ls 2 [] → FX7_holds_b22  σ = some t0 → W p l e (zrm 0 0) s m args below meth c H locs 0 0 Q (F0 m 22 ls []) := by
    intro  σ H locs ls  hZ hl h1
    unfold FX7_holds_b22 at h1
    refine lv_iconst (v := 0) hx hb dX7_holds_22 (by decide) ?_
    exact J23 0 _ _ _ _  hZ (lv_sub hl [] rfl) h1
  refine lv_iload_n hx hb dX7_holds_0 rfl (lv_at hl 1 rfl) ?_
  refine z_if_lt (tgt := 22) C0 h1 dX7_holds_1 (by decide) (fun h1 => ?_) (fun h1 => ?_)
  · exact J22  _ _ _ _  hZ (lv_sub hl [] rfl) h1
  refine lv_iload_n hx hb dX7_holds_4 rfl (lv_at hl 1 rfl) ?_
  refine lv_bipush (v := 32) hx hb dX7_holds_5 (by decide) ?_
  refine z_ic_ge (tgt := 22) C0 h1 dX7_holds_7 (by decide) (fun h1 => ?_) (fun h1 => ?_)
  · exact J22  _ _ _ _  hZ (lv_sub hl [] rfl) h1
  refine lv_iload_n hx hb dX7_holds_10 rfl (lv_at hl 0 rfl) ?_
  refine lv_iload_n hx hb dX7_holds_11 rfl (lv_at hl 1 rfl) ?_
  refine lv_ishr hx hb dX7_holds_12 ?_
  refine lv_iconst (v := 1) hx hb dX7_holds_13 (by decide) ?_
  refine lv_iand hx hb dX7_holds_14 ?_
  refine z_if_eq (tgt := 22) C0 h1 dX7_holds_15 (by decide) (fun h1 => ?_) (fun h1 => ?_)
  · exact J22  _ _ _ _  hZ (lv_sub hl [] rfl) h1
  refine lv_iconst (v := 1) hx hb dX7_holds_18 (by decide) ?_
  refine lv_goto (tgt := 23) hx hb dX7_holds_19 (by decide) ?_
  exact J23 1 _ _ _ _  hZ (lv_sub hl [] rfl) h1
noncomputable def FX7_at_b17 (y0 : Int32) (σ : zS) : Option (Int32 × zS) := some (y0, σ)
noncomputable def FX7_at_b16  (σ : zS) : Option (Int32 × zS) := FX7_at_b17 0 σ
noncomputable def FX7_at (k0 : Nat) (x1 : Int32) (σ : zS) : Option (Int32 × zS) := if x1 < 0 then FX7_at_b16  σ else if (nI (ln 0 k0)) ≤ x1 then FX7_at_b16  σ else zin (ln 0 k0) x1 (FX7_at_b17 (σ k0 (Int32.toNatClampNeg x1)) σ)
set_option maxHeartbeats 4000000 in
set_option maxRecDepth 100000 in
theorem kX7_at (l : Launch) {V : zV} {σ : zS} {t0 : Int32 × zS} {k0 : Nat} {x1 : Int32} (hk0 : kd 0 k0 = 100) (h1 : FX7_at k0 x1 σ = some t0) : zMi l yX7_at cX7_at 2 (some .int) 0 0 0 V σ t0 [.ref (zad V k0), .int x1] := by
  refine zMi_of (by decide) (Nat.le_of_ble_eq_true rfl) ?_
  intro p e s m below meth c A C0 hr hlk hZ ls hl
  generalize ([.ref (zad V k0), .int x1] : List Value).toArray = args at C0 ⊢
  obtain ⟨Q, hQ⟩ : ∃ Q, Q = MQ below (zQi 0 V t0 A) args s 0 0 A := ⟨_, rfl⟩
  rw [← hQ]
  have hx := C0.1
  have hb := C0.2.1
  have hl : lv_has ls 2 [(0, .ref (zad V k0)), (1, .int x1)] := hl
  unfold FX7_at at h1
  have J17 : ∀ (y0 : Int32) (σ : zS) (H : Heap) (locs : List Loc) (ls : Array Slot), zZ 0 V A σ s H locs → lv_has ls 2 [] → FX7_at_b17 y0 σ = some t0 → W p l e (zrm 0 0) s m args below meth c H locs 0 0 Q (F0 m 17 ls [.int y0]) := by
    intro y0 σ H locs ls  hZ hl h1
    unfold FX7_at_b17 at h1
    rw [hQ]; exact z_iret C0 hr hlk hZ h1 dX7_at_17
  have J16 : ∀  (σ : zS) (H : Heap) (locs : List Loc) (ls : Array Slot), zZ 0 V A σ s H locs → lv_has ls 2 [] → FX7_at_b16  σ = some t0 → W p l e (zrm 0 0) s m args below meth c H locs 0 0 Q (F0 m 16 ls []) := by
    intro  σ H locs ls  hZ hl h1
    unfold FX7_at_b16 at h1
    refine lv_iconst (v := 0) hx hb dX7_at_16 (by decide) ?_
    exact J17 0 _ _ _ _  hZ (lv_sub hl [] rfl) h1
  refine lv_iload_n hx hb dX7_at_0 rfl (lv_at hl 1 rfl) ?_
  refine z_if_lt (tgt := 16) C0 h1 dX7_at_1 (by decide) (fun h1 => ?_) (fun h1 => ?_)
  · exact J16  _ _ _ _  hZ (lv_sub hl [] rfl) h1
  refine lv_iload_n hx hb dX7_at_4 rfl (lv_at hl 1 rfl) ?_
  refine lv_aload_n hx hb dX7_at_5 rfl (lv_at hl 0 rfl) ?_
  refine z_alen C0 hZ hk0 dX7_at_6 ?_
  refine z_ic_ge (tgt := 16) C0 h1 dX7_at_7 (by decide) (fun h1 => ?_) (fun h1 => ?_)
  · exact J16  _ _ _ _  hZ (lv_sub hl [] rfl) h1
  refine lv_aload_n hx hb dX7_at_10 rfl (lv_at hl 0 rfl) ?_
  refine lv_iload_n hx hb dX7_at_11 rfl (lv_at hl 1 rfl) ?_
  refine z_iald C0 hZ h1 hk0 dX7_at_12 (fun h1 => ?_)
  refine lv_goto (tgt := 17) hx hb dX7_at_13 (by decide) ?_
  exact J17 (σ k0 (Int32.toNatClampNeg x1)) _ _ _ _  hZ (lv_sub hl [] rfl) h1
noncomputable def FX2_stepOf (k0 : Nat) (x1 : Int32) (x2 : Int32) (σ : zS) : Option (Int32 × zS) := zbd (FX7_at (k0 + 6) ((x1 * 12) + x2) σ) (fun r_2 σ_1 => some (r_2, σ_1))
set_option maxHeartbeats 4000000 in
set_option maxRecDepth 100000 in
theorem kX2_stepOf (l : Launch) {V : zV} {σ : zS} {t0 : Int32 × zS} {k0 : Nat} {x1 : Int32} {x2 : Int32} (hk0 : kd 0 k0 = 2) (h1 : FX2_stepOf k0 x1 x2 σ = some t0) : zMi l yX2_stepOf cX2_stepOf 3 (some .int) 1 21 0 V σ t0 [.ref (zad V k0), .int x1, .int x2] := by
  refine zMi_of (by decide) (Nat.le_of_ble_eq_true rfl) ?_
  intro p e s m below meth c A C0 hr hlk hZ ls hl
  generalize ([.ref (zad V k0), .int x1, .int x2] : List Value).toArray = args at C0 ⊢
  obtain ⟨Q, hQ⟩ : ∃ Q, Q = MQ below (zQi 0 V t0 A) args s 0 0 A := ⟨_, rfl⟩
  rw [← hQ]
  have hx := C0.1
  have hb := C0.2.1
  have hl : lv_has ls 3 [(0, .ref (zad V k0)), (1, .int x1), (2, .int x2)] := hl
  unfold FX2_stepOf at h1
  refine lv_aload_n hx hb dX2_stepOf_0 rfl (lv_at hl 0 rfl) ?_
  refine z_getr C0 hZ hk0 fRX2_31 rfl dX2_stepOf_1 ?_
  refine lv_iload_n hx hb dX2_stepOf_4 rfl (lv_at hl 1 rfl) ?_
  refine lv_bipush (v := 12) hx hb dX2_stepOf_5 (by decide) ?_
  refine lv_imul hx hb dX2_stepOf_7 ?_
  refine lv_iload_n hx hb dX2_stepOf_8 rfl (lv_at hl 2 rfl) ?_
  refine lv_iadd hx hb dX2_stepOf_9 ?_
  refine z_cSi (As := [.ref (zad V (k0 + 6)), .int ((x1 * 12) + x2)]) (rest := []) C0 hZ h1 (fun _ hf => kX7_at l (zkt2_6 hk0) hf) mRX2_34 sX7_at rfl rfl hl.1 (Nat.le_of_ble_eq_true rfl) ⟨Nat.le_of_ble_eq_true rfl, Nat.le_of_ble_eq_true rfl⟩ dX2_stepOf_10 ⟨Nat.le_of_ble_eq_true rfl, Nat.le_of_ble_eq_true rfl⟩ (fun r_2 σ_1 H locs h1 hZ => ?_)
  rw [hQ]; exact z_iret C0 hr hlk hZ h1 dX2_stepOf_13
noncomputable def FX2_lastStep (k0 : Nat) (x1 : Int32) (σ : zS) : Option (Int32 × zS) := zbd (FX7_at (k0 + 5) x1 σ) (fun r_2 σ_1 => zbd (FX2_stepOf k0 x1 (r_2 - 1) σ_1) (fun r_4 σ_3 => some (r_4, σ_3)))
set_option maxHeartbeats 4000000 in
set_option maxRecDepth 100000 in
theorem kX2_lastStep (l : Launch) {V : zV} {σ : zS} {t0 : Int32 × zS} {k0 : Nat} {x1 : Int32} (hk0 : kd 0 k0 = 2) (h1 : FX2_lastStep k0 x1 σ = some t0) : zMi l yX2_lastStep cX2_lastStep 2 (some .int) 2 43 0 V σ t0 [.ref (zad V k0), .int x1] := by
  refine zMi_of (by decide) (Nat.le_of_ble_eq_true rfl) ?_
  intro p e s m below meth c A C0 hr hlk hZ ls hl
  generalize ([.ref (zad V k0), .int x1] : List Value).toArray = args at C0 ⊢
  obtain ⟨Q, hQ⟩ : ∃ Q, Q = MQ below (zQi 0 V t0 A) args s 0 0 A := ⟨_, rfl⟩
  rw [← hQ]
  have hx := C0.1
  have hb := C0.2.1
  have hl : lv_has ls 2 [(0, .ref (zad V k0)), (1, .int x1)] := hl
  unfold FX2_lastStep at h1
  refine lv_aload_n hx hb dX2_lastStep_0 rfl (lv_at hl 0 rfl) ?_
  refine lv_iload_n hx hb dX2_lastStep_1 rfl (lv_at hl 1 rfl) ?_
  refine lv_aload_n hx hb dX2_lastStep_2 rfl (lv_at hl 0 rfl) ?_
  refine z_getr C0 hZ hk0 fRX2_28 rfl dX2_lastStep_3 ?_
  refine lv_iload_n hx hb dX2_lastStep_6 rfl (lv_at hl 1 rfl) ?_
  refine z_cSi (As := [.ref (zad V (k0 + 5)), .int x1]) (rest := [.int x1, .ref (zad V k0)]) C0 hZ h1 (fun _ hf => kX7_at l (zkt2_5 hk0) hf) mRX2_34 sX7_at rfl rfl hl.1 (Nat.le_of_ble_eq_true rfl) ⟨Nat.le_of_ble_eq_true rfl, Nat.le_of_ble_eq_true rfl⟩ dX2_lastStep_7 ⟨Nat.le_of_ble_eq_true rfl, Nat.le_of_ble_eq_true rfl⟩ (fun r_2 σ_1 H locs h1 hZ => ?_)
  refine lv_iconst (v := 1) hx hb dX2_lastStep_10 (by decide) ?_
  refine lv_isub hx hb dX2_lastStep_11 ?_
  refine z_cVi (As := [.int x1, .int (r_2 - 1)]) (rest := []) C0 hZ h1 (fun _ hf => kX2_stepOf l hk0 hf) mRX2_38 vX2_stepOf hk0 rfl rfl hl.1 (Nat.le_of_ble_eq_true rfl) ⟨Nat.le_of_ble_eq_true rfl, Nat.le_of_ble_eq_true rfl⟩ dX2_lastStep_12 ⟨Nat.le_of_ble_eq_true rfl, Nat.le_of_ble_eq_true rfl⟩ (fun r_4 σ_3 H locs h1 hZ => ?_)
  rw [hQ]; exact z_iret C0 hr hlk hZ h1 dX2_lastStep_15
noncomputable def FX2_placeIn_b53 (y0 : Int32) (σ : zS) : Option (Int32 × zS) := some (y0, σ)
noncomputable def FX2_placeIn (k0 : Nat) (x1 : Int32) (x2 : Int32) (σ : zS) : Option (Int32 × zS) := zbd (FX7_at (k0 + 2) x1 σ) (fun r_2 σ_1 => zlet (x2 - r_2) (fun x3_3 => if 0 ≤ x3_3 then zbd (FX7_at (k0 + 5) x1 σ_1) (fun r_5 σ_4 => if r_5 ≤ x3_3 then zbd (FX2_lastStep k0 x1 σ_4) (fun r_7 σ_6 => if r_7 = 0 then FX2_placeIn_b53 (-1) σ_6 else zbd (FX2_lastStep k0 x1 σ_6) (fun r_9 σ_8 => FX2_placeIn_b53 r_9 σ_8)) else zbd (FX2_stepOf k0 x1 x3_3 σ_4) (fun r_11 σ_10 => some (r_11, σ_10))) else some ((-1), σ_1)))
set_option maxHeartbeats 4000000 in
set_option maxRecDepth 100000 in
theorem kX2_placeIn (l : Launch) {V : zV} {σ : zS} {t0 : Int32 × zS} {k0 : Nat} {x1 : Int32} {x2 : Int32} (hk0 : kd 0 k0 = 2) (h1 : FX2_placeIn k0 x1 x2 σ = some t0) : zMi l yX2_placeIn cX2_placeIn 4 (some .int) 3 64 0 V σ t0 [.ref (zad V k0), .int x1, .int x2] := by
  refine zMi_of (by decide) (Nat.le_of_ble_eq_true rfl) ?_
  intro p e s m below meth c A C0 hr hlk hZ ls hl
  generalize ([.ref (zad V k0), .int x1, .int x2] : List Value).toArray = args at C0 ⊢
  obtain ⟨Q, hQ⟩ : ∃ Q, Q = MQ below (zQi 0 V t0 A) args s 0 0 A := ⟨_, rfl⟩
  rw [← hQ]
  have hx := C0.1
  have hb := C0.2.1
  have hl : lv_has ls 4 [(0, .ref (zad V k0)), (1, .int x1), (2, .int x2)] := hl
  unfold FX2_placeIn at h1
  have J53 : ∀ (y0 : Int32) (σ : zS) (H : Heap) (locs : List Loc) (ls : Array Slot), zZ 0 V A σ s H locs → lv_has ls 4 [] → FX2_placeIn_b53 y0 σ = some t0 → W p l e (zrm 3 64) s m args below meth c H locs 0 0 Q (F0 m 53 ls [.int y0]) := by
    intro y0 σ H locs ls  hZ hl h1
    unfold FX2_placeIn_b53 at h1
    rw [hQ]; exact z_iret C0 hr hlk hZ h1 dX2_placeIn_53
  refine lv_iload_n hx hb dX2_placeIn_0 rfl (lv_at hl 2 rfl) ?_
  refine lv_aload_n hx hb dX2_placeIn_1 rfl (lv_at hl 0 rfl) ?_
  refine z_getr C0 hZ hk0 fRX2_19 rfl dX2_placeIn_2 ?_
  refine lv_iload_n hx hb dX2_placeIn_5 rfl (lv_at hl 1 rfl) ?_
  refine z_cSi (As := [.ref (zad V (k0 + 2)), .int x1]) (rest := [.int x2]) C0 hZ h1 (fun _ hf => kX7_at l (zkt2_2 hk0) hf) mRX2_34 sX7_at rfl rfl hl.1 (Nat.le_of_ble_eq_true rfl) ⟨Nat.le_of_ble_eq_true rfl, Nat.le_of_ble_eq_true rfl⟩ dX2_placeIn_6 ⟨Nat.le_of_ble_eq_true rfl, Nat.le_of_ble_eq_true rfl⟩ (fun r_2 σ_1 H locs h1 hZ => ?_)
  refine lv_isub hx hb dX2_placeIn_9 ?_
  refine z_istore_n C0 h1 hl (fun x3_3 => [(3, .int x3_3), (0, .ref (zad V k0)), (1, .int x1), (2, .int x2)]) dX2_placeIn_10 rfl (by decide) (fun _ => rfl) (fun x3_3 ls h1 hl => ?_)
  refine lv_iload_n hx hb dX2_placeIn_11 rfl (lv_at hl 0 rfl) ?_
  refine z_if_ge (tgt := 17) C0 h1 dX2_placeIn_12 (by decide) (fun h1 => ?_) (fun h1 => ?_)
  · refine lv_iload_n hx hb dX2_placeIn_17 rfl (lv_at hl 0 rfl) ?_
    refine lv_aload_n hx hb dX2_placeIn_18 rfl (lv_at hl 1 rfl) ?_
    refine z_getr C0 hZ hk0 fRX2_28 rfl dX2_placeIn_19 ?_
    refine lv_iload_n hx hb dX2_placeIn_22 rfl (lv_at hl 2 rfl) ?_
    refine z_cSi (As := [.ref (zad V (k0 + 5)), .int x1]) (rest := [.int x3_3]) C0 hZ h1 (fun _ hf => kX7_at l (zkt2_5 hk0) hf) mRX2_34 sX7_at rfl rfl hl.1 (Nat.le_of_ble_eq_true rfl) ⟨Nat.le_of_ble_eq_true rfl, Nat.le_of_ble_eq_true rfl⟩ dX2_placeIn_23 ⟨Nat.le_of_ble_eq_true rfl, Nat.le_of_ble_eq_true rfl⟩ (fun r_5 σ_4 H locs h1 hZ => ?_)
    refine z_ic_ge (tgt := 36) C0 h1 dX2_placeIn_26 (by decide) (fun h1 => ?_) (fun h1 => ?_)
    · refine lv_aload_n hx hb dX2_placeIn_36 rfl (lv_at hl 1 rfl) ?_
      refine lv_iload_n hx hb dX2_placeIn_37 rfl (lv_at hl 2 rfl) ?_
      refine z_cVi (As := [.int x1]) (rest := []) C0 hZ h1 (fun _ hf => kX2_lastStep l hk0 hf) mRX2_42 vX2_lastStep hk0 rfl rfl hl.1 (Nat.le_of_ble_eq_true rfl) ⟨Nat.le_of_ble_eq_true rfl, Nat.le_of_ble_eq_true rfl⟩ dX2_placeIn_38 ⟨Nat.le_of_ble_eq_true rfl, Nat.le_of_ble_eq_true rfl⟩ (fun r_7 σ_6 H locs h1 hZ => ?_)
      refine z_if_ne (tgt := 48) C0 h1 dX2_placeIn_41 (by decide) (fun h1 => ?_) (fun h1 => ?_)
      · refine lv_aload_n hx hb dX2_placeIn_48 rfl (lv_at hl 1 rfl) ?_
        refine lv_iload_n hx hb dX2_placeIn_49 rfl (lv_at hl 2 rfl) ?_
        refine z_cVi (As := [.int x1]) (rest := []) C0 hZ h1 (fun _ hf => kX2_lastStep l hk0 hf) mRX2_42 vX2_lastStep hk0 rfl rfl hl.1 (Nat.le_of_ble_eq_true rfl) ⟨Nat.le_of_ble_eq_true rfl, Nat.le_of_ble_eq_true rfl⟩ dX2_placeIn_50 ⟨Nat.le_of_ble_eq_true rfl, Nat.le_of_ble_eq_true rfl⟩ (fun r_9 σ_8 H locs h1 hZ => ?_)
        exact J53 r_9 _ _ _ _  hZ (lv_sub hl [] rfl) h1
      refine lv_iconst (v := (-1)) hx hb dX2_placeIn_44 (by decide) ?_
      refine lv_goto (tgt := 53) hx hb dX2_placeIn_45 (by decide) ?_
      exact J53 (-1) _ _ _ _  hZ (lv_sub hl [] rfl) h1
    refine lv_aload_n hx hb dX2_placeIn_29 rfl (lv_at hl 1 rfl) ?_
    refine lv_iload_n hx hb dX2_placeIn_30 rfl (lv_at hl 2 rfl) ?_
    refine lv_iload_n hx hb dX2_placeIn_31 rfl (lv_at hl 0 rfl) ?_
    refine z_cVi (As := [.int x1, .int x3_3]) (rest := []) C0 hZ h1 (fun _ hf => kX2_stepOf l hk0 hf) mRX2_38 vX2_stepOf hk0 rfl rfl hl.1 (Nat.le_of_ble_eq_true rfl) ⟨Nat.le_of_ble_eq_true rfl, Nat.le_of_ble_eq_true rfl⟩ dX2_placeIn_32 ⟨Nat.le_of_ble_eq_true rfl, Nat.le_of_ble_eq_true rfl⟩ (fun r_11 σ_10 H locs h1 hZ => ?_)
    rw [hQ]; exact z_iret C0 hr hlk hZ h1 dX2_placeIn_35
  refine lv_iconst (v := (-1)) hx hb dX2_placeIn_15 (by decide) ?_
  rw [hQ]; exact z_iret C0 hr hlk hZ h1 dX2_placeIn_16
noncomputable def FX7_put_b14  (σ : zS) : Option (Int32 × zS) := some (0, σ)
noncomputable def FX7_put (k0 : Nat) (x1 : Int32) (x2 : Int32) (σ : zS) : Option (Int32 × zS) := if x1 < 0 then FX7_put_b14  σ else if (nI (ln 0 k0)) ≤ x1 then FX7_put_b14  σ else zin (ln 0 k0) x1 (zlet (zup σ k0 (Int32.toNatClampNeg x1) x2) (fun σ_1 => FX7_put_b14  σ_1))
set_option maxHeartbeats 4000000 in
set_option maxRecDepth 100000 in
theorem kX7_put (l : Launch) {V : zV} {σ : zS} {t0 : Int32 × zS} {k0 : Nat} {x1 : Int32} {x2 : Int32} (hk0 : kd 0 k0 = 100) (h1 : FX7_put k0 x1 x2 σ = some t0) : zMv l yX7_put cX7_put 3 0 0 0 V σ t0 [.ref (zad V k0), .int x1, .int x2] := by
  refine zMv_of (by decide) (Nat.le_of_ble_eq_true rfl) ?_
  intro p e s m below meth c A C0 hr hlk hZ ls hl
  generalize ([.ref (zad V k0), .int x1, .int x2] : List Value).toArray = args at C0 ⊢
  obtain ⟨Q, hQ⟩ : ∃ Q, Q = MQ below (zQv 0 V t0 A) args s 0 0 A := ⟨_, rfl⟩
  rw [← hQ]
  have hx := C0.1
  have hb := C0.2.1
  have hl : lv_has ls 3 [(0, .ref (zad V k0)), (1, .int x1), (2, .int x2)] := hl
  unfold FX7_put at h1
  have J14 : ∀  (σ : zS) (H : Heap) (locs : List Loc) (ls : Array Slot), zZ 0 V A σ s H locs → lv_has ls 3 [] → FX7_put_b14  σ = some t0 → W p l e (zrm 0 0) s m args below meth c H locs 0 0 Q (F0 m 14 ls []) := by
    intro  σ H locs ls  hZ hl h1
    unfold FX7_put_b14 at h1
    rw [hQ]; exact z_vret C0 hr hlk hZ h1 dX7_put_14
  refine lv_iload_n hx hb dX7_put_0 rfl (lv_at hl 1 rfl) ?_
  refine z_if_lt (tgt := 14) C0 h1 dX7_put_1 (by decide) (fun h1 => ?_) (fun h1 => ?_)
  · exact J14  _ _ _ _  hZ (lv_sub hl [] rfl) h1
  refine lv_iload_n hx hb dX7_put_4 rfl (lv_at hl 1 rfl) ?_
  refine lv_aload_n hx hb dX7_put_5 rfl (lv_at hl 0 rfl) ?_
  refine z_alen C0 hZ hk0 dX7_put_6 ?_
  refine z_ic_ge (tgt := 14) C0 h1 dX7_put_7 (by decide) (fun h1 => ?_) (fun h1 => ?_)
  · exact J14  _ _ _ _  hZ (lv_sub hl [] rfl) h1
  refine lv_aload_n hx hb dX7_put_10 rfl (lv_at hl 0 rfl) ?_
  refine lv_iload_n hx hb dX7_put_11 rfl (lv_at hl 1 rfl) ?_
  refine lv_iload_n hx hb dX7_put_12 rfl (lv_at hl 2 rfl) ?_
  refine z_iast C0 hZ h1 hk0 dX7_put_13 (fun σ_1 H locs h1 hZ => ?_)
  exact J14  _ _ _ _  hZ (lv_sub hl [] rfl) h1
noncomputable def FX2_leavesIn_b34 (y0 : Int32) (σ : zS) : Option (Int32 × zS) := zgd (y0 == 0 || y0 == 1) (some (y0, σ))
noncomputable def FX2_leavesIn_b33  (σ : zS) : Option (Int32 × zS) := FX2_leavesIn_b34 0 σ
noncomputable def FX2_leavesIn (k0 : Nat) (x1 : Int32) (x2 : Int32) (σ : zS) : Option (Int32 × zS) := zbd (FX7_at (k0 + 2) x1 σ) (fun r_2 σ_1 => zbd (FX7_at (k0 + 5) x1 σ_1) (fun r_4 σ_3 => if x2 = (r_2 + r_4) then zbd (FX2_lastStep k0 x1 σ_3) (fun r_6 σ_5 => if r_6 = 0 then FX2_leavesIn_b34 1 σ_5 else FX2_leavesIn_b33  σ_5) else FX2_leavesIn_b33  σ_3))
set_option maxHeartbeats 4000000 in
set_option maxRecDepth 100000 in
theorem kX2_leavesIn (l : Launch) {V : zV} {σ : zS} {t0 : Int32 × zS} {k0 : Nat} {x1 : Int32} {x2 : Int32} (hk0 : kd 0 k0 = 2) (h1 : FX2_leavesIn k0 x1 x2 σ = some t0) : zMi l yX2_leavesIn cX2_leavesIn 3 (some .boolean) 3 64 0 V σ t0 [.ref (zad V k0), .int x1, .int x2] := by
  refine zMi_of (by decide) (Nat.le_of_ble_eq_true rfl) ?_
  intro p e s m below meth c A C0 hr hlk hZ ls hl
  generalize ([.ref (zad V k0), .int x1, .int x2] : List Value).toArray = args at C0 ⊢
  obtain ⟨Q, hQ⟩ : ∃ Q, Q = MQ below (zQi 0 V t0 A) args s 0 0 A := ⟨_, rfl⟩
  rw [← hQ]
  have hx := C0.1
  have hb := C0.2.1
  have hl : lv_has ls 3 [(0, .ref (zad V k0)), (1, .int x1), (2, .int x2)] := hl
  unfold FX2_leavesIn at h1
  have J34 : ∀ (y0 : Int32) (σ : zS) (H : Heap) (locs : List Loc) (ls : Array Slot), zZ 0 V A σ s H locs → lv_has ls 3 [] → FX2_leavesIn_b34 y0 σ = some t0 → W p l e (zrm 3 64) s m args below meth c H locs 0 0 Q (F0 m 34 ls [.int y0]) := by
    intro y0 σ H locs ls  hZ hl h1
    unfold FX2_leavesIn_b34 at h1
    rw [hQ]; exact z_zret C0 hr hlk hZ h1 dX2_leavesIn_34
  have J33 : ∀  (σ : zS) (H : Heap) (locs : List Loc) (ls : Array Slot), zZ 0 V A σ s H locs → lv_has ls 3 [] → FX2_leavesIn_b33  σ = some t0 → W p l e (zrm 3 64) s m args below meth c H locs 0 0 Q (F0 m 33 ls []) := by
    intro  σ H locs ls  hZ hl h1
    unfold FX2_leavesIn_b33 at h1
    refine lv_iconst (v := 0) hx hb dX2_leavesIn_33 (by decide) ?_
    exact J34 0 _ _ _ _  hZ (lv_sub hl [] rfl) h1
  refine lv_iload_n hx hb dX2_leavesIn_0 rfl (lv_at hl 2 rfl) ?_
  refine lv_aload_n hx hb dX2_leavesIn_1 rfl (lv_at hl 0 rfl) ?_
  refine z_getr C0 hZ hk0 fRX2_19 rfl dX2_leavesIn_2 ?_
  refine lv_iload_n hx hb dX2_leavesIn_5 rfl (lv_at hl 1 rfl) ?_
  refine z_cSi (As := [.ref (zad V (k0 + 2)), .int x1]) (rest := [.int x2]) C0 hZ h1 (fun _ hf => kX7_at l (zkt2_2 hk0) hf) mRX2_34 sX7_at rfl rfl hl.1 (Nat.le_of_ble_eq_true rfl) ⟨Nat.le_of_ble_eq_true rfl, Nat.le_of_ble_eq_true rfl⟩ dX2_leavesIn_6 ⟨Nat.le_of_ble_eq_true rfl, Nat.le_of_ble_eq_true rfl⟩ (fun r_2 σ_1 H locs h1 hZ => ?_)
  refine lv_aload_n hx hb dX2_leavesIn_9 rfl (lv_at hl 0 rfl) ?_
  refine z_getr C0 hZ hk0 fRX2_28 rfl dX2_leavesIn_10 ?_
  refine lv_iload_n hx hb dX2_leavesIn_13 rfl (lv_at hl 1 rfl) ?_
  refine z_cSi (As := [.ref (zad V (k0 + 5)), .int x1]) (rest := [.int r_2, .int x2]) C0 hZ h1 (fun _ hf => kX7_at l (zkt2_5 hk0) hf) mRX2_34 sX7_at rfl rfl hl.1 (Nat.le_of_ble_eq_true rfl) ⟨Nat.le_of_ble_eq_true rfl, Nat.le_of_ble_eq_true rfl⟩ dX2_leavesIn_14 ⟨Nat.le_of_ble_eq_true rfl, Nat.le_of_ble_eq_true rfl⟩ (fun r_4 σ_3 H locs h1 hZ => ?_)
  refine lv_iadd hx hb dX2_leavesIn_17 ?_
  refine z_ic_ne (tgt := 33) C0 h1 dX2_leavesIn_18 (by decide) (fun h1 => ?_) (fun h1 => ?_)
  · exact J33  _ _ _ _  hZ (lv_sub hl [] rfl) h1
  refine lv_aload_n hx hb dX2_leavesIn_21 rfl (lv_at hl 0 rfl) ?_
  refine lv_iload_n hx hb dX2_leavesIn_22 rfl (lv_at hl 1 rfl) ?_
  refine z_cVi (As := [.int x1]) (rest := []) C0 hZ h1 (fun _ hf => kX2_lastStep l hk0 hf) mRX2_42 vX2_lastStep hk0 rfl rfl hl.1 (Nat.le_of_ble_eq_true rfl) ⟨Nat.le_of_ble_eq_true rfl, Nat.le_of_ble_eq_true rfl⟩ dX2_leavesIn_23 ⟨Nat.le_of_ble_eq_true rfl, Nat.le_of_ble_eq_true rfl⟩ (fun r_6 σ_5 H locs h1 hZ => ?_)
  refine z_if_ne (tgt := 33) C0 h1 dX2_leavesIn_26 (by decide) (fun h1 => ?_) (fun h1 => ?_)
  · exact J33  _ _ _ _  hZ (lv_sub hl [] rfl) h1
  refine lv_iconst (v := 1) hx hb dX2_leavesIn_29 (by decide) ?_
  refine lv_goto (tgt := 34) hx hb dX2_leavesIn_30 (by decide) ?_
  exact J34 1 _ _ _ _  hZ (lv_sub hl [] rfl) h1
noncomputable def FX0_tally (k0 : Nat) (x1 : Int32) (x2 : Int32) (σ : zS) : Option (Int32 × zS) := zbd (FX7_at (k0 + 8) x1 σ) (fun r_2 σ_1 => zbd (FX7_put (k0 + 8) x1 (r_2 + x2) σ_1) (fun _ σ_3 => some (0, σ_3)))
set_option maxHeartbeats 4000000 in
set_option maxRecDepth 100000 in
theorem kX0_tally (l : Launch) {V : zV} {σ : zS} {t0 : Int32 × zS} {k0 : Nat} {x1 : Int32} {x2 : Int32} (hk0 : kd 0 k0 = 0) (h1 : FX0_tally k0 x1 x2 σ = some t0) : zMv l yX0_tally cX0_tally 3 1 22 0 V σ t0 [.ref (zad V k0), .int x1, .int x2] := by
  refine zMv_of (by decide) (Nat.le_of_ble_eq_true rfl) ?_
  intro p e s m below meth c A C0 hr hlk hZ ls hl
  generalize ([.ref (zad V k0), .int x1, .int x2] : List Value).toArray = args at C0 ⊢
  obtain ⟨Q, hQ⟩ : ∃ Q, Q = MQ below (zQv 0 V t0 A) args s 0 0 A := ⟨_, rfl⟩
  rw [← hQ]
  have hx := C0.1
  have hb := C0.2.1
  have hl : lv_has ls 3 [(0, .ref (zad V k0)), (1, .int x1), (2, .int x2)] := hl
  unfold FX0_tally at h1
  refine lv_aload_n hx hb dX0_tally_0 rfl (lv_at hl 0 rfl) ?_
  refine z_getr C0 hZ hk0 fRX0_55 rfl dX0_tally_1 ?_
  refine lv_iload_n hx hb dX0_tally_4 rfl (lv_at hl 1 rfl) ?_
  refine lv_aload_n hx hb dX0_tally_5 rfl (lv_at hl 0 rfl) ?_
  refine z_getr C0 hZ hk0 fRX0_55 rfl dX0_tally_6 ?_
  refine lv_iload_n hx hb dX0_tally_9 rfl (lv_at hl 1 rfl) ?_
  refine z_cSi (As := [.ref (zad V (k0 + 8)), .int x1]) (rest := [.int x1, .ref (zad V (k0 + 8))]) C0 hZ h1 (fun _ hf => kX7_at l (zkt0_15 hk0) hf) mRX0_118 sX7_at rfl rfl hl.1 (Nat.le_of_ble_eq_true rfl) ⟨Nat.le_of_ble_eq_true rfl, Nat.le_of_ble_eq_true rfl⟩ dX0_tally_10 ⟨Nat.le_of_ble_eq_true rfl, Nat.le_of_ble_eq_true rfl⟩ (fun r_2 σ_1 H locs h1 hZ => ?_)
  refine lv_iload_n hx hb dX0_tally_13 rfl (lv_at hl 2 rfl) ?_
  refine lv_iadd hx hb dX0_tally_14 ?_
  refine z_cSv (As := [.ref (zad V (k0 + 8)), .int x1, .int (r_2 + x2)]) (rest := []) C0 hZ h1 (fun _ hf => kX7_put l (zkt0_15 hk0) hf) mRX0_139 sX7_put rfl rfl hl.1 (Nat.le_of_ble_eq_true rfl) ⟨Nat.le_of_ble_eq_true rfl, Nat.le_of_ble_eq_true rfl⟩ dX0_tally_15 ⟨Nat.le_of_ble_eq_true rfl, Nat.le_of_ble_eq_true rfl⟩ (fun _ σ_3 H locs h1 hZ => ?_)
  rw [hQ]; exact z_vret C0 hr hlk hZ h1 dX0_tally_18
noncomputable def FX7_bit (x0 : Int32) (σ : zS) : Option (Int32 × zS) := some (((1 : Int32) <<< (x0 &&& 31)), σ)
set_option maxHeartbeats 4000000 in
set_option maxRecDepth 100000 in
theorem kX7_bit (l : Launch) {V : zV} {σ : zS} {t0 : Int32 × zS} {x0 : Int32}  (h1 : FX7_bit x0 σ = some t0) : zMi l yX7_bit cX7_bit 1 (some .int) 0 0 0 V σ t0 [.int x0] := by
  refine zMi_of (by decide) (Nat.le_of_ble_eq_true rfl) ?_
  intro p e s m below meth c A C0 hr hlk hZ ls hl
  generalize ([.int x0] : List Value).toArray = args at C0 ⊢
  obtain ⟨Q, hQ⟩ : ∃ Q, Q = MQ below (zQi 0 V t0 A) args s 0 0 A := ⟨_, rfl⟩
  rw [← hQ]
  have hx := C0.1
  have hb := C0.2.1
  have hl : lv_has ls 1 [(0, .int x0)] := hl
  unfold FX7_bit at h1
  refine lv_iconst (v := 1) hx hb dX7_bit_0 (by decide) ?_
  refine lv_iload_n hx hb dX7_bit_1 rfl (lv_at hl 0 rfl) ?_
  refine lv_ishl hx hb dX7_bit_2 ?_
  rw [hQ]; exact z_iret C0 hr hlk hZ h1 dX7_bit_3
noncomputable def FX0_mark (k0 : Nat) (x1 : Int32) (x2 : Int32) (σ : zS) : Option (Int32 × zS) := zbd (FX7_at (k0 + 8) x1 σ) (fun r_2 σ_1 => zbd (FX7_bit x2 σ_1) (fun r_4 σ_3 => zbd (FX7_put (k0 + 8) x1 (r_2 ||| r_4) σ_3) (fun _ σ_5 => some (0, σ_5))))
set_option maxHeartbeats 4000000 in
set_option maxRecDepth 100000 in
theorem kX0_mark (l : Launch) {V : zV} {σ : zS} {t0 : Int32 × zS} {k0 : Nat} {x1 : Int32} {x2 : Int32} (hk0 : kd 0 k0 = 0) (h1 : FX0_mark k0 x1 x2 σ = some t0) : zMv l yX0_mark cX0_mark 3 1 22 0 V σ t0 [.ref (zad V k0), .int x1, .int x2] := by
  refine zMv_of (by decide) (Nat.le_of_ble_eq_true rfl) ?_
  intro p e s m below meth c A C0 hr hlk hZ ls hl
  generalize ([.ref (zad V k0), .int x1, .int x2] : List Value).toArray = args at C0 ⊢
  obtain ⟨Q, hQ⟩ : ∃ Q, Q = MQ below (zQv 0 V t0 A) args s 0 0 A := ⟨_, rfl⟩
  rw [← hQ]
  have hx := C0.1
  have hb := C0.2.1
  have hl : lv_has ls 3 [(0, .ref (zad V k0)), (1, .int x1), (2, .int x2)] := hl
  unfold FX0_mark at h1
  refine lv_aload_n hx hb dX0_mark_0 rfl (lv_at hl 0 rfl) ?_
  refine z_getr C0 hZ hk0 fRX0_55 rfl dX0_mark_1 ?_
  refine lv_iload_n hx hb dX0_mark_4 rfl (lv_at hl 1 rfl) ?_
  refine lv_aload_n hx hb dX0_mark_5 rfl (lv_at hl 0 rfl) ?_
  refine z_getr C0 hZ hk0 fRX0_55 rfl dX0_mark_6 ?_
  refine lv_iload_n hx hb dX0_mark_9 rfl (lv_at hl 1 rfl) ?_
  refine z_cSi (As := [.ref (zad V (k0 + 8)), .int x1]) (rest := [.int x1, .ref (zad V (k0 + 8))]) C0 hZ h1 (fun _ hf => kX7_at l (zkt0_15 hk0) hf) mRX0_118 sX7_at rfl rfl hl.1 (Nat.le_of_ble_eq_true rfl) ⟨Nat.le_of_ble_eq_true rfl, Nat.le_of_ble_eq_true rfl⟩ dX0_mark_10 ⟨Nat.le_of_ble_eq_true rfl, Nat.le_of_ble_eq_true rfl⟩ (fun r_2 σ_1 H locs h1 hZ => ?_)
  refine lv_iload_n hx hb dX0_mark_13 rfl (lv_at hl 2 rfl) ?_
  refine z_cSi (As := [.int x2]) (rest := [.int r_2, .int x1, .ref (zad V (k0 + 8))]) C0 hZ h1 (fun _ hf => kX7_bit l  hf) mRX0_165 sX7_bit rfl rfl hl.1 (Nat.le_of_ble_eq_true rfl) ⟨Nat.le_of_ble_eq_true rfl, Nat.le_of_ble_eq_true rfl⟩ dX0_mark_14 ⟨Nat.le_of_ble_eq_true rfl, Nat.le_of_ble_eq_true rfl⟩ (fun r_4 σ_3 H locs h1 hZ => ?_)
  refine lv_ior hx hb dX0_mark_17 ?_
  refine z_cSv (As := [.ref (zad V (k0 + 8)), .int x1, .int (r_2 ||| r_4)]) (rest := []) C0 hZ h1 (fun _ hf => kX7_put l (zkt0_15 hk0) hf) mRX0_139 sX7_put rfl rfl hl.1 (Nat.le_of_ble_eq_true rfl) ⟨Nat.le_of_ble_eq_true rfl, Nat.le_of_ble_eq_true rfl⟩ dX0_mark_18 ⟨Nat.le_of_ble_eq_true rfl, Nat.le_of_ble_eq_true rfl⟩ (fun _ σ_5 H locs h1 hZ => ?_)
  rw [hQ]; exact z_vret C0 hr hlk hZ h1 dX0_mark_21
noncomputable def FX0_putBack (k0 : Nat) (x1 : Int32) (σ : zS) : Option (Int32 × zS) := zbd (FX7_at (k0 + 3) x1 σ) (fun r_2 σ_1 => zbd (FX7_put (k0 + 3) x1 (r_2 + 1) σ_1) (fun _ σ_3 => some (0, σ_3)))
set_option maxHeartbeats 4000000 in
set_option maxRecDepth 100000 in
theorem kX0_putBack (l : Launch) {V : zV} {σ : zS} {t0 : Int32 × zS} {k0 : Nat} {x1 : Int32} (hk0 : kd 0 k0 = 0) (h1 : FX0_putBack k0 x1 σ = some t0) : zMv l yX0_putBack cX0_putBack 2 1 22 0 V σ t0 [.ref (zad V k0), .int x1] := by
  refine zMv_of (by decide) (Nat.le_of_ble_eq_true rfl) ?_
  intro p e s m below meth c A C0 hr hlk hZ ls hl
  generalize ([.ref (zad V k0), .int x1] : List Value).toArray = args at C0 ⊢
  obtain ⟨Q, hQ⟩ : ∃ Q, Q = MQ below (zQv 0 V t0 A) args s 0 0 A := ⟨_, rfl⟩
  rw [← hQ]
  have hx := C0.1
  have hb := C0.2.1
  have hl : lv_has ls 2 [(0, .ref (zad V k0)), (1, .int x1)] := hl
  unfold FX0_putBack at h1
  refine lv_aload_n hx hb dX0_putBack_0 rfl (lv_at hl 0 rfl) ?_
  refine z_getr C0 hZ hk0 fRX0_34 rfl dX0_putBack_1 ?_
  refine lv_iload_n hx hb dX0_putBack_4 rfl (lv_at hl 1 rfl) ?_
  refine lv_aload_n hx hb dX0_putBack_5 rfl (lv_at hl 0 rfl) ?_
  refine z_getr C0 hZ hk0 fRX0_34 rfl dX0_putBack_6 ?_
  refine lv_iload_n hx hb dX0_putBack_9 rfl (lv_at hl 1 rfl) ?_
  refine z_cSi (As := [.ref (zad V (k0 + 3)), .int x1]) (rest := [.int x1, .ref (zad V (k0 + 3))]) C0 hZ h1 (fun _ hf => kX7_at l (zkt0_8 hk0) hf) mRX0_118 sX7_at rfl rfl hl.1 (Nat.le_of_ble_eq_true rfl) ⟨Nat.le_of_ble_eq_true rfl, Nat.le_of_ble_eq_true rfl⟩ dX0_putBack_10 ⟨Nat.le_of_ble_eq_true rfl, Nat.le_of_ble_eq_true rfl⟩ (fun r_2 σ_1 H locs h1 hZ => ?_)
  refine lv_iconst (v := 1) hx hb dX0_putBack_13 (by decide) ?_
  refine lv_iadd hx hb dX0_putBack_14 ?_
  refine z_cSv (As := [.ref (zad V (k0 + 3)), .int x1, .int (r_2 + 1)]) (rest := []) C0 hZ h1 (fun _ hf => kX7_put l (zkt0_8 hk0) hf) mRX0_139 sX7_put rfl rfl hl.1 (Nat.le_of_ble_eq_true rfl) ⟨Nat.le_of_ble_eq_true rfl, Nat.le_of_ble_eq_true rfl⟩ dX0_putBack_15 ⟨Nat.le_of_ble_eq_true rfl, Nat.le_of_ble_eq_true rfl⟩ (fun _ σ_3 H locs h1 hZ => ?_)
  rw [hQ]; exact z_vret C0 hr hlk hZ h1 dX0_putBack_18
noncomputable def FX0_leave_b167  (σ : zS) : Option (Int32 × zS) := some (0, σ)
noncomputable def FX0_leave_b148 (k0 : Nat) (x2 : Int32) (σ : zS) : Option (Int32 × zS) := zbd (FX0_tally k0 1 1 σ) (fun _ σ_1 => zbd (FX7_at (k0 + 1) x2 σ_1) (fun r_4 σ_3 => zbd (FX0_tally k0 0 r_4 σ_3) (fun _ σ_5 => FX0_leave_b167  σ_5)))
noncomputable def FX0_leave_b127 (k0 : Nat) (x1 : Int32) (x2 : Int32) (σ : zS) : Option (Int32 × zS) := zbd (FX0_tally k0 2 1 σ) (fun _ σ_7 => zbd (FX0_mark k0 7 x1 σ_7) (fun _ σ_9 => zbd (FX0_putBack k0 x2 σ_9) (fun _ σ_11 => FX0_leave_b167  σ_11)))
noncomputable def FX0_leave (k0 : Nat) (x1 : Int32) (σ : zS) : Option (Int32 × zS) := zbd (FX7_at (k0 + 5) x1 σ) (fun r_14 σ_13 => zlet r_14 (fun x2_15 => zbd (FX7_at (k0 + 8) 5 σ_13) (fun r_17 σ_16 => zbd (FX7_holds r_17 x1 σ_16) (fun r_19 σ_18 => zlet r_19 (fun x3_20 => zbd (FX7_holds (σ_18 k0 13) x1 σ_18) (fun r_22 σ_21 => zlet r_22 (fun x4_23 => zbd (FX7_put (k0 + 5) x1 (-1) σ_21) (fun _ σ_24 => zgd (kd 0 (σ_24 k0 0).toNatClampNeg == 5) (zlet (σ_24 k0 0).toNatClampNeg (fun q_26 => zbd (FX7_at ((q_26 + 7) + 1) x1 σ_24) (fun r_28 σ_27 => if r_28 = 0 then zbd (FX0_tally k0 4 1 σ_27) (fun _ σ_29 => if (σ_29 k0 4) = 2 then if x3_20 = 0 then FX0_leave_b167  σ_29 else if x4_23 = 0 then zbd (FX0_tally k0 3 1 σ_29) (fun _ σ_31 => zgd (kd 0 (σ_31 k0 0).toNatClampNeg == 5) (zlet (σ_31 k0 0).toNatClampNeg (fun q_33 => zbd (FX0_tally k0 0 (σ_31 q_33 4) σ_31) (fun _ σ_34 => FX0_leave_b167  σ_34)))) else FX0_leave_b167  σ_29 else FX0_leave_b167  σ_29) else if x3_20 = 0 then FX0_leave_b148 k0 x2_15 σ_27 else if (σ_27 k0 4) = 2 then FX0_leave_b127 k0 x1 x2_15 σ_27 else if (σ_27 k0 4) = 1 then if x4_23 = 0 then FX0_leave_b148 k0 x2_15 σ_27 else FX0_leave_b127 k0 x1 x2_15 σ_27 else FX0_leave_b148 k0 x2_15 σ_27)))))))))))
set_option maxHeartbeats 4000000 in
set_option maxRecDepth 100000 in
theorem kX0_leave (l : Launch) {V : zV} {σ : zS} {t0 : Int32 × zS} {k0 : Nat} {x1 : Int32} (hk0 : kd 0 k0 = 0) (h1 : FX0_leave k0 x1 σ = some t0) : zMv l yX0_leave cX0_leave 5 2 44 0 V σ t0 [.ref (zad V k0), .int x1] := by
  refine zMv_of (by decide) (Nat.le_of_ble_eq_true rfl) ?_
  intro p e s m below meth c A C0 hr hlk hZ ls hl
  generalize ([.ref (zad V k0), .int x1] : List Value).toArray = args at C0 ⊢
  obtain ⟨Q, hQ⟩ : ∃ Q, Q = MQ below (zQv 0 V t0 A) args s 0 0 A := ⟨_, rfl⟩
  rw [← hQ]
  have hx := C0.1
  have hb := C0.2.1
  have hl : lv_has ls 5 [(0, .ref (zad V k0)), (1, .int x1)] := hl
  unfold FX0_leave at h1
  have J167 : ∀  (σ : zS) (H : Heap) (locs : List Loc) (ls : Array Slot), zZ 0 V A σ s H locs → lv_has ls 5 [] → FX0_leave_b167  σ = some t0 → W p l e (zrm 2 44) s m args below meth c H locs 0 0 Q (F0 m 167 ls []) := by
    intro  σ H locs ls  hZ hl h1
    unfold FX0_leave_b167 at h1
    rw [hQ]; exact z_vret C0 hr hlk hZ h1 dX0_leave_167
  have J148 : ∀ (x2 : Int32) (σ : zS) (H : Heap) (locs : List Loc) (ls : Array Slot), zZ 0 V A σ s H locs → lv_has ls 5 [(0, .ref (zad V k0)), (2, .int x2)] → FX0_leave_b148 k0 x2 σ = some t0 → W p l e (zrm 2 44) s m args below meth c H locs 0 0 Q (F0 m 148 ls []) := by
    intro x2 σ H locs ls  hZ hl h1
    unfold FX0_leave_b148 at h1
    refine lv_aload_n hx hb dX0_leave_148 rfl (lv_at hl 0 rfl) ?_
    refine lv_iconst (v := 1) hx hb dX0_leave_149 (by decide) ?_
    refine lv_iconst (v := 1) hx hb dX0_leave_150 (by decide) ?_
    refine z_cVv (As := [.int 1, .int 1]) (rest := []) C0 hZ h1 (fun _ hf => kX0_tally l hk0 hf) mRX0_152 vX0_tally hk0 rfl rfl hl.1 (Nat.le_of_ble_eq_true rfl) ⟨Nat.le_of_ble_eq_true rfl, Nat.le_of_ble_eq_true rfl⟩ dX0_leave_151 ⟨Nat.le_of_ble_eq_true rfl, Nat.le_of_ble_eq_true rfl⟩ (fun _ σ_1 H locs h1 hZ => ?_)
    refine lv_aload_n hx hb dX0_leave_154 rfl (lv_at hl 0 rfl) ?_
    refine lv_iconst (v := 0) hx hb dX0_leave_155 (by decide) ?_
    refine lv_aload_n hx hb dX0_leave_156 rfl (lv_at hl 0 rfl) ?_
    refine z_getr C0 hZ hk0 fRX0_27 rfl dX0_leave_157 ?_
    refine lv_iload_n hx hb dX0_leave_160 rfl (lv_at hl 1 rfl) ?_
    refine z_cSi (As := [.ref (zad V (k0 + 1)), .int x2]) (rest := [.int 0, .ref (zad V k0)]) C0 hZ h1 (fun _ hf => kX7_at l (zkt0_6 hk0) hf) mRX0_118 sX7_at rfl rfl hl.1 (Nat.le_of_ble_eq_true rfl) ⟨Nat.le_of_ble_eq_true rfl, Nat.le_of_ble_eq_true rfl⟩ dX0_leave_161 ⟨Nat.le_of_ble_eq_true rfl, Nat.le_of_ble_eq_true rfl⟩ (fun r_4 σ_3 H locs h1 hZ => ?_)
    refine z_cVv (As := [.int 0, .int r_4]) (rest := []) C0 hZ h1 (fun _ hf => kX0_tally l hk0 hf) mRX0_152 vX0_tally hk0 rfl rfl hl.1 (Nat.le_of_ble_eq_true rfl) ⟨Nat.le_of_ble_eq_true rfl, Nat.le_of_ble_eq_true rfl⟩ dX0_leave_164 ⟨Nat.le_of_ble_eq_true rfl, Nat.le_of_ble_eq_true rfl⟩ (fun _ σ_5 H locs h1 hZ => ?_)
    exact J167  _ _ _ _  hZ (lv_sub hl [] rfl) h1
  have J127 : ∀ (x2 : Int32) (σ : zS) (H : Heap) (locs : List Loc) (ls : Array Slot), zZ 0 V A σ s H locs → lv_has ls 5 [(0, .ref (zad V k0)), (1, .int x1), (2, .int x2)] → FX0_leave_b127 k0 x1 x2 σ = some t0 → W p l e (zrm 2 44) s m args below meth c H locs 0 0 Q (F0 m 127 ls []) := by
    intro x2 σ H locs ls  hZ hl h1
    unfold FX0_leave_b127 at h1
    refine lv_aload_n hx hb dX0_leave_127 rfl (lv_at hl 0 rfl) ?_
    refine lv_iconst (v := 2) hx hb dX0_leave_128 (by decide) ?_
    refine lv_iconst (v := 1) hx hb dX0_leave_129 (by decide) ?_
    refine z_cVv (As := [.int 2, .int 1]) (rest := []) C0 hZ h1 (fun _ hf => kX0_tally l hk0 hf) mRX0_152 vX0_tally hk0 rfl rfl hl.1 (Nat.le_of_ble_eq_true rfl) ⟨Nat.le_of_ble_eq_true rfl, Nat.le_of_ble_eq_true rfl⟩ dX0_leave_130 ⟨Nat.le_of_ble_eq_true rfl, Nat.le_of_ble_eq_true rfl⟩ (fun _ σ_7 H locs h1 hZ => ?_)
    refine lv_aload_n hx hb dX0_leave_133 rfl (lv_at hl 0 rfl) ?_
    refine lv_bipush (v := 7) hx hb dX0_leave_134 (by decide) ?_
    refine lv_iload_n hx hb dX0_leave_136 rfl (lv_at hl 1 rfl) ?_
    refine z_cVv (As := [.int 7, .int x1]) (rest := []) C0 hZ h1 (fun _ hf => kX0_mark l hk0 hf) mRX0_159 vX0_mark hk0 rfl rfl hl.1 (Nat.le_of_ble_eq_true rfl) ⟨Nat.le_of_ble_eq_true rfl, Nat.le_of_ble_eq_true rfl⟩ dX0_leave_137 ⟨Nat.le_of_ble_eq_true rfl, Nat.le_of_ble_eq_true rfl⟩ (fun _ σ_9 H locs h1 hZ => ?_)
    refine lv_aload_n hx hb dX0_leave_140 rfl (lv_at hl 0 rfl) ?_
    refine lv_iload_n hx hb dX0_leave_141 rfl (lv_at hl 2 rfl) ?_
    refine z_cVv (As := [.int x2]) (rest := []) C0 hZ h1 (fun _ hf => kX0_putBack l hk0 hf) mRX0_162 vX0_putBack hk0 rfl rfl hl.1 (Nat.le_of_ble_eq_true rfl) ⟨Nat.le_of_ble_eq_true rfl, Nat.le_of_ble_eq_true rfl⟩ dX0_leave_142 ⟨Nat.le_of_ble_eq_true rfl, Nat.le_of_ble_eq_true rfl⟩ (fun _ σ_11 H locs h1 hZ => ?_)
    refine lv_goto (tgt := 167) hx hb dX0_leave_145 (by decide) ?_
    exact J167  _ _ _ _  hZ (lv_sub hl [] rfl) h1
  refine lv_aload_n hx hb dX0_leave_0 rfl (lv_at hl 0 rfl) ?_
  refine z_getr C0 hZ hk0 fRX0_40 rfl dX0_leave_1 ?_
  refine lv_iload_n hx hb dX0_leave_4 rfl (lv_at hl 1 rfl) ?_
  refine z_cSi (As := [.ref (zad V (k0 + 5)), .int x1]) (rest := []) C0 hZ h1 (fun _ hf => kX7_at l (zkt0_10 hk0) hf) mRX0_118 sX7_at rfl rfl hl.1 (Nat.le_of_ble_eq_true rfl) ⟨Nat.le_of_ble_eq_true rfl, Nat.le_of_ble_eq_true rfl⟩ dX0_leave_5 ⟨Nat.le_of_ble_eq_true rfl, Nat.le_of_ble_eq_true rfl⟩ (fun r_14 σ_13 H locs h1 hZ => ?_)
  refine z_istore_n C0 h1 hl (fun x2_15 => [(2, .int x2_15), (0, .ref (zad V k0)), (1, .int x1)]) dX0_leave_8 rfl (by decide) (fun _ => rfl) (fun x2_15 ls h1 hl => ?_)
  refine lv_aload_n hx hb dX0_leave_9 rfl (lv_at hl 1 rfl) ?_
  refine z_getr C0 hZ hk0 fRX0_55 rfl dX0_leave_10 ?_
  refine lv_iconst (v := 5) hx hb dX0_leave_13 (by decide) ?_
  refine z_cSi (As := [.ref (zad V (k0 + 8)), .int 5]) (rest := []) C0 hZ h1 (fun _ hf => kX7_at l (zkt0_15 hk0) hf) mRX0_118 sX7_at rfl rfl hl.1 (Nat.le_of_ble_eq_true rfl) ⟨Nat.le_of_ble_eq_true rfl, Nat.le_of_ble_eq_true rfl⟩ dX0_leave_14 ⟨Nat.le_of_ble_eq_true rfl, Nat.le_of_ble_eq_true rfl⟩ (fun r_17 σ_16 H locs h1 hZ => ?_)
  refine lv_iload_n hx hb dX0_leave_17 rfl (lv_at hl 2 rfl) ?_
  refine z_cSi (As := [.int r_17, .int x1]) (rest := []) C0 hZ h1 (fun _ hf => kX7_holds l  hf) mRX0_131 sX7_holds rfl rfl hl.1 (Nat.le_of_ble_eq_true rfl) ⟨Nat.le_of_ble_eq_true rfl, Nat.le_of_ble_eq_true rfl⟩ dX0_leave_18 ⟨Nat.le_of_ble_eq_true rfl, Nat.le_of_ble_eq_true rfl⟩ (fun r_19 σ_18 H locs h1 hZ => ?_)
  refine z_istore_n C0 h1 hl (fun x3_20 => [(3, .int x3_20), (2, .int x2_15), (0, .ref (zad V k0)), (1, .int x1)]) dX0_leave_21 rfl (by decide) (fun _ => rfl) (fun x3_20 ls h1 hl => ?_)
  refine lv_aload_n hx hb dX0_leave_22 rfl (lv_at hl 2 rfl) ?_
  refine z_geti C0 hZ hk0 fRX0_49 rfl dX0_leave_23 ?_
  refine lv_iload_n hx hb dX0_leave_26 rfl (lv_at hl 3 rfl) ?_
  refine z_cSi (As := [.int (σ_18 k0 13), .int x1]) (rest := []) C0 hZ h1 (fun _ hf => kX7_holds l  hf) mRX0_131 sX7_holds rfl rfl hl.1 (Nat.le_of_ble_eq_true rfl) ⟨Nat.le_of_ble_eq_true rfl, Nat.le_of_ble_eq_true rfl⟩ dX0_leave_27 ⟨Nat.le_of_ble_eq_true rfl, Nat.le_of_ble_eq_true rfl⟩ (fun r_22 σ_21 H locs h1 hZ => ?_)
  refine z_istore C0 h1 hl (fun x4_23 => [(4, .int x4_23), (3, .int x3_20), (2, .int x2_15), (0, .ref (zad V k0)), (1, .int x1)]) dX0_leave_30 (by decide) (fun _ => rfl) (fun x4_23 ls h1 hl => ?_)
  refine lv_aload_n hx hb dX0_leave_32 rfl (lv_at hl 3 rfl) ?_
  refine z_getr C0 hZ hk0 fRX0_40 rfl dX0_leave_33 ?_
  refine lv_iload_n hx hb dX0_leave_36 rfl (lv_at hl 4 rfl) ?_
  refine lv_iconst (v := (-1)) hx hb dX0_leave_37 (by decide) ?_
  refine z_cSv (As := [.ref (zad V (k0 + 5)), .int x1, .int (-1)]) (rest := []) C0 hZ h1 (fun _ hf => kX7_put l (zkt0_10 hk0) hf) mRX0_139 sX7_put rfl rfl hl.1 (Nat.le_of_ble_eq_true rfl) ⟨Nat.le_of_ble_eq_true rfl, Nat.le_of_ble_eq_true rfl⟩ dX0_leave_38 ⟨Nat.le_of_ble_eq_true rfl, Nat.le_of_ble_eq_true rfl⟩ (fun _ σ_24 H locs h1 hZ => ?_)
  refine lv_aload_n hx hb dX0_leave_41 rfl (lv_at hl 3 rfl) ?_
  refine z_getm C0 hZ h1 hk0 fRX0_64 rfl dX0_leave_42 (fun q_26 hq_26 h1 => ?_)
  refine z_getr C0 hZ hq_26 fRX0_122 rfl dX0_leave_45 ?_
  refine z_getr C0 hZ (zkt5_1 hq_26) fRX0_149 rfl dX0_leave_48 ?_
  refine lv_iload_n hx hb dX0_leave_51 rfl (lv_at hl 4 rfl) ?_
  refine z_cSi (As := [.ref (zad V ((q_26 + 7) + 1)), .int x1]) (rest := []) C0 hZ h1 (fun _ hf => kX7_at l (zkt2_1 (zkt5_1 hq_26)) hf) mRX0_118 sX7_at rfl rfl hl.1 (Nat.le_of_ble_eq_true rfl) ⟨Nat.le_of_ble_eq_true rfl, Nat.le_of_ble_eq_true rfl⟩ dX0_leave_52 ⟨Nat.le_of_ble_eq_true rfl, Nat.le_of_ble_eq_true rfl⟩ (fun r_28 σ_27 H locs h1 hZ => ?_)
  refine z_if_ne (tgt := 102) C0 h1 dX0_leave_55 (by decide) (fun h1 => ?_) (fun h1 => ?_)
  · refine lv_iload_n hx hb dX0_leave_102 rfl (lv_at hl 1 rfl) ?_
    refine z_if_eq (tgt := 148) C0 h1 dX0_leave_103 (by decide) (fun h1 => ?_) (fun h1 => ?_)
    · exact J148 x2_15 _ _ _ _  hZ (lv_sub hl [3, 2] rfl) h1
    refine lv_aload_n hx hb dX0_leave_106 rfl (lv_at hl 3 rfl) ?_
    refine z_geti C0 hZ hk0 fRX0_21 rfl dX0_leave_107 ?_
    refine lv_iconst (v := 2) hx hb dX0_leave_110 (by decide) ?_
    refine z_ic_eq (tgt := 127) C0 h1 dX0_leave_111 (by decide) (fun h1 => ?_) (fun h1 => ?_)
    · exact J127 x2_15 _ _ _ _  hZ (lv_sub hl [3, 4, 2] rfl) h1
    refine lv_aload_n hx hb dX0_leave_114 rfl (lv_at hl 3 rfl) ?_
    refine z_geti C0 hZ hk0 fRX0_21 rfl dX0_leave_115 ?_
    refine lv_iconst (v := 1) hx hb dX0_leave_118 (by decide) ?_
    refine z_ic_ne (tgt := 148) C0 h1 dX0_leave_119 (by decide) (fun h1 => ?_) (fun h1 => ?_)
    · exact J148 x2_15 _ _ _ _  hZ (lv_sub hl [3, 2] rfl) h1
    refine lv_iload hx hb dX0_leave_122 (lv_at hl 0 rfl) ?_
    refine z_if_eq (tgt := 148) C0 h1 dX0_leave_124 (by decide) (fun h1 => ?_) (fun h1 => ?_)
    · exact J148 x2_15 _ _ _ _  hZ (lv_sub hl [3, 2] rfl) h1
    exact J127 x2_15 _ _ _ _  hZ (lv_sub hl [3, 4, 2] rfl) h1
  refine lv_aload_n hx hb dX0_leave_58 rfl (lv_at hl 3 rfl) ?_
  refine lv_iconst (v := 4) hx hb dX0_leave_59 (by decide) ?_
  refine lv_iconst (v := 1) hx hb dX0_leave_60 (by decide) ?_
  refine z_cVv (As := [.int 4, .int 1]) (rest := []) C0 hZ h1 (fun _ hf => kX0_tally l hk0 hf) mRX0_152 vX0_tally hk0 rfl rfl hl.1 (Nat.le_of_ble_eq_true rfl) ⟨Nat.le_of_ble_eq_true rfl, Nat.le_of_ble_eq_true rfl⟩ dX0_leave_61 ⟨Nat.le_of_ble_eq_true rfl, Nat.le_of_ble_eq_true rfl⟩ (fun _ σ_29 H locs h1 hZ => ?_)
  refine lv_aload_n hx hb dX0_leave_64 rfl (lv_at hl 3 rfl) ?_
  refine z_geti C0 hZ hk0 fRX0_21 rfl dX0_leave_65 ?_
  refine lv_iconst (v := 2) hx hb dX0_leave_68 (by decide) ?_
  refine z_ic_ne (tgt := 167) C0 h1 dX0_leave_69 (by decide) (fun h1 => ?_) (fun h1 => ?_)
  · exact J167  _ _ _ _  hZ (lv_sub hl [] rfl) h1
  refine lv_iload_n hx hb dX0_leave_72 rfl (lv_at hl 1 rfl) ?_
  refine z_if_eq (tgt := 167) C0 h1 dX0_leave_73 (by decide) (fun h1 => ?_) (fun h1 => ?_)
  · exact J167  _ _ _ _  hZ (lv_sub hl [] rfl) h1
  refine lv_iload hx hb dX0_leave_76 (lv_at hl 0 rfl) ?_
  refine z_if_ne (tgt := 167) C0 h1 dX0_leave_78 (by decide) (fun h1 => ?_) (fun h1 => ?_)
  · exact J167  _ _ _ _  hZ (lv_sub hl [] rfl) h1
  refine lv_aload_n hx hb dX0_leave_81 rfl (lv_at hl 3 rfl) ?_
  refine lv_iconst (v := 3) hx hb dX0_leave_82 (by decide) ?_
  refine lv_iconst (v := 1) hx hb dX0_leave_83 (by decide) ?_
  refine z_cVv (As := [.int 3, .int 1]) (rest := []) C0 hZ h1 (fun _ hf => kX0_tally l hk0 hf) mRX0_152 vX0_tally hk0 rfl rfl hl.1 (Nat.le_of_ble_eq_true rfl) ⟨Nat.le_of_ble_eq_true rfl, Nat.le_of_ble_eq_true rfl⟩ dX0_leave_84 ⟨Nat.le_of_ble_eq_true rfl, Nat.le_of_ble_eq_true rfl⟩ (fun _ σ_31 H locs h1 hZ => ?_)
  refine lv_aload_n hx hb dX0_leave_87 rfl (lv_at hl 3 rfl) ?_
  refine lv_iconst (v := 0) hx hb dX0_leave_88 (by decide) ?_
  refine lv_aload_n hx hb dX0_leave_89 rfl (lv_at hl 3 rfl) ?_
  refine z_getm C0 hZ h1 hk0 fRX0_64 rfl dX0_leave_90 (fun q_33 hq_33 h1 => ?_)
  refine z_geti C0 hZ hq_33 fRX0_156 rfl dX0_leave_93 ?_
  refine z_cVv (As := [.int 0, .int (σ_31 q_33 4)]) (rest := []) C0 hZ h1 (fun _ hf => kX0_tally l hk0 hf) mRX0_152 vX0_tally hk0 rfl rfl hl.1 (Nat.le_of_ble_eq_true rfl) ⟨Nat.le_of_ble_eq_true rfl, Nat.le_of_ble_eq_true rfl⟩ dX0_leave_96 ⟨Nat.le_of_ble_eq_true rfl, Nat.le_of_ble_eq_true rfl⟩ (fun _ σ_34 H locs h1 hZ => ?_)
  refine lv_goto (tgt := 167) hx hb dX0_leave_99 (by decide) ?_
  exact J167  _ _ _ _  hZ (lv_sub hl [] rfl) h1
