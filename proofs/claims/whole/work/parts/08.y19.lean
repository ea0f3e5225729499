noncomputable def FGZ : Nat → zGr
  | 0 => fun _ _ _ _ _ => none
  | n + 1 => fun i k a b σ => match i with
    | 0 => FX8_layOn (FGZ n) k a b σ
    | _ => none
theorem kGZ (l : Launch) : ∀ n, zPGZ l n (FGZ n) := by
  intro n
  induction n with
  | zero => unfold zPGZ; exact fun _ h => (by cases h)
  | succ n ih => unfold zPGZ; exact fun hk h => kX8_layOn l ih hk h
noncomputable def FX8_lay (k0 : Nat) (σ : zS) : Option (Int32 × zS) := zlet (zup σ k0 2 0) (fun σ_1 => zin (ln 1 (k0 + 3)) 0 (if (σ_1 (k0 + 3) (Int32.toNatClampNeg 0)) ≤ 5 then zbd (FX8_set k0 σ_1) (fun _ σ_2 => zlet (zup σ_2 k0 62 0) (fun σ_4 => zin (ln 1 (k0 + 3)) 0 (zbd ((FGZ zfuel) 0 k0 0 (((1 : Int32) <<< ((σ_4 (k0 + 3) (Int32.toNatClampNeg 0)) &&& 31)) - 1) σ_4) (fun _ σ_5 => zlet (zup σ_5 k0 65 1) (fun σ_7 => some ((σ_7 k0 61), σ_7)))))) else some ((-2), σ_1)))
set_option maxHeartbeats 4000000 in
set_option maxRecDepth 100000 in
theorem kX8_lay (l : Launch) {V : zV} {σ : zS} {t0 : Int32 × zS} {k0 : Nat} (hk0 : kd 1 k0 = 8) (h1 : FX8_lay k0 σ = some t0) : zMi l yX8_lay cX8_lay 1 (some .int) 211 8649 1 V σ t0 [.ref (zad V k0)] := by
  refine zMi_of (by decide) (Nat.le_of_ble_eq_true rfl) ?_
  intro p e s m below meth c A C0 hr hlk hZ ls hl
  generalize ([.ref (zad V k0)] : List Value).toArray = args at C0 ⊢
  obtain ⟨Q, hQ⟩ : ∃ Q, Q = MQ below (zQi 1 V t0 A) args s 0 0 A := ⟨_, rfl⟩
  rw [← hQ]
  have hx := C0.1
  have hb := C0.2.1
  have hl : lv_has ls 1 [(0, .ref (zad V k0))] := hl
  unfold FX8_lay at h1
  refine lv_aload_n hx hb dX8_lay_0 rfl (lv_at hl 0 rfl) ?_
  refine lv_iconst (v := 0) hx hb dX8_lay_1 (by decide) ?_
  refine z_puti C0 hZ h1 hk0 fRX8_159 rfl tyX8_ok nmX8 rfl rfl rfl dX8_lay_2 (fun σ_1 H locs h1 hZ => ?_)
  refine lv_aload_n hx hb dX8_lay_5 rfl (lv_at hl 0 rfl) ?_
  refine z_getr C0 hZ hk0 fRX8_40 rfl dX8_lay_6 ?_
  refine lv_iconst (v := 0) hx hb dX8_lay_9 (by decide) ?_
  refine z_iald C0 hZ h1 (zkt8_3 hk0) dX8_lay_10 (fun h1 => ?_)
  refine lv_iconst (v := 5) hx hb dX8_lay_11 (by decide) ?_
  refine z_ic_le (tgt := 18) C0 h1 dX8_lay_12 (by decide) (fun h1 => ?_) (fun h1 => ?_)
  · refine lv_aload_n hx hb dX8_lay_18 rfl (lv_at hl 0 rfl) ?_
    refine z_cVv (As := []) (rest := []) C0 hZ h1 (fun _ hf => kX8_set l hk0 hf) mRX8_469 vX8_set hk0 rfl rfl hl.1 (Nat.le_of_ble_eq_true rfl) ⟨Nat.le_of_ble_eq_true rfl, Nat.le_of_ble_eq_true rfl⟩ dX8_lay_19 ⟨Nat.le_of_ble_eq_true rfl, Nat.le_of_ble_eq_true rfl⟩ (fun _ σ_2 H locs h1 hZ => ?_)
    refine lv_aload_n hx hb dX8_lay_22 rfl (lv_at hl 0 rfl) ?_
    refine lv_iconst (v := 0) hx hb dX8_lay_23 (by decide) ?_
    refine z_puti C0 hZ h1 hk0 fRX8_486 rfl tyX8_ok nmX8 rfl rfl rfl dX8_lay_24 (fun σ_4 H locs h1 hZ => ?_)
    refine lv_aload_n hx hb dX8_lay_27 rfl (lv_at hl 0 rfl) ?_
    refine lv_iconst (v := 0) hx hb dX8_lay_28 (by decide) ?_
    refine lv_iconst (v := 1) hx hb dX8_lay_29 (by decide) ?_
    refine lv_aload_n hx hb dX8_lay_30 rfl (lv_at hl 0 rfl) ?_
    refine z_getr C0 hZ hk0 fRX8_40 rfl dX8_lay_31 ?_
    refine lv_iconst (v := 0) hx hb dX8_lay_34 (by decide) ?_
    refine z_iald C0 hZ h1 (zkt8_3 hk0) dX8_lay_35 (fun h1 => ?_)
    refine lv_ishl hx hb dX8_lay_36 ?_
    refine lv_iconst (v := 1) hx hb dX8_lay_37 (by decide) ?_
    refine lv_isub hx hb dX8_lay_38 ?_
    refine z_cVv (As := [.int 0, .int (((1 : Int32) <<< ((σ_4 (k0 + 3) (Int32.toNatClampNeg 0)) &&& 31)) - 1)]) (rest := []) C0 hZ h1 (fun _ hf => zGGZ_0 (kGZ l zfuel) hk0 hf) mRX8_498 vX8_layOn hk0 rfl rfl hl.1 (Nat.le_of_ble_eq_true rfl) ⟨Nat.le_of_ble_eq_true rfl, Nat.le_of_ble_eq_true rfl⟩ dX8_lay_39 ⟨Nat.le_of_ble_eq_true rfl, Nat.le_of_ble_eq_true rfl⟩ (fun _ σ_5 H locs h1 hZ => ?_)
    refine lv_aload_n hx hb dX8_lay_42 rfl (lv_at hl 0 rfl) ?_
    refine lv_iconst (v := 1) hx hb dX8_lay_43 (by decide) ?_
    refine z_puti C0 hZ h1 hk0 fRX8_347 rfl tyX8_ok nmX8 rfl rfl rfl dX8_lay_44 (fun σ_7 H locs h1 hZ => ?_)
    refine lv_aload_n hx hb dX8_lay_47 rfl (lv_at hl 0 rfl) ?_
    refine z_geti C0 hZ hk0 fRX8_489 rfl dX8_lay_48 ?_
    rw [hQ]; exact z_iret C0 hr hlk hZ h1 dX8_lay_51
  refine lv_bipush (v := (-2)) hx hb dX8_lay_15 (by decide) ?_
  rw [hQ]; exact z_iret C0 hr hlk hZ h1 dX8_lay_17
noncomputable def FX8_laid_b34 (y0 : Int32) (σ : zS) : Option (Int32 × zS) := some (y0, σ)
noncomputable def FX8_laid_b29 (k0 : Nat) (σ : zS) : Option (Int32 × zS) := zbd (FX8_fail k0 1 σ) (fun r_2 σ_1 => FX8_laid_b34 r_2 σ_1)
noncomputable def FX8_laid (k0 : Nat) (x1 : Int32) (σ : zS) : Option (Int32 × zS) := zlet (zup σ k0 2 0) (fun σ_3 => zbd (FX8_isAisle k0 x1 σ_3) (fun r_5 σ_4 => if r_5 = 0 then FX8_laid_b29 k0 σ_4 else if (σ_4 k0 65) = 0 then FX8_laid_b29 k0 σ_4 else zin (ln 1 (k0 + 28)) x1 (FX8_laid_b34 (σ_4 (k0 + 28) (Int32.toNatClampNeg x1)) σ_4)))
set_option maxHeartbeats 4000000 in
set_option maxRecDepth 100000 in
theorem kX8_laid (l : Launch) {V : zV} {σ : zS} {t0 : Int32 × zS} {k0 : Nat} {x1 : Int32} (hk0 : kd 1 k0 = 8) (h1 : FX8_laid k0 x1 σ = some t0) : zMi l yX8_laid cX8_laid 2 (some .int) 2 46 1 V σ t0 [.ref (zad V k0), .int x1] := by
  refine zMi_of (by decide) (Nat.le_of_ble_eq_true rfl) ?_
  intro p e s m below meth c A C0 hr hlk hZ ls hl
  generalize ([.ref (zad V k0), .int x1] : List Value).toArray = args at C0 ⊢
  obtain ⟨Q, hQ⟩ : ∃ Q, Q = MQ below (zQi 1 V t0 A) args s 0 0 A := ⟨_, rfl⟩
  rw [← hQ]
  have hx := C0.1
  have hb := C0.2.1
  have hl : lv_has ls 2 [(0, .ref (zad V k0)), (1, .int x1)] := hl
  unfold FX8_laid at h1
  have J34 : ∀ (y0 : Int32) (σ : zS) (H : Heap) (locs : List Loc) (ls : Array Slot), zZ 1 V A σ s H locs → lv_has ls 2 [] → FX8_laid_b34 y0 σ = some t0 → W p l e (zrm 2 46) s m args below meth c H locs 0 0 Q (F0 m 34 ls [.int y0]) := by
    intro y0 σ H locs ls  hZ hl h1
    unfold FX8_laid_b34 at h1
    rw [hQ]; exact z_iret C0 hr hlk hZ h1 dX8_laid_34
  have J29 : ∀  (σ : zS) (H : Heap) (locs : List Loc) (ls : Array Slot), zZ 1 V A σ s H locs → lv_has ls 2 [(0, .ref (zad V k0))] → FX8_laid_b29 k0 σ = some t0 → W p l e (zrm 2 46) s m args below meth c H locs 0 0 Q (F0 m 29 ls []) := by
    intro  σ H locs ls  hZ hl h1
    unfold FX8_laid_b29 at h1
    refine lv_aload_n hx hb dX8_laid_29 rfl (lv_at hl 0 rfl) ?_
    refine lv_iconst (v := 1) hx hb dX8_laid_30 (by decide) ?_
    refine z_cVi (As := [.int 1]) (rest := []) C0 hZ h1 (fun _ hf => kX8_fail l hk0 hf) mRX8_310 vX8_fail hk0 rfl rfl hl.1 (Nat.le_of_ble_eq_true rfl) ⟨Nat.le_of_ble_eq_true rfl, Nat.le_of_ble_eq_true rfl⟩ dX8_laid_31 ⟨Nat.le_of_ble_eq_true rfl, Nat.le_of_ble_eq_true rfl⟩ (fun r_2 σ_1 H locs h1 hZ => ?_)
    exact J34 r_2 _ _ _ _  hZ (lv_sub hl [] rfl) h1
  refine lv_aload_n hx hb dX8_laid_0 rfl (lv_at hl 0 rfl) ?_
  refine lv_iconst (v := 0) hx hb dX8_laid_1 (by decide) ?_
  refine z_puti C0 hZ h1 hk0 fRX8_159 rfl tyX8_ok nmX8 rfl rfl rfl dX8_laid_2 (fun σ_3 H locs h1 hZ => ?_)
  refine lv_aload_n hx hb dX8_laid_5 rfl (lv_at hl 0 rfl) ?_
  refine lv_iload_n hx hb dX8_laid_6 rfl (lv_at hl 1 rfl) ?_
  refine z_cVi (As := [.int x1]) (rest := []) C0 hZ h1 (fun _ hf => kX8_isAisle l hk0 hf) mRX8_357 vX8_isAisle hk0 rfl rfl hl.1 (Nat.le_of_ble_eq_true rfl) ⟨Nat.le_of_ble_eq_true rfl, Nat.le_of_ble_eq_true rfl⟩ dX8_laid_7 ⟨Nat.le_of_ble_eq_true rfl, Nat.le_of_ble_eq_true rfl⟩ (fun r_5 σ_4 H locs h1 hZ => ?_)
  refine z_if_eq (tgt := 29) C0 h1 dX8_laid_10 (by decide) (fun h1 => ?_) (fun h1 => ?_)
  · exact J29  _ _ _ _  hZ (lv_sub hl [0] rfl) h1
  refine lv_aload_n hx hb dX8_laid_13 rfl (lv_at hl 0 rfl) ?_
  refine z_geti C0 hZ hk0 fRX8_347 rfl dX8_laid_14 ?_
  refine z_if_eq (tgt := 29) C0 h1 dX8_laid_17 (by decide) (fun h1 => ?_) (fun h1 => ?_)
  · exact J29  _ _ _ _  hZ (lv_sub hl [0] rfl) h1
  refine lv_aload_n hx hb dX8_laid_20 rfl (lv_at hl 0 rfl) ?_
  refine z_getr C0 hZ hk0 fRX8_120 rfl dX8_laid_21 ?_
  refine lv_iload_n hx hb dX8_laid_24 rfl (lv_at hl 1 rfl) ?_
  refine z_iald C0 hZ h1 (zkt8_64 hk0) dX8_laid_25 (fun h1 => ?_)
  refine lv_goto (tgt := 34) hx hb dX8_laid_26 (by decide) ?_
  exact J34 (σ_4 (k0 + 28) (Int32.toNatClampNeg x1)) _ _ _ _  hZ (lv_sub hl [] rfl) h1
noncomputable def FX8_without (k0 : Nat) (x1 : Int32) (σ : zS) : Option (Int32 × zS) := zlet (zup σ k0 2 0) (fun σ_1 => zbd (FX8_isPerson k0 x1 σ_1) (fun r_3 σ_2 => if r_3 = 0 then zbd (FX8_fail k0 1 σ_2) (fun r_10 σ_9 => some (r_10, σ_9)) else zbd (FX8_set k0 σ_2) (fun _ σ_4 => zlet (zup σ_4 k0 50 ((σ_4 k0 50) &&& (((1 : Int32) <<< (x1 &&& 31)) ^^^ (-1)))) (fun σ_6 => zbd (FX8_costNow k0 σ_6) (fun r_8 σ_7 => some (r_8, σ_7))))))
set_option maxHeartbeats 4000000 in
set_option maxRecDepth 100000 in
theorem kX8_without (l : Launch) {V : zV} {σ : zS} {t0 : Int32 × zS} {k0 : Nat} {x1 : Int32} (hk0 : kd 1 k0 = 8) (h1 : FX8_without k0 x1 σ = some t0) : zMi l yX8_without cX8_without 2 (some .int) 7 159 1 V σ t0 [.ref (zad V k0), .int x1] := by
  refine zMi_of (by decide) (Nat.le_of_ble_eq_true rfl) ?_
  intro p e s m below meth c A C0 hr hlk hZ ls hl
  generalize ([.ref (zad V k0), .int x1] : List Value).toArray = args at C0 ⊢
  obtain ⟨Q, hQ⟩ : ∃ Q, Q = MQ below (zQi 1 V t0 A) args s 0 0 A := ⟨_, rfl⟩
  rw [← hQ]
  have hx := C0.1
  have hb := C0.2.1
  have hl : lv_has ls 2 [(0, .ref (zad V k0)), (1, .int x1)] := hl
  unfold FX8_without at h1
  refine lv_aload_n hx hb dX8_without_0 rfl (lv_at hl 0 rfl) ?_
  refine lv_iconst (v := 0) hx hb dX8_without_1 (by decide) ?_
  refine z_puti C0 hZ h1 hk0 fRX8_159 rfl tyX8_ok nmX8 rfl rfl rfl dX8_without_2 (fun σ_1 H locs h1 hZ => ?_)
  refine lv_aload_n hx hb dX8_without_5 rfl (lv_at hl 0 rfl) ?_
  refine lv_iload_n hx hb dX8_without_6 rfl (lv_at hl 1 rfl) ?_
  refine z_cVi (As := [.int x1]) (rest := []) C0 hZ h1 (fun _ hf => kX8_isPerson l hk0 hf) mRX8_448 vX8_isPerson hk0 rfl rfl hl.1 (Nat.le_of_ble_eq_true rfl) ⟨Nat.le_of_ble_eq_true rfl, Nat.le_of_ble_eq_true rfl⟩ dX8_without_7 ⟨Nat.le_of_ble_eq_true rfl, Nat.le_of_ble_eq_true rfl⟩ (fun r_3 σ_2 H locs h1 hZ => ?_)
  refine z_if_ne (tgt := 19) C0 h1 dX8_without_10 (by decide) (fun h1 => ?_) (fun h1 => ?_)
  · refine lv_aload_n hx hb dX8_without_19 rfl (lv_at hl 0 rfl) ?_
    refine z_cVv (As := []) (rest := []) C0 hZ h1 (fun _ hf => kX8_set l hk0 hf) mRX8_469 vX8_set hk0 rfl rfl hl.1 (Nat.le_of_ble_eq_true rfl) ⟨Nat.le_of_ble_eq_true rfl, Nat.le_of_ble_eq_true rfl⟩ dX8_without_20 ⟨Nat.le_of_ble_eq_true rfl, Nat.le_of_ble_eq_true rfl⟩ (fun _ σ_4 H locs h1 hZ => ?_)
    refine lv_aload_n hx hb dX8_without_23 rfl (lv_at hl 0 rfl) ?_
    refine lv_dup hx hb dX8_without_24 rfl ?_
    refine z_geti C0 hZ hk0 fRX8_375 rfl dX8_without_25 ?_
    refine lv_iconst (v := 1) hx hb dX8_without_28 (by decide) ?_
    refine lv_iload_n hx hb dX8_without_29 rfl (lv_at hl 1 rfl) ?_
    refine lv_ishl hx hb dX8_without_30 ?_
    refine lv_iconst (v := (-1)) hx hb dX8_without_31 (by decide) ?_
    refine lv_ixor hx hb dX8_without_32 ?_
    refine lv_iand hx hb dX8_without_33 ?_
    refine z_puti C0 hZ h1 hk0 fRX8_375 rfl tyX8_ok nmX8 rfl rfl rfl dX8_without_34 (fun σ_6 H locs h1 hZ => ?_)
    refine lv_aload_n hx hb dX8_without_37 rfl (lv_at hl 0 rfl) ?_
    refine z_cVi (As := []) (rest := []) C0 hZ h1 (fun _ hf => kX8_costNow l hk0 hf) mRX8_472 vX8_costNow hk0 rfl rfl hl.1 (Nat.le_of_ble_eq_true rfl) ⟨Nat.le_of_ble_eq_true rfl, Nat.le_of_ble_eq_true rfl⟩ dX8_without_38 ⟨Nat.le_of_ble_eq_true rfl, Nat.le_of_ble_eq_true rfl⟩ (fun r_8 σ_7 H locs h1 hZ => ?_)
    rw [hQ]; exact z_iret C0 hr hlk hZ h1 dX8_without_41
  refine lv_aload_n hx hb dX8_without_13 rfl (lv_at hl 0 rfl) ?_
  refine lv_iconst (v := 1) hx hb dX8_without_14 (by decide) ?_
  refine z_cVi (As := [.int 1]) (rest := []) C0 hZ h1 (fun _ hf => kX8_fail l hk0 hf) mRX8_310 vX8_fail hk0 rfl rfl hl.1 (Nat.le_of_ble_eq_true rfl) ⟨Nat.le_of_ble_eq_true rfl, Nat.le_of_ble_eq_true rfl⟩ dX8_without_15 ⟨Nat.le_of_ble_eq_true rfl, Nat.le_of_ble_eq_true rfl⟩ (fun r_10 σ_9 H locs h1 hZ => ?_)
  rw [hQ]; exact z_iret C0 hr hlk hZ h1 dX8_without_18
noncomputable def FX8_sign_b26 (k0 : Nat) (σ : zS) : Option (Int32 × zS) := zbd (FX8_refuse k0 2 σ) (fun r_2 σ_1 => some (r_2, σ_1))
noncomputable def FX8_sign_b59 (k0 : Nat) (q0 : Nat) (y1 : Int32) (y2 : Int32) (σ : zS) : Option (Int32 × zS) := zin (ln 1 q0) y1 (zlet (zup σ q0 (Int32.toNatClampNeg y1) y2) (fun σ_3 => zlet (zup σ_3 k0 36 ((σ_3 k0 36) + 1)) (fun σ_4 => some ((σ_4 k0 36), σ_4))))
noncomputable def FX8_sign (k0 : Nat) (x1 : Int32) (x2 : Int32) (σ : zS) : Option (Int32 × zS) := zlet (zup σ k0 2 0) (fun σ_5 => if (σ_5 k0 36) = 12 then FX8_sign_b26 k0 σ_5 else zbd (FX8_isIn (Int32.toInt64 x1) 0 9 σ_5) (fun r_7 σ_6 => if r_7 = 0 then FX8_sign_b26 k0 σ_6 else zin (ln 1 (k0 + 29)) (σ_6 k0 36) (zlet (zup σ_6 (k0 + 29) (Int32.toNatClampNeg (σ_6 k0 36)) x1) (fun σ_8 => if x2 = 0 then FX8_sign_b59 k0 (k0 + 30) (σ_8 k0 36) 0 σ_8 else FX8_sign_b59 k0 (k0 + 30) (σ_8 k0 36) 1 σ_8))))
set_option maxHeartbeats 4000000 in
set_option maxRecDepth 100000 in
theorem kX8_sign (l : Launch) {V : zV} {σ : zS} {t0 : Int32 × zS} {k0 : Nat} {x1 : Int32} {x2 : Int32} (hk0 : kd 1 k0 = 8) (h1 : FX8_sign k0 x1 x2 σ = some t0) : zMi l yX8_sign cX8_sign 3 (some .int) 1 25 1 V σ t0 [.ref (zad V k0), .int x1, .int x2] := by
  refine zMi_of (by decide) (Nat.le_of_ble_eq_true rfl) ?_
  intro p e s m below meth c A C0 hr hlk hZ ls hl
  generalize ([.ref (zad V k0), .int x1, .int x2] : List Value).toArray = args at C0 ⊢
  obtain ⟨Q, hQ⟩ : ∃ Q, Q = MQ below (zQi 1 V t0 A) args s 0 0 A := ⟨_, rfl⟩
  rw [← hQ]
  have hx := C0.1
  have hb := C0.2.1
  have hl : lv_has ls 3 [(0, .ref (zad V k0)), (1, .int x1), (2, .int x2)] := hl
  unfold FX8_sign at h1
  have J26 : ∀  (σ : zS) (H : Heap) (locs : List Loc) (ls : Array Slot), zZ 1 V A σ s H locs → lv_has ls 3 [(0, .ref (zad V k0))] → FX8_sign_b26 k0 σ = some t0 → W p l e (zrm 1 25) s m args below meth c H locs 0 0 Q (F0 m 26 ls []) := by
    intro  σ H locs ls  hZ hl h1
    unfold FX8_sign_b26 at h1
    refine lv_aload_n hx hb dX8_sign_26 rfl (lv_at hl 0 rfl) ?_
    refine lv_iconst (v := 2) hx hb dX8_sign_27 (by decide) ?_
    refine z_cVi (As := [.int 2]) (rest := []) C0 hZ h1 (fun _ hf => kX8_refuse l hk0 hf) mRX8_462 vX8_refuse hk0 rfl rfl hl.1 (Nat.le_of_ble_eq_true rfl) ⟨Nat.le_of_ble_eq_true rfl, Nat.le_of_ble_eq_true rfl⟩ dX8_sign_28 ⟨Nat.le_of_ble_eq_true rfl, Nat.le_of_ble_eq_true rfl⟩ (fun r_2 σ_1 H locs h1 hZ => ?_)
    rw [hQ]; exact z_iret C0 hr hlk hZ h1 dX8_sign_31
  have J59 : ∀ (q0 : Nat) (y1 : Int32) (y2 : Int32) (σ : zS) (H : Heap) (locs : List Loc) (ls : Array Slot), kd 1 q0 = 100 → zZ 1 V A σ s H locs → lv_has ls 3 [(0, .ref (zad V k0))] → FX8_sign_b59 k0 q0 y1 y2 σ = some t0 → W p l e (zrm 1 25) s m args below meth c H locs 0 0 Q (F0 m 59 ls [.int y2, .int y1, .ref (zad V q0)]) := by
    intro q0 y1 y2 σ H locs ls hq0 hZ hl h1
    unfold FX8_sign_b59 at h1
    refine z_iast C0 hZ h1 hq0 dX8_sign_59 (fun σ_3 H locs h1 hZ => ?_)
    refine lv_aload_n hx hb dX8_sign_60 rfl (lv_at hl 0 rfl) ?_
    refine lv_dup hx hb dX8_sign_61 rfl ?_
    refine z_geti C0 hZ hk0 fRX8_341 rfl dX8_sign_62 ?_
    refine lv_iconst (v := 1) hx hb dX8_sign_65 (by decide) ?_
    refine lv_iadd hx hb dX8_sign_66 ?_
    refine z_puti C0 hZ h1 hk0 fRX8_341 rfl tyX8_ok nmX8 rfl rfl rfl dX8_sign_67 (fun σ_4 H locs h1 hZ => ?_)
    refine lv_aload_n hx hb dX8_sign_70 rfl (lv_at hl 0 rfl) ?_
    refine z_geti C0 hZ hk0 fRX8_341 rfl dX8_sign_71 ?_
    rw [hQ]; exact z_iret C0 hr hlk hZ h1 dX8_sign_74
  refine lv_aload_n hx hb dX8_sign_0 rfl (lv_at hl 0 rfl) ?_
  refine lv_iconst (v := 0) hx hb dX8_sign_1 (by decide) ?_
  refine z_puti C0 hZ h1 hk0 fRX8_159 rfl tyX8_ok nmX8 rfl rfl rfl dX8_sign_2 (fun σ_5 H locs h1 hZ => ?_)
  refine lv_aload_n hx hb dX8_sign_5 rfl (lv_at hl 0 rfl) ?_
  refine z_geti C0 hZ hk0 fRX8_341 rfl dX8_sign_6 ?_
  refine lv_bipush (v := 12) hx hb dX8_sign_9 (by decide) ?_
  refine z_ic_eq (tgt := 26) C0 h1 dX8_sign_11 (by decide) (fun h1 => ?_) (fun h1 => ?_)
  · exact J26  _ _ _ _  hZ (lv_sub hl [0] rfl) h1
  refine lv_iload_n hx hb dX8_sign_14 rfl (lv_at hl 1 rfl) ?_
  refine lv_i2l (v := (Int32.toInt64 x1)) hx hb dX8_sign_15 rfl ?_
  refine lv_lconst (v := 0) hx hb dX8_sign_16 (by decide) ?_
  refine lv_ldc2 (v := 9) hx hb C0.2.2.2.1 (C0.2.2.2.2 _ (zmem 2006 (by decide +kernel) (by decide +kernel))) dX8_sign_17 ?_
  refine z_cSi (As := [.long (Int32.toInt64 x1), .long 0, .long 9]) (rest := []) C0 hZ h1 (fun _ hf => kX8_isIn l  hf) mRX8_162 sX8_isIn rfl rfl hl.1 (Nat.le_of_ble_eq_true rfl) ⟨Nat.le_of_ble_eq_true rfl, Nat.le_of_ble_eq_true rfl⟩ dX8_sign_20 ⟨Nat.le_of_ble_eq_true rfl, Nat.le_of_ble_eq_true rfl⟩ (fun r_7 σ_6 H locs h1 hZ => ?_)
  refine z_if_ne (tgt := 32) C0 h1 dX8_sign_23 (by decide) (fun h1 => ?_) (fun h1 => ?_)
  · refine lv_aload_n hx hb dX8_sign_32 rfl (lv_at hl 0 rfl) ?_
    refine z_getr C0 hZ hk0 fRX8_123 rfl dX8_sign_33 ?_
    refine lv_aload_n hx hb dX8_sign_36 rfl (lv_at hl 0 rfl) ?_
    refine z_geti C0 hZ hk0 fRX8_341 rfl dX8_sign_37 ?_
    refine lv_iload_n hx hb dX8_sign_40 rfl (lv_at hl 1 rfl) ?_
    refine z_iast C0 hZ h1 (zkt8_66 hk0) dX8_sign_41 (fun σ_8 H locs h1 hZ => ?_)
    refine lv_aload_n hx hb dX8_sign_42 rfl (lv_at hl 0 rfl) ?_
    refine z_getr C0 hZ hk0 fRX8_126 rfl dX8_sign_43 ?_
    refine lv_aload_n hx hb dX8_sign_46 rfl (lv_at hl 0 rfl) ?_
    refine z_geti C0 hZ hk0 fRX8_341 rfl dX8_sign_47 ?_
    refine lv_iload_n hx hb dX8_sign_50 rfl (lv_at hl 2 rfl) ?_
    refine z_if_eq (tgt := 58) C0 h1 dX8_sign_51 (by decide) (fun h1 => ?_) (fun h1 => ?_)
    · refine lv_iconst (v := 0) hx hb dX8_sign_58 (by decide) ?_
      exact J59 (k0 + 30) (σ_8 k0 36) 0 _ _ _ _ (zkt8_67 hk0) hZ (lv_sub hl [0] rfl) h1
    refine lv_iconst (v := 1) hx hb dX8_sign_54 (by decide) ?_
    refine lv_goto (tgt := 59) hx hb dX8_sign_55 (by decide) ?_
    exact J59 (k0 + 30) (σ_8 k0 36) 1 _ _ _ _ (zkt8_67 hk0) hZ (lv_sub hl [0] rfl) h1
  exact J26  _ _ _ _  hZ (lv_sub hl [0] rfl) h1
noncomputable def FX8_signed_b53 (x3 : Int32) (σ : zS) : Option (Int32 × zS) := some (x3, σ)
noncomputable def FX8_signed_b45 (k0 : Nat) (x1 : Int32) (x2 : Int32) (x4 : Int32) (y0 : Int32) (y1 : Int32) (σ : zS) : Option ((Int32 × Int32 × zS) ⊕ (Int32 × zS)) := zlet (y0 + y1) (fun x3_1 => zlet (x4 + 1) (fun x4_2 => some (.inl (x3_1, x4_2, σ))))
noncomputable def FX8_signed_L5 (k0 : Nat) (x1 : Int32) (x2 : Int32) (x3 : Int32) (x4 : Int32) (σ : zS) : Option ((Int32 × Int32 × zS) ⊕ (Int32 × zS)) := if (σ k0 36) ≤ x4 then zinr (FX8_signed_b53 x3 σ) else zin (ln 1 (k0 + 29)) x4 (if (σ (k0 + 29) (Int32.toNatClampNeg x4)) < x1 then FX8_signed_b45 k0 x1 x2 x4 x3 0 σ else if x2 = 0 then zin (ln 1 (k0 + 30)) x4 (FX8_signed_b45 k0 x1 x2 x4 x3 (σ (k0 + 30) (Int32.toNatClampNeg x4)) σ) else FX8_signed_b45 k0 x1 x2 x4 x3 1 σ)
noncomputable def FX8_signed (k0 : Nat) (x1 : Int32) (x2 : Int32) (σ : zS) : Option (Int32 × zS) := zlet 0 (fun x3_3 => zlet 0 (fun x4_4 => zlp (fun q => FX8_signed_L5 k0 x1 x2 q.1 q.2.1 q.2.2) (x3_3, x4_4, σ)))
set_option maxHeartbeats 4000000 in
set_option maxRecDepth 100000 in
theorem kX8_signed (l : Launch) {V : zV} {σ : zS} {t0 : Int32 × zS} {k0 : Nat} {x1 : Int32} {x2 : Int32} (hk0 : kd 1 k0 = 8) (h1 : FX8_signed k0 x1 x2 σ = some t0) : zMi l yX8_signed cX8_signed 5 (some .int) 0 0 1 V σ t0 [.ref (zad V k0), .int x1, .int x2] := by
  refine zMi_of (by decide) (Nat.le_of_ble_eq_true rfl) ?_
  intro p e s m below meth c A C0 hr hlk hZ ls hl
  generalize ([.ref (zad V k0), .int x1, .int x2] : List Value).toArray = args at C0 ⊢
  obtain ⟨Q, hQ⟩ : ∃ Q, Q = MQ below (zQi 1 V t0 A) args s 0 0 A := ⟨_, rfl⟩
  rw [← hQ]
  have hx := C0.1
  have hb := C0.2.1
  have hl : lv_has ls 5 [(0, .ref (zad V k0)), (1, .int x1), (2, .int x2)] := hl
  unfold FX8_signed at h1
  have J53 : ∀ (x3 : Int32) (σ : zS) (H : Heap) (locs : List Loc) (ls : Array Slot), zZ 1 V A σ s H locs → lv_has ls 5 [(3, .int x3)] → FX8_signed_b53 x3 σ = some t0 → W p l e (zrm 0 0) s m args below meth c H locs 0 0 Q (F0 m 53 ls []) := by
    intro x3 σ H locs ls  hZ hl h1
    unfold FX8_signed_b53 at h1
    refine lv_iload_n hx hb dX8_signed_53 rfl (lv_at hl 0 rfl) ?_
    rw [hQ]; exact z_iret C0 hr hlk hZ h1 dX8_signed_54
  have J5 : ∀ (n : Nat) (x3 : Int32) (x4 : Int32) (σ : zS) (H : Heap) (locs : List Loc) (ls : Array Slot), zZ 1 V A σ s H locs → lv_has ls 5 [(0, .ref (zad V k0)), (1, .int x1), (2, .int x2), (3, .int x3), (4, .int x4)] → zit (fun q => FX8_signed_L5 k0 x1 x2 q.1 q.2.1 q.2.2) n (x3, x4, σ) = some t0 → W p l e (zrm 0 0) s m args below meth c H locs 0 0 Q (F0 m 5 ls []) := by
    intro n
    induction n with
    | zero => intro x3 x4 σ H locs ls  _ _ h1; cases h1
    | succ n ih5 =>
      intro x3 x4 σ H locs ls  hZ hl h1
      obtain ⟨t1, h1, hz1⟩ := zit_1 h1
      have J45 : ∀ (x4 : Int32) (y0 : Int32) (y1 : Int32) (σ : zS) (H : Heap) (locs : List Loc) (ls : Array Slot), zZ 1 V A σ s H locs → lv_has ls 5 [(0, .ref (zad V k0)), (1, .int x1), (2, .int x2), (4, .int x4)] → FX8_signed_b45 k0 x1 x2 x4 y0 y1 σ = some t1 → W p l e (zrm 0 0) s m args below meth c H locs 0 0 Q (F0 m 45 ls [.int y1, .int y0]) := by
        intro x4 y0 y1 σ H locs ls  hZ hl h1
        unfold FX8_signed_b45 at h1
        refine lv_iadd hx hb dX8_signed_45 ?_
        refine z_istore_n C0 h1 hl (fun x3_1 => [(3, .int x3_1), (0, .ref (zad V k0)), (1, .int x1), (2, .int x2), (4, .int x4)]) dX8_signed_46 rfl (by decide) (fun _ => rfl) (fun x3_1 ls h1 hl => ?_)
        refine z_iinc (v := 1) C0 h1 hl (fun x4_2 => [(4, .int x4_2), (3, .int x3_1), (0, .ref (zad V k0)), (1, .int x1), (2, .int x2)]) dX8_signed_47 (k := 4) rfl (by decide) (by decide) (fun _ => rfl) (fun x4_2 ls h1 hl => ?_)
        refine lv_goto (tgt := 5) hx hb dX8_signed_50 (by decide) ?_
        exact ih5 x3_1 x4_2 _ _ _ _  hZ (lv_sub hl [2, 3, 4, 1, 0] rfl) (zback h1 hz1)
      replace h1 : FX8_signed_L5 k0 x1 x2 x3 x4 σ = some t1 := h1
      unfold FX8_signed_L5 at h1
      refine lv_iload hx hb dX8_signed_5 (lv_at hl 4 rfl) ?_
      refine lv_aload_n hx hb dX8_signed_7 rfl (lv_at hl 0 rfl) ?_
      refine z_geti C0 hZ hk0 fRX8_341 rfl dX8_signed_8 ?_
      refine z_ic_ge (tgt := 53) C0 h1 dX8_signed_11 (by decide) (fun h1 => ?_) (fun h1 => ?_)
      · have h1 := zout h1 hz1
        exact J53 x3 _ _ _ _  hZ (lv_sub hl [3] rfl) h1
      refine lv_iload_n hx hb dX8_signed_14 rfl (lv_at hl 3 rfl) ?_
      refine lv_aload_n hx hb dX8_signed_15 rfl (lv_at hl 0 rfl) ?_
      refine z_getr C0 hZ hk0 fRX8_123 rfl dX8_signed_16 ?_
      refine lv_iload hx hb dX8_signed_19 (lv_at hl 4 rfl) ?_
      refine z_iald C0 hZ h1 (zkt8_66 hk0) dX8_signed_21 (fun h1 => ?_)
      refine lv_iload_n hx hb dX8_signed_22 rfl (lv_at hl 1 rfl) ?_
      refine z_ic_lt (tgt := 44) C0 h1 dX8_signed_23 (by decide) (fun h1 => ?_) (fun h1 => ?_)
      · refine lv_iconst (v := 0) hx hb dX8_signed_44 (by decide) ?_
        exact J45 x4 x3 0 _ _ _ _  hZ (lv_sub hl [0, 1, 2, 4] rfl) h1
      refine lv_iload_n hx hb dX8_signed_26 rfl (lv_at hl 2 rfl) ?_
      refine z_if_eq (tgt := 34) C0 h1 dX8_signed_27 (by decide) (fun h1 => ?_) (fun h1 => ?_)
      · refine lv_aload_n hx hb dX8_signed_34 rfl (lv_at hl 0 rfl) ?_
        refine z_getr C0 hZ hk0 fRX8_126 rfl dX8_signed_35 ?_
        refine lv_iload hx hb dX8_signed_38 (lv_at hl 4 rfl) ?_
        refine z_iald C0 hZ h1 (zkt8_67 hk0) dX8_signed_40 (fun h1 => ?_)
        refine lv_goto (tgt := 45) hx hb dX8_signed_41 (by decide) ?_
        exact J45 x4 x3 (σ (k0 + 30) (Int32.toNatClampNeg x4)) _ _ _ _  hZ (lv_sub hl [0, 1, 2, 4] rfl) h1
      refine lv_iconst (v := 1) hx hb dX8_signed_30 (by decide) ?_
      refine lv_goto (tgt := 45) hx hb dX8_signed_31 (by decide) ?_
      exact J45 x4 x3 1 _ _ _ _  hZ (lv_sub hl [0, 1, 2, 4] rfl) h1
  refine lv_iconst (v := 0) hx hb dX8_signed_0 (by decide) ?_
  refine z_istore_n C0 h1 hl (fun x3_3 => [(3, .int x3_3), (0, .ref (zad V k0)), (1, .int x1), (2, .int x2)]) dX8_signed_1 rfl (by decide) (fun _ => rfl) (fun x3_3 ls h1 hl => ?_)
  refine lv_iconst (v := 0) hx hb dX8_signed_2 (by decide) ?_
  refine z_istore C0 h1 hl (fun x4_4 => [(4, .int x4_4), (3, .int x3_3), (0, .ref (zad V k0)), (1, .int x1), (2, .int x2)]) dX8_signed_3 (by decide) (fun _ => rfl) (fun x4_4 ls h1 hl => ?_)
  obtain ⟨n, h1⟩ := zlp_iff.mp h1
  exact J5 n x3_3 x4_4 _ _ _ _  hZ (lv_sub hl [2, 3, 4, 1, 0] rfl) h1
noncomputable def FX8_common_b21 (x2 : Int32) (σ : zS) : Option (Int32 × zS) := some (x2, σ)
noncomputable def FX8_common_L4 (x2 : Int32) (x3 : Int32) (σ : zS) : Option ((Int32 × Int32 × zS) ⊕ (Int32 × zS)) := if x3 = 0 then zinr (FX8_common_b21 x2 σ) else zgd (x3 != 0) (zlet (x2 - x2 / x3 * x3) (fun x4_1 => zlet x3 (fun x2_2 => zlet x4_1 (fun x3_3 => some (.inl (x2_2, x3_3, σ))))))
noncomputable def FX8_common (x0 : Int32) (x1 : Int32) (σ : zS) : Option (Int32 × zS) := zlet x0 (fun x2_4 => zlet x1 (fun x3_5 => zlp (fun q => FX8_common_L4  q.1 q.2.1 q.2.2) (x2_4, x3_5, σ)))
set_option maxHeartbeats 4000000 in
set_option maxRecDepth 100000 in
theorem kX8_common (l : Launch) {V : zV} {σ : zS} {t0 : Int32 × zS} {x0 : Int32} {x1 : Int32}  (h1 : FX8_common x0 x1 σ = some t0) : zMi l yX8_common cX8_common 5 (some .int) 0 0 1 V σ t0 [.int x0, .int x1] := by
  refine zMi_of (by decide) (Nat.le_of_ble_eq_true rfl) ?_
  intro p e s m below meth c A C0 hr hlk hZ ls hl
  generalize ([.int x0, .int x1] : List Value).toArray = args at C0 ⊢
  obtain ⟨Q, hQ⟩ : ∃ Q, Q = MQ below (zQi 1 V t0 A) args s 0 0 A := ⟨_, rfl⟩
  rw [← hQ]
  have hx := C0.1
  have hb := C0.2.1
  have hl : lv_has ls 5 [(0, .int x0), (1, .int x1)] := hl
  unfold FX8_common at h1
  have J21 : ∀ (x2 : Int32) (σ : zS) (H : Heap) (locs : List Loc) (ls : Array Slot), zZ 1 V A σ s H locs → lv_has ls 5 [(2, .int x2)] → FX8_common_b21 x2 σ = some t0 → W p l e (zrm 0 0) s m args below meth c H locs 0 0 Q (F0 m 21 ls []) := by
    intro x2 σ H locs ls  hZ hl h1
    unfold FX8_common_b21 at h1
    refine lv_iload_n hx hb dX8_common_21 rfl (lv_at hl 0 rfl) ?_
    rw [hQ]; exact z_iret C0 hr hlk hZ h1 dX8_common_22
  have J4 : ∀ (n : Nat) (x2 : Int32) (x3 : Int32) (σ : zS) (H : Heap) (locs : List Loc) (ls : Array Slot), zZ 1 V A σ s H locs → lv_has ls 5 [(2, .int x2), (3, .int x3)] → zit (fun q => FX8_common_L4  q.1 q.2.1 q.2.2) n (x2, x3, σ) = some t0 → W p l e (zrm 0 0) s m args below meth c H locs 0 0 Q (F0 m 4 ls []) := by
    intro n
    induction n with
    | zero => intro x2 x3 σ H locs ls  _ _ h1; cases h1
    | succ n ih4 =>
      intro x2 x3 σ H locs ls  hZ hl h1
      obtain ⟨t1, h1, hz1⟩ := zit_1 h1
      replace h1 : FX8_common_L4 x2 x3 σ = some t1 := h1
      unfold FX8_common_L4 at h1
      refine lv_iload_n hx hb dX8_common_4 rfl (lv_at hl 1 rfl) ?_
      refine z_if_eq (tgt := 21) C0 h1 dX8_common_5 (by decide) (fun h1 => ?_) (fun h1 => ?_)
      · have h1 := zout h1 hz1
        exact J21 x2 _ _ _ _  hZ (lv_sub hl [0] rfl) h1
      refine lv_iload_n hx hb dX8_common_8 rfl (lv_at hl 0 rfl) ?_
      refine lv_iload_n hx hb dX8_common_9 rfl (lv_at hl 1 rfl) ?_
      refine z_irem C0 h1 dX8_common_10 (fun h1 => ?_)
      refine z_istore C0 h1 hl (fun x4_1 => [(4, .int x4_1), (2, .int x2), (3, .int x3)]) dX8_common_11 (by decide) (fun _ => rfl) (fun x4_1 ls h1 hl => ?_)
      refine lv_iload_n hx hb dX8_common_13 rfl (lv_at hl 2 rfl) ?_
      refine z_istore_n C0 h1 hl (fun x2_2 => [(2, .int x2_2), (4, .int x4_1), (3, .int x3)]) dX8_common_14 rfl (by decide) (fun _ => rfl) (fun x2_2 ls h1 hl => ?_)
      refine lv_iload hx hb dX8_common_15 (lv_at hl 1 rfl) ?_
      refine z_istore_n C0 h1 hl (fun x3_3 => [(3, .int x3_3), (2, .int x2_2), (4, .int x4_1)]) dX8_common_17 rfl (by decide) (fun _ => rfl) (fun x3_3 ls h1 hl => ?_)
      refine lv_goto (tgt := 4) hx hb dX8_common_18 (by decide) ?_
      exact ih4 x2_2 x3_3 _ _ _ _  hZ (lv_sub hl [1, 0] rfl) (zback h1 hz1)
  refine lv_iload_n hx hb dX8_common_0 rfl (lv_at hl 0 rfl) ?_
  refine z_istore_n C0 h1 hl (fun x2_4 => [(2, .int x2_4), (0, .int x0), (1, .int x1)]) dX8_common_1 rfl (by decide) (fun _ => rfl) (fun x2_4 ls h1 hl => ?_)
  refine lv_iload_n hx hb dX8_common_2 rfl (lv_at hl 2 rfl) ?_
  refine z_istore_n C0 h1 hl (fun x3_5 => [(3, .int x3_5), (2, .int x2_4), (0, .int x0), (1, .int x1)]) dX8_common_3 rfl (by decide) (fun _ => rfl) (fun x3_5 ls h1 hl => ?_)
  obtain ⟨n, h1⟩ := zlp_iff.mp h1
  exact J4 n x2_4 x3_5 _ _ _ _  hZ (lv_sub hl [1, 0] rfl) h1
noncomputable def FX8_part_b25 (y0 : Int32) (σ : zS) : Option (Int32 × zS) := some (y0, σ)
noncomputable def FX8_part (x0 : Int32) (x1 : Int32) (x2 : Int32) (σ : zS) : Option (Int32 × zS) := if x1 = 0 then some (x2, σ) else zbd (FX8_common x1 x0 σ) (fun r_2 σ_1 => zlet r_2 (fun x3_3 => if x2 = 0 then zgd (x3_3 != 0) (FX8_part_b25 (x0 / x3_3) σ_1) else zgd (x3_3 != 0) (FX8_part_b25 (x1 / x3_3) σ_1)))
set_option maxHeartbeats 4000000 in
set_option maxRecDepth 100000 in
theorem kX8_part (l : Launch) {V : zV} {σ : zS} {t0 : Int32 × zS} {x0 : Int32} {x1 : Int32} {x2 : Int32}  (h1 : FX8_part x0 x1 x2 σ = some t0) : zMi l yX8_part cX8_part 4 (some .int) 1 24 1 V σ t0 [.int x0, .int x1, .int x2] := by
  refine zMi_of (by decide) (Nat.le_of_ble_eq_true rfl) ?_
  intro p e s m below meth c A C0 hr hlk hZ ls hl
  generalize ([.int x0, .int x1, .int x2] : List Value).toArray = args at C0 ⊢
  obtain ⟨Q, hQ⟩ : ∃ Q, Q = MQ below (zQi 1 V t0 A) args s 0 0 A := ⟨_, rfl⟩
  rw [← hQ]
  have hx := C0.1
  have hb := C0.2.1
  have hl : lv_has ls 4 [(0, .int x0), (1, .int x1), (2, .int x2)] := hl
  unfold FX8_part at h1
  have J25 : ∀ (y0 : Int32) (σ : zS) (H : Heap) (locs : List Loc) (ls : Array Slot), zZ 1 V A σ s H locs → lv_has ls 4 [] → FX8_part_b25 y0 σ = some t0 → W p l e (zrm 1 24) s m args below meth c H locs 0 0 Q (F0 m 25 ls [.int y0]) := by
    intro y0 σ H locs ls  hZ hl h1
    unfold FX8_part_b25 at h1
    rw [hQ]; exact z_iret C0 hr hlk hZ h1 dX8_part_25
  refine lv_iload_n hx hb dX8_part_0 rfl (lv_at hl 1 rfl) ?_
  refine z_if_ne (tgt := 6) C0 h1 dX8_part_1 (by decide) (fun h1 => ?_) (fun h1 => ?_)
  · refine lv_iload_n hx hb dX8_part_6 rfl (lv_at hl 1 rfl) ?_
    refine lv_iload_n hx hb dX8_part_7 rfl (lv_at hl 0 rfl) ?_
    refine z_cSi (As := [.int x1, .int x0]) (rest := []) C0 hZ h1 (fun _ hf => kX8_common l  hf) mRX8_504 sX8_common rfl rfl hl.1 (Nat.le_of_ble_eq_true rfl) ⟨Nat.le_of_ble_eq_true rfl, Nat.le_of_ble_eq_true rfl⟩ dX8_part_8 ⟨Nat.le_of_ble_eq_true rfl, Nat.le_of_ble_eq_true rfl⟩ (fun r_2 σ_1 H locs h1 hZ => ?_)
    refine z_istore_n C0 h1 hl (fun x3_3 => [(3, .int x3_3), (0, .int x0), (1, .int x1), (2, .int x2)]) dX8_part_11 rfl (by decide) (fun _ => rfl) (fun x3_3 ls h1 hl => ?_)
    refine lv_iload_n hx hb dX8_part_12 rfl (lv_at hl 3 rfl) ?_
    refine z_if_ne (tgt := 22) C0 h1 dX8_part_13 (by decide) (fun h1 => ?_) (fun h1 => ?_)
    · refine lv_iload_n hx hb dX8_part_22 rfl (lv_at hl 2 rfl) ?_
      refine lv_iload_n hx hb dX8_part_23 rfl (lv_at hl 0 rfl) ?_
      refine z_idiv C0 h1 dX8_part_24 (fun h1 => ?_)
      exact J25 (x1 / x3_3) _ _ _ _  hZ (lv_sub hl [] rfl) h1
    refine lv_iload_n hx hb dX8_part_16 rfl (lv_at hl 1 rfl) ?_
    refine lv_iload_n hx hb dX8_part_17 rfl (lv_at hl 0 rfl) ?_
    refine z_idiv C0 h1 dX8_part_18 (fun h1 => ?_)
    refine lv_goto (tgt := 25) hx hb dX8_part_19 (by decide) ?_
    exact J25 (x0 / x3_3) _ _ _ _  hZ (lv_sub hl [] rfl) h1
  refine lv_iload_n hx hb dX8_part_4 rfl (lv_at hl 2 rfl) ?_
  rw [hQ]; exact z_iret C0 hr hlk hZ h1 dX8_part_5
noncomputable def FX8_odds_b14 (k0 : Nat) (σ : zS) : Option (Int32 × zS) := zbd (FX8_fail k0 1 σ) (fun r_2 σ_1 => some (r_2, σ_1))
noncomputable def FX8_odds_b56 (y0 : Int32) (σ : zS) : Option (Int32 × zS) := some (y0, σ)
noncomputable def FX8_odds (k0 : Nat) (x1 : Int32) (x2 : Int32) (σ : zS) : Option (Int32 × zS) := zlet (zup σ k0 2 0) (fun σ_3 => if x2 < 0 then FX8_odds_b14 k0 σ_3 else if x2 ≤ 1 then zbd (FX8_isIn (Int32.toInt64 x1) 0 9 σ_3) (fun r_5 σ_4 => if r_5 = 0 then zbd (FX8_fail k0 2 σ_4) (fun r_7 σ_6 => FX8_odds_b56 r_7 σ_6) else zbd (FX8_signed k0 x1 0 σ_4) (fun r_9 σ_8 => zbd (FX8_signed k0 x1 1 σ_8) (fun r_11 σ_10 => zbd (FX8_part r_9 r_11 x2 σ_10) (fun r_13 σ_12 => FX8_odds_b56 r_13 σ_12)))) else FX8_odds_b14 k0 σ_3)
set_option maxHeartbeats 4000000 in
set_option maxRecDepth 100000 in
theorem kX8_odds (l : Launch) {V : zV} {σ : zS} {t0 : Int32 × zS} {k0 : Nat} {x1 : Int32} {x2 : Int32} (hk0 : kd 1 k0 = 8) (h1 : FX8_odds k0 x1 x2 σ = some t0) : zMi l yX8_odds cX8_odds 3 (some .int) 2 47 1 V σ t0 [.ref (zad V k0), .int x1, .int x2] := by
  refine zMi_of (by decide) (Nat.le_of_ble_eq_true rfl) ?_
  intro p e s m below meth c A C0 hr hlk hZ ls hl
  generalize ([.ref (zad V k0), .int x1, .int x2] : List Value).toArray = args at C0 ⊢
  obtain ⟨Q, hQ⟩ : ∃ Q, Q = MQ below (zQi 1 V t0 A) args s 0 0 A := ⟨_, rfl⟩
  rw [← hQ]
  have hx := C0.1
  have hb := C0.2.1
  have hl : lv_has ls 3 [(0, .ref (zad V k0)), (1, .int x1), (2, .int x2)] := hl
  unfold FX8_odds at h1
  have J14 : ∀  (σ : zS) (H : Heap) (locs : List Loc) (ls : Array Slot), zZ 1 V A σ s H locs → lv_has ls 3 [(0, .ref (zad V k0))] → FX8_odds_b14 k0 σ = some t0 → W p l e (zrm 2 47) s m args below meth c H locs 0 0 Q (F0 m 14 ls []) := by
    intro  σ H locs ls  hZ hl h1
    unfold FX8_odds_b14 at h1
    refine lv_aload_n hx hb dX8_odds_14 rfl (lv_at hl 0 rfl) ?_
    refine lv_iconst (v := 1) hx hb dX8_odds_15 (by decide) ?_
    refine z_cVi (As := [.int 1]) (rest := []) C0 hZ h1 (fun _ hf => kX8_fail l hk0 hf) mRX8_310 vX8_fail hk0 rfl rfl hl.1 (Nat.le_of_ble_eq_true rfl) ⟨Nat.le_of_ble_eq_true rfl, Nat.le_of_ble_eq_true rfl⟩ dX8_odds_16 ⟨Nat.le_of_ble_eq_true rfl, Nat.le_of_ble_eq_true rfl⟩ (fun r_2 σ_1 H locs h1 hZ => ?_)
    rw [hQ]; exact z_iret C0 hr hlk hZ h1 dX8_odds_19
  have J56 : ∀ (y0 : Int32) (σ : zS) (H : Heap) (locs : List Loc) (ls : Array Slot), zZ 1 V A σ s H locs → lv_has ls 3 [] → FX8_odds_b56 y0 σ = some t0 → W p l e (zrm 2 47) s m args below meth c H locs 0 0 Q (F0 m 56 ls [.int y0]) := by
    intro y0 σ H locs ls  hZ hl h1
    unfold FX8_odds_b56 at h1
    rw [hQ]; exact z_iret C0 hr hlk hZ h1 dX8_odds_56
  refine lv_aload_n hx hb dX8_odds_0 rfl (lv_at hl 0 rfl) ?_
  refine lv_iconst (v := 0) hx hb dX8_odds_1 (by decide) ?_
  refine z_puti C0 hZ h1 hk0 fRX8_159 rfl tyX8_ok nmX8 rfl rfl rfl dX8_odds_2 (fun σ_3 H locs h1 hZ => ?_)
  refine lv_iload_n hx hb dX8_odds_5 rfl (lv_at hl 2 rfl) ?_
  refine z_if_lt (tgt := 14) C0 h1 dX8_odds_6 (by decide) (fun h1 => ?_) (fun h1 => ?_)
  · exact J14  _ _ _ _  hZ (lv_sub hl [0] rfl) h1
  refine lv_iload_n hx hb dX8_odds_9 rfl (lv_at hl 2 rfl) ?_
  refine lv_iconst (v := 1) hx hb dX8_odds_10 (by decide) ?_
  refine z_ic_le (tgt := 20) C0 h1 dX8_odds_11 (by decide) (fun h1 => ?_) (fun h1 => ?_)
  · refine lv_iload_n hx hb dX8_odds_20 rfl (lv_at hl 1 rfl) ?_
    refine lv_i2l (v := (Int32.toInt64 x1)) hx hb dX8_odds_21 rfl ?_
    refine lv_lconst (v := 0) hx hb dX8_odds_22 (by decide) ?_
    refine lv_ldc2 (v := 9) hx hb C0.2.2.2.1 (C0.2.2.2.2 _ (zmem 2006 (by decide +kernel) (by decide +kernel))) dX8_odds_23 ?_
    refine z_cSi (As := [.long (Int32.toInt64 x1), .long 0, .long 9]) (rest := []) C0 hZ h1 (fun _ hf => kX8_isIn l  hf) mRX8_162 sX8_isIn rfl rfl hl.1 (Nat.le_of_ble_eq_true rfl) ⟨Nat.le_of_ble_eq_true rfl, Nat.le_of_ble_eq_true rfl⟩ dX8_odds_26 ⟨Nat.le_of_ble_eq_true rfl, Nat.le_of_ble_eq_true rfl⟩ (fun r_5 σ_4 H locs h1 hZ => ?_)
    refine z_if_eq (tgt := 51) C0 h1 dX8_odds_29 (by decide) (fun h1 => ?_) (fun h1 => ?_)
    · refine lv_aload_n hx hb dX8_odds_51 rfl (lv_at hl 0 rfl) ?_
      refine lv_iconst (v := 2) hx hb dX8_odds_52 (by decide) ?_
      refine z_cVi (As := [.int 2]) (rest := []) C0 hZ h1 (fun _ hf => kX8_fail l hk0 hf) mRX8_310 vX8_fail hk0 rfl rfl hl.1 (Nat.le_of_ble_eq_true rfl) ⟨Nat.le_of_ble_eq_true rfl, Nat.le_of_ble_eq_true rfl⟩ dX8_odds_53 ⟨Nat.le_of_ble_eq_true rfl, Nat.le_of_ble_eq_true rfl⟩ (fun r_7 σ_6 H locs h1 hZ => ?_)
      exact J56 r_7 _ _ _ _  hZ (lv_sub hl [] rfl) h1
    refine lv_aload_n hx hb dX8_odds_32 rfl (lv_at hl 0 rfl) ?_
    refine lv_iload_n hx hb dX8_odds_33 rfl (lv_at hl 1 rfl) ?_
    refine lv_iconst (v := 0) hx hb dX8_odds_34 (by decide) ?_
    refine z_cVi (As := [.int x1, .int 0]) (rest := []) C0 hZ h1 (fun _ hf => kX8_signed l hk0 hf) mRX8_507 vX8_signed hk0 rfl rfl hl.1 (Nat.le_of_ble_eq_true rfl) ⟨Nat.le_of_ble_eq_true rfl, Nat.le_of_ble_eq_true rfl⟩ dX8_odds_35 ⟨Nat.le_of_ble_eq_true rfl, Nat.le_of_ble_eq_true rfl⟩ (fun r_9 σ_8 H locs h1 hZ => ?_)
    refine lv_aload_n hx hb dX8_odds_38 rfl (lv_at hl 0 rfl) ?_
    refine lv_iload_n hx hb dX8_odds_39 rfl (lv_at hl 1 rfl) ?_
    refine lv_iconst (v := 1) hx hb dX8_odds_40 (by decide) ?_
    refine z_cVi (As := [.int x1, .int 1]) (rest := [.int r_9]) C0 hZ h1 (fun _ hf => kX8_signed l hk0 hf) mRX8_507 vX8_signed hk0 rfl rfl hl.1 (Nat.le_of_ble_eq_true rfl) ⟨Nat.le_of_ble_eq_true rfl, Nat.le_of_ble_eq_true rfl⟩ dX8_odds_41 ⟨Nat.le_of_ble_eq_true rfl, Nat.le_of_ble_eq_true rfl⟩ (fun r_11 σ_10 H locs h1 hZ => ?_)
    refine lv_iload_n hx hb dX8_odds_44 rfl (lv_at hl 2 rfl) ?_
    refine z_cSi (As := [.int r_9, .int r_11, .int x2]) (rest := []) C0 hZ h1 (fun _ hf => kX8_part l  hf) mRX8_511 sX8_part rfl rfl hl.1 (Nat.le_of_ble_eq_true rfl) ⟨Nat.le_of_ble_eq_true rfl, Nat.le_of_ble_eq_true rfl⟩ dX8_odds_45 ⟨Nat.le_of_ble_eq_true rfl, Nat.le_of_ble_eq_true rfl⟩ (fun r_13 σ_12 H locs h1 hZ => ?_)
    refine lv_goto (tgt := 56) hx hb dX8_odds_48 (by decide) ?_
    exact J56 r_13 _ _ _ _  hZ (lv_sub hl [] rfl) h1
  exact J14  _ _ _ _  hZ (lv_sub hl [0] rfl) h1
noncomputable def FX8_line_b38  (σ : zS) : Option (Int32 × zS) := some ((-1), σ)
noncomputable def FX8_line_b30 (x1 : Int32) (σ : zS) : Option (Int32 × zS) := some (x1, σ)
noncomputable def FX8_line_L7 (k0 : Nat) (x1 : Int32) (σ : zS) : Option ((Int32 × zS) ⊕ (Int32 × zS)) := if 10 ≤ x1 then zinr (FX8_line_b38  σ) else zbd (FX8_signed k0 x1 0 σ) (fun r_2 σ_1 => zbd (FX8_signed k0 x1 1 σ_1) (fun r_4 σ_3 => if (2 * r_2) ≤ r_4 then zlet (x1 + 1) (fun x1_5 => some (.inl (x1_5, σ_3))) else zinr (FX8_line_b30 x1 σ_3)))
noncomputable def FX8_line (k0 : Nat) (σ : zS) : Option (Int32 × zS) := zlet (zup σ k0 2 0) (fun σ_6 => zlet 0 (fun x1_7 => zlp (fun q => FX8_line_L7 k0 q.1 q.2) (x1_7, σ_6)))
set_option maxHeartbeats 4000000 in
set_option maxRecDepth 100000 in
theorem kX8_line (l : Launch) {V : zV} {σ : zS} {t0 : Int32 × zS} {k0 : Nat} (hk0 : kd 1 k0 = 8) (h1 : FX8_line k0 σ = some t0) : zMi l yX8_line cX8_line 2 (some .int) 1 24 1 V σ t0 [.ref (zad V k0)] := by
  refine zMi_of (by decide) (Nat.le_of_ble_eq_true rfl) ?_
  intro p e s m below meth c A C0 hr hlk hZ ls hl
  generalize ([.ref (zad V k0)] : List Value).toArray = args at C0 ⊢
  obtain ⟨Q, hQ⟩ : ∃ Q, Q = MQ below (zQi 1 V t0 A) args s 0 0 A := ⟨_, rfl⟩
  rw [← hQ]
  have hx := C0.1
  have hb := C0.2.1
  have hl : lv_has ls 2 [(0, .ref (zad V k0))] := hl
  unfold FX8_line at h1
  have J38 : ∀  (σ : zS) (H : Heap) (locs : List Loc) (ls : Array Slot), zZ 1 V A σ s H locs → lv_has ls 2 [] → FX8_line_b38  σ = some t0 → W p l e (zrm 1 24) s m args below meth c H locs 0 0 Q (F0 m 38 ls []) := by
    intro  σ H locs ls  hZ hl h1
    unfold FX8_line_b38 at h1
    refine lv_iconst (v := (-1)) hx hb dX8_line_38 (by decide) ?_
    rw [hQ]; exact z_iret C0 hr hlk hZ h1 dX8_line_39
  have J30 : ∀ (x1 : Int32) (σ : zS) (H : Heap) (locs : List Loc) (ls : Array Slot), zZ 1 V A σ s H locs → lv_has ls 2 [(1, .int x1)] → FX8_line_b30 x1 σ = some t0 → W p l e (zrm 1 24) s m args below meth c H locs 0 0 Q (F0 m 30 ls []) := by
    intro x1 σ H locs ls  hZ hl h1
    unfold FX8_line_b30 at h1
    refine lv_iload_n hx hb dX8_line_30 rfl (lv_at hl 0 rfl) ?_
    rw [hQ]; exact z_iret C0 hr hlk hZ h1 dX8_line_31
  have J7 : ∀ (n : Nat) (x1 : Int32) (σ : zS) (H : Heap) (locs : List Loc) (ls : Array Slot), zZ 1 V A σ s H locs → lv_has ls 2 [(0, .ref (zad V k0)), (1, .int x1)] → zit (fun q => FX8_line_L7 k0 q.1 q.2) n (x1, σ) = some t0 → W p l e (zrm 1 24) s m args below meth c H locs 0 0 Q (F0 m 7 ls []) := by
    intro n
    induction n with
    | zero => intro x1 σ H locs ls  _ _ h1; cases h1
    | succ n ih7 =>
      intro x1 σ H locs ls  hZ hl h1
      obtain ⟨t1, h1, hz1⟩ := zit_1 h1
      replace h1 : FX8_line_L7 k0 x1 σ = some t1 := h1
      unfold FX8_line_L7 at h1
      refine lv_iload_n hx hb dX8_line_7 rfl (lv_at hl 1 rfl) ?_
      refine lv_bipush (v := 10) hx hb dX8_line_8 (by decide) ?_
      refine z_ic_ge (tgt := 38) C0 h1 dX8_line_10 (by decide) (fun h1 => ?_) (fun h1 => ?_)
      · have h1 := zout h1 hz1
        exact J38  _ _ _ _  hZ (lv_sub hl [] rfl) h1
      refine lv_iconst (v := 2) hx hb dX8_line_13 (by decide) ?_
      refine lv_aload_n hx hb dX8_line_14 rfl (lv_at hl 0 rfl) ?_
      refine lv_iload_n hx hb dX8_line_15 rfl (lv_at hl 1 rfl) ?_
      refine lv_iconst (v := 0) hx hb dX8_line_16 (by decide) ?_
      refine z_cVi (As := [.int x1, .int 0]) (rest := [.int 2]) C0 hZ h1 (fun _ hf => kX8_signed l hk0 hf) mRX8_507 vX8_signed hk0 rfl rfl hl.1 (Nat.le_of_ble_eq_true rfl) ⟨Nat.le_of_ble_eq_true rfl, Nat.le_of_ble_eq_true rfl⟩ dX8_line_17 ⟨Nat.le_of_ble_eq_true rfl, Nat.le_of_ble_eq_true rfl⟩ (fun r_2 σ_1 H locs h1 hZ => ?_)
      refine lv_imul hx hb dX8_line_20 ?_
      refine lv_aload_n hx hb dX8_line_21 rfl (lv_at hl 0 rfl) ?_
      refine lv_iload_n hx hb dX8_line_22 rfl (lv_at hl 1 rfl) ?_
      refine lv_iconst (v := 1) hx hb dX8_line_23 (by decide) ?_
      refine z_cVi (As := [.int x1, .int 1]) (rest := [.int (2 * r_2)]) C0 hZ h1 (fun _ hf => kX8_signed l hk0 hf) mRX8_507 vX8_signed hk0 rfl rfl hl.1 (Nat.le_of_ble_eq_true rfl) ⟨Nat.le_of_ble_eq_true rfl, Nat.le_of_ble_eq_true rfl⟩ dX8_line_24 ⟨Nat.le_of_ble_eq_true rfl, Nat.le_of_ble_eq_true rfl⟩ (fun r_4 σ_3 H locs h1 hZ => ?_)
      refine z_ic_le (tgt := 32) C0 h1 dX8_line_27 (by decide) (fun h1 => ?_) (fun h1 => ?_)
      · refine z_iinc (v := 1) C0 h1 hl (fun x1_5 => [(1, .int x1_5), (0, .ref (zad V k0))]) dX8_line_32 (k := 1) rfl (by decide) (by decide) (fun _ => rfl) (fun x1_5 ls h1 hl => ?_)
        refine lv_goto (tgt := 7) hx hb dX8_line_35 (by decide) ?_
        exact ih7 x1_5 _ _ _ _  hZ (lv_sub hl [1, 0] rfl) (zback h1 hz1)
      have h1 := zout h1 hz1
      exact J30 x1 _ _ _ _  hZ (lv_sub hl [1] rfl) h1
  refine lv_aload_n hx hb dX8_line_0 rfl (lv_at hl 0 rfl) ?_
  refine lv_iconst (v := 0) hx hb dX8_line_1 (by decide) ?_
  refine z_puti C0 hZ h1 hk0 fRX8_159 rfl tyX8_ok nmX8 rfl rfl rfl dX8_line_2 (fun σ_6 H locs h1 hZ => ?_)
  refine lv_iconst (v := 0) hx hb dX8_line_5 (by decide) ?_
  refine z_istore_n C0 h1 hl (fun x1_7 => [(1, .int x1_7), (0, .ref (zad V k0))]) dX8_line_6 rfl (by decide) (fun _ => rfl) (fun x1_7 ls h1 hl => ?_)
  obtain ⟨n, h1⟩ := zlp_iff.mp h1
  exact J7 n x1_7 _ _ _ _  hZ (lv_sub hl [1, 0] rfl) h1
noncomputable def FX8_gate_b16 (k0 : Nat) (σ : zS) : Option (Int32 × zS) := zbd (FX8_fail k0 1 σ) (fun r_2 σ_1 => some (r_2, σ_1))
noncomputable def FX8_gate_b70 (k0 : Nat) (σ : zS) : Option (Int32 × zS) := zbd (FX8_fail k0 2 σ) (fun r_4 σ_3 => some (r_4, σ_3))
noncomputable def FX8_gate (k0 : Nat) (x1 : Int32) (x2 : Int32) (x3 : Int32) (x4 : Int32) (x5 : Int32) (σ : zS) : Option (Int32 × zS) := zlet (zup σ k0 2 0) (fun σ_5 => if x5 < 0 then FX8_gate_b16 k0 σ_5 else if x5 ≤ 1 then zbd (FX8_isIn (Int32.toInt64 x2) 1 99 σ_5) (fun r_7 σ_6 => if r_7 = 0 then FX8_gate_b70 k0 σ_6 else zbd (FX8_isIn (Int32.toInt64 x1) 0 (Int32.toInt64 x2) σ_6) (fun r_9 σ_8 => if r_9 = 0 then FX8_gate_b70 k0 σ_8 else zbd (FX8_isIn (Int32.toInt64 x3) 0 10 σ_8) (fun r_11 σ_10 => if r_11 = 0 then FX8_gate_b70 k0 σ_10 else zbd (FX8_isIn (Int32.toInt64 x4) 0 10 σ_10) (fun r_13 σ_12 => if r_13 = 0 then FX8_gate_b70 k0 σ_12 else zbd (FX8_part (x1 * x3) ((x1 * x3) + ((x2 - x1) * x4)) x5 σ_12) (fun r_15 σ_14 => some (r_15, σ_14)))))) else FX8_gate_b16 k0 σ_5)
set_option maxHeartbeats 4000000 in
set_option maxRecDepth 100000 in
theorem kX8_gate (l : Launch) {V : zV} {σ : zS} {t0 : Int32 × zS} {k0 : Nat} {x1 : Int32} {x2 : Int32} {x3 : Int32} {x4 : Int32} {x5 : Int32} (hk0 : kd 1 k0 = 8) (h1 : FX8_gate k0 x1 x2 x3 x4 x5 σ = some t0) : zMi l yX8_gate cX8_gate 6 (some .int) 2 47 1 V σ t0 [.ref (zad V k0), .int x1, .int x2, .int x3, .int x4, .int x5] := by
  refine zMi_of (by decide) (Nat.le_of_ble_eq_true rfl) ?_
  intro p e s m below meth c A C0 hr hlk hZ ls hl
  generalize ([.ref (zad V k0), .int x1, .int x2, .int x3, .int x4, .int x5] : List Value).toArray = args at C0 ⊢
  obtain ⟨Q, hQ⟩ : ∃ Q, Q = MQ below (zQi 1 V t0 A) args s 0 0 A := ⟨_, rfl⟩
  rw [← hQ]
  have hx := C0.1
  have hb := C0.2.1
  have hl : lv_has ls 6 [(0, .ref (zad V k0)), (1, .int x1), (2, .int x2), (3, .int x3), (4, .int x4), (5, .int x5)] := hl
  unfold FX8_gate at h1
  have J16 : ∀  (σ : zS) (H : Heap) (locs : List Loc) (ls : Array Slot), zZ 1 V A σ s H locs → lv_has ls 6 [(0, .ref (zad V k0))] → FX8_gate_b16 k0 σ = some t0 → W p l e (zrm 2 47) s m args below meth c H locs 0 0 Q (F0 m 16 ls []) := by
    intro  σ H locs ls  hZ hl h1
    unfold FX8_gate_b16 at h1
    refine lv_aload_n hx hb dX8_gate_16 rfl (lv_at hl 0 rfl) ?_
    refine lv_iconst (v := 1) hx hb dX8_gate_17 (by decide) ?_
    refine z_cVi (As := [.int 1]) (rest := []) C0 hZ h1 (fun _ hf => kX8_fail l hk0 hf) mRX8_310 vX8_fail hk0 rfl rfl hl.1 (Nat.le_of_ble_eq_true rfl) ⟨Nat.le_of_ble_eq_true rfl, Nat.le_of_ble_eq_true rfl⟩ dX8_gate_18 ⟨Nat.le_of_ble_eq_true rfl, Nat.le_of_ble_eq_true rfl⟩ (fun r_2 σ_1 H locs h1 hZ => ?_)
    rw [hQ]; exact z_iret C0 hr hlk hZ h1 dX8_gate_21
  have J70 : ∀  (σ : zS) (H : Heap) (locs : List Loc) (ls : Array Slot), zZ 1 V A σ s H locs → lv_has ls 6 [(0, .ref (zad V k0))] → FX8_gate_b70 k0 σ = some t0 → W p l e (zrm 2 47) s m args below meth c H locs 0 0 Q (F0 m 70 ls []) := by
    intro  σ H locs ls  hZ hl h1
    unfold FX8_gate_b70 at h1
    refine lv_aload_n hx hb dX8_gate_70 rfl (lv_at hl 0 rfl) ?_
    refine lv_iconst (v := 2) hx hb dX8_gate_71 (by decide) ?_
    refine z_cVi (As := [.int 2]) (rest := []) C0 hZ h1 (fun _ hf => kX8_fail l hk0 hf) mRX8_310 vX8_fail hk0 rfl rfl hl.1 (Nat.le_of_ble_eq_true rfl) ⟨Nat.le_of_ble_eq_true rfl, Nat.le_of_ble_eq_true rfl⟩ dX8_gate_72 ⟨Nat.le_of_ble_eq_true rfl, Nat.le_of_ble_eq_true rfl⟩ (fun r_4 σ_3 H locs h1 hZ => ?_)
    rw [hQ]; exact z_iret C0 hr hlk hZ h1 dX8_gate_75
  refine lv_aload_n hx hb dX8_gate_0 rfl (lv_at hl 0 rfl) ?_
  refine lv_iconst (v := 0) hx hb dX8_gate_1 (by decide) ?_
  refine z_puti C0 hZ h1 hk0 fRX8_159 rfl tyX8_ok nmX8 rfl rfl rfl dX8_gate_2 (fun σ_5 H locs h1 hZ => ?_)
  refine lv_iload hx hb dX8_gate_5 (lv_at hl 5 rfl) ?_
  refine z_if_lt (tgt := 16) C0 h1 dX8_gate_7 (by decide) (fun h1 => ?_) (fun h1 => ?_)
  · exact J16  _ _ _ _  hZ (lv_sub hl [0] rfl) h1
  refine lv_iload hx hb dX8_gate_10 (lv_at hl 5 rfl) ?_
  refine lv_iconst (v := 1) hx hb dX8_gate_12 (by decide) ?_
  refine z_ic_le (tgt := 22) C0 h1 dX8_gate_13 (by decide) (fun h1 => ?_) (fun h1 => ?_)
  · refine lv_iload_n hx hb dX8_gate_22 rfl (lv_at hl 2 rfl) ?_
    refine lv_i2l (v := (Int32.toInt64 x2)) hx hb dX8_gate_23 rfl ?_
    refine lv_lconst (v := 1) hx hb dX8_gate_24 (by decide) ?_
    refine lv_ldc2 (v := 99) hx hb C0.2.2.2.1 (C0.2.2.2.2 _ (zmem 1869 (by decide +kernel) (by decide +kernel))) dX8_gate_25 ?_
    refine z_cSi (As := [.long (Int32.toInt64 x2), .long 1, .long 99]) (rest := []) C0 hZ h1 (fun _ hf => kX8_isIn l  hf) mRX8_162 sX8_isIn rfl rfl hl.1 (Nat.le_of_ble_eq_true rfl) ⟨Nat.le_of_ble_eq_true rfl, Nat.le_of_ble_eq_true rfl⟩ dX8_gate_28 ⟨Nat.le_of_ble_eq_true rfl, Nat.le_of_ble_eq_true rfl⟩ (fun r_7 σ_6 H locs h1 hZ => ?_)
    refine z_if_eq (tgt := 70) C0 h1 dX8_gate_31 (by decide) (fun h1 => ?_) (fun h1 => ?_)
    · exact J70  _ _ _ _  hZ (lv_sub hl [0] rfl) h1
    refine lv_iload_n hx hb dX8_gate_34 rfl (lv_at hl 1 rfl) ?_
    refine lv_i2l (v := (Int32.toInt64 x1)) hx hb dX8_gate_35 rfl ?_
    refine lv_lconst (v := 0) hx hb dX8_gate_36 (by decide) ?_
    refine lv_iload_n hx hb dX8_gate_37 rfl (lv_at hl 2 rfl) ?_
    refine lv_i2l (v := (Int32.toInt64 x2)) hx hb dX8_gate_38 rfl ?_
    refine z_cSi (As := [.long (Int32.toInt64 x1), .long 0, .long (Int32.toInt64 x2)]) (rest := []) C0 hZ h1 (fun _ hf => kX8_isIn l  hf) mRX8_162 sX8_isIn rfl rfl hl.1 (Nat.le_of_ble_eq_true rfl) ⟨Nat.le_of_ble_eq_true rfl, Nat.le_of_ble_eq_true rfl⟩ dX8_gate_39 ⟨Nat.le_of_ble_eq_true rfl, Nat.le_of_ble_eq_true rfl⟩ (fun r_9 σ_8 H locs h1 hZ => ?_)
    refine z_if_eq (tgt := 70) C0 h1 dX8_gate_42 (by decide) (fun h1 => ?_) (fun h1 => ?_)
    · exact J70  _ _ _ _  hZ (lv_sub hl [0] rfl) h1
    refine lv_iload_n hx hb dX8_gate_45 rfl (lv_at hl 3 rfl) ?_
    refine lv_i2l (v := (Int32.toInt64 x3)) hx hb dX8_gate_46 rfl ?_
    refine lv_lconst (v := 0) hx hb dX8_gate_47 (by decide) ?_
    refine lv_ldc2 (v := 10) hx hb C0.2.2.2.1 (C0.2.2.2.2 _ (zmem 2029 (by decide +kernel) (by decide +kernel))) dX8_gate_48 ?_
    refine z_cSi (As := [.long (Int32.toInt64 x3), .long 0, .long 10]) (rest := []) C0 hZ h1 (fun _ hf => kX8_isIn l  hf) mRX8_162 sX8_isIn rfl rfl hl.1 (Nat.le_of_ble_eq_true rfl) ⟨Nat.le_of_ble_eq_true rfl, Nat.le_of_ble_eq_true rfl⟩ dX8_gate_51 ⟨Nat.le_of_ble_eq_true rfl, Nat.le_of_ble_eq_true rfl⟩ (fun r_11 σ_10 H locs h1 hZ => ?_)
    refine z_if_eq (tgt := 70) C0 h1 dX8_gate_54 (by decide) (fun h1 => ?_) (fun h1 => ?_)
    · exact J70  _ _ _ _  hZ (lv_sub hl [0] rfl) h1
    refine lv_iload hx hb dX8_gate_57 (lv_at hl 4 rfl) ?_
    refine lv_i2l (v := (Int32.toInt64 x4)) hx hb dX8_gate_59 rfl ?_
    refine lv_lconst (v := 0) hx hb dX8_gate_60 (by decide) ?_
    refine lv_ldc2 (v := 10) hx hb C0.2.2.2.1 (C0.2.2.2.2 _ (zmem 2029 (by decide +kernel) (by decide +kernel))) dX8_gate_61 ?_
    refine z_cSi (As := [.long (Int32.toInt64 x4), .long 0, .long 10]) (rest := []) C0 hZ h1 (fun _ hf => kX8_isIn l  hf) mRX8_162 sX8_isIn rfl rfl hl.1 (Nat.le_of_ble_eq_true rfl) ⟨Nat.le_of_ble_eq_true rfl, Nat.le_of_ble_eq_true rfl⟩ dX8_gate_64 ⟨Nat.le_of_ble_eq_true rfl, Nat.le_of_ble_eq_true rfl⟩ (fun r_13 σ_12 H locs h1 hZ => ?_)
    refine z_if_ne (tgt := 76) C0 h1 dX8_gate_67 (by decide) (fun h1 => ?_) (fun h1 => ?_)
    · refine lv_iload_n hx hb dX8_gate_76 rfl (lv_at hl 1 rfl) ?_
      refine lv_iload_n hx hb dX8_gate_77 rfl (lv_at hl 3 rfl) ?_
      refine lv_imul hx hb dX8_gate_78 ?_
      refine lv_iload_n hx hb dX8_gate_79 rfl (lv_at hl 1 rfl) ?_
      refine lv_iload_n hx hb dX8_gate_80 rfl (lv_at hl 3 rfl) ?_
      refine lv_imul hx hb dX8_gate_81 ?_
      refine lv_iload_n hx hb dX8_gate_82 rfl (lv_at hl 2 rfl) ?_
      refine lv_iload_n hx hb dX8_gate_83 rfl (lv_at hl 1 rfl) ?_
      refine lv_isub hx hb dX8_gate_84 ?_
      refine lv_iload hx hb dX8_gate_85 (lv_at hl 4 rfl) ?_
      refine lv_imul hx hb dX8_gate_87 ?_
      refine lv_iadd hx hb dX8_gate_88 ?_
      refine lv_iload hx hb dX8_gate_89 (lv_at hl 5 rfl) ?_
      refine z_cSi (As := [.int (x1 * x3), .int ((x1 * x3) + ((x2 - x1) * x4)), .int x5]) (rest := []) C0 hZ h1 (fun _ hf => kX8_part l  hf) mRX8_511 sX8_part rfl rfl hl.1 (Nat.le_of_ble_eq_true rfl) ⟨Nat.le_of_ble_eq_true rfl, Nat.le_of_ble_eq_true rfl⟩ dX8_gate_91 ⟨Nat.le_of_ble_eq_true rfl, Nat.le_of_ble_eq_true rfl⟩ (fun r_15 σ_14 H locs h1 hZ => ?_)
      rw [hQ]; exact z_iret C0 hr hlk hZ h1 dX8_gate_94
    exact J70  _ _ _ _  hZ (lv_sub hl [0] rfl) h1
  exact J16  _ _ _ _  hZ (lv_sub hl [0] rfl) h1
