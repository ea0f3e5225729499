noncomputable def FX8_undo (k0 : Nat) (σ : zS) : Option (Int32 × zS) := zlet (zup σ k0 2 0) (fun σ_1 => if (σ_1 k0 35) = 0 then some ((-1), σ_1) else zlet (zup σ_1 k0 35 ((σ_1 k0 35) - 1)) (fun σ_2 => zbd (FX8_unpack k0 (k0 + 19) (26 * (σ_2 k0 35)) σ_2) (fun _ σ_3 => some ((σ_3 k0 35), σ_3))))
set_option maxHeartbeats 4000000 in
set_option maxRecDepth 100000 in
theorem kX8_undo (l : Launch) {V : zV} {σ : zS} {t0 : Int32 × zS} {k0 : Nat} (hk0 : kd 1 k0 = 8) (h1 : FX8_undo k0 σ = some t0) : zMi l yX8_undo cX8_undo 1 (some .int) 1 23 1 V σ t0 [.ref (zad V k0)] := by
  refine zMi_of (by decide) (Nat.le_of_ble_eq_true rfl) ?_
  intro p e s m below meth c A C0 hr hlk hZ ls hl
  generalize ([.ref (zad V k0)] : List Value).toArray = args at C0 ⊢
  obtain ⟨Q, hQ⟩ : ∃ Q, Q = MQ below (zQi 1 V t0 A) args s 0 0 A := ⟨_, rfl⟩
  rw [← hQ]
  have hx := C0.1
  have hb := C0.2.1
  have hl : lv_has ls 1 [(0, .ref (zad V k0))] := hl
  unfold FX8_undo at h1
  refine lv_aload_n hx hb dX8_undo_0 rfl (lv_at hl 0 rfl) ?_
  refine lv_iconst (v := 0) hx hb dX8_undo_1 (by decide) ?_
  refine z_puti C0 hZ h1 hk0 fRX8_159 rfl tyX8_ok nmX8 rfl rfl rfl dX8_undo_2 (fun σ_1 H locs h1 hZ => ?_)
  refine lv_aload_n hx hb dX8_undo_5 rfl (lv_at hl 0 rfl) ?_
  refine z_geti C0 hZ hk0 fRX8_338 rfl dX8_undo_6 ?_
  refine z_if_ne (tgt := 14) C0 h1 dX8_undo_9 (by decide) (fun h1 => ?_) (fun h1 => ?_)
  · refine lv_aload_n hx hb dX8_undo_14 rfl (lv_at hl 0 rfl) ?_
    refine lv_dup hx hb dX8_undo_15 rfl ?_
    refine z_geti C0 hZ hk0 fRX8_338 rfl dX8_undo_16 ?_
    refine lv_iconst (v := 1) hx hb dX8_undo_19 (by decide) ?_
    refine lv_isub hx hb dX8_undo_20 ?_
    refine z_puti C0 hZ h1 hk0 fRX8_338 rfl tyX8_ok nmX8 rfl rfl rfl dX8_undo_21 (fun σ_2 H locs h1 hZ => ?_)
    refine lv_aload_n hx hb dX8_undo_24 rfl (lv_at hl 0 rfl) ?_
    refine lv_aload_n hx hb dX8_undo_25 rfl (lv_at hl 0 rfl) ?_
    refine z_getr C0 hZ hk0 fRX8_93 rfl dX8_undo_26 ?_
    refine lv_bipush (v := 26) hx hb dX8_undo_29 (by decide) ?_
    refine lv_aload_n hx hb dX8_undo_31 rfl (lv_at hl 0 rfl) ?_
    refine z_geti C0 hZ hk0 fRX8_338 rfl dX8_undo_32 ?_
    refine lv_imul hx hb dX8_undo_35 ?_
    refine z_cVv (As := [.ref (zad V (k0 + 19)), .int (26 * (σ_2 k0 35))]) (rest := []) C0 hZ h1 (fun _ hf => kX8_unpack l hk0 (zkt8_38 hk0) hf) mRX8_475 vX8_unpack hk0 rfl rfl hl.1 (Nat.le_of_ble_eq_true rfl) ⟨Nat.le_of_ble_eq_true rfl, Nat.le_of_ble_eq_true rfl⟩ dX8_undo_36 ⟨Nat.le_of_ble_eq_true rfl, Nat.le_of_ble_eq_true rfl⟩ (fun _ σ_3 H locs h1 hZ => ?_)
    refine lv_aload_n hx hb dX8_undo_39 rfl (lv_at hl 0 rfl) ?_
    refine z_geti C0 hZ hk0 fRX8_338 rfl dX8_undo_40 ?_
    rw [hQ]; exact z_iret C0 hr hlk hZ h1 dX8_undo_43
  refine lv_iconst (v := (-1)) hx hb dX8_undo_12 (by decide) ?_
  rw [hQ]; exact z_iret C0 hr hlk hZ h1 dX8_undo_13
noncomputable def FX8_day (k0 : Nat) (x1 : Int32) (σ : zS) : Option (Int32 × zS) := zlet (zup σ k0 2 0) (fun σ_1 => zbd (FX8_isIn (Int32.toInt64 x1) 0 7 σ_1) (fun r_3 σ_2 => if r_3 = 0 then zbd (FX8_fail k0 1 σ_2) (fun r_12 σ_11 => some (r_12, σ_11)) else zbd (FX8_set k0 σ_2) (fun _ σ_4 => zbd (FX8_costNow k0 σ_4) (fun r_7 σ_6 => zlet r_7 (fun x2_8 => if x1 = 0 then some (x2_8, σ_6) else if x1 = 1 then some ((σ_6 k0 57), σ_6) else if x1 = 2 then zbd (FX8_bitsOf (σ_6 k0 55) σ_6) (fun r_10 σ_9 => some (r_10, σ_9)) else if x1 = 3 then some ((σ_6 k0 58), σ_6) else if x1 = 4 then some ((σ_6 k0 59), σ_6) else if x1 = 5 then some ((σ_6 k0 52), σ_6) else if x1 = 6 then some ((σ_6 k0 54), σ_6) else some ((σ_6 k0 55), σ_6))))))
set_option maxHeartbeats 4000000 in
set_option maxRecDepth 100000 in
theorem kX8_day (l : Launch) {V : zV} {σ : zS} {t0 : Int32 × zS} {k0 : Nat} {x1 : Int32} (hk0 : kd 1 k0 = 8) (h1 : FX8_day k0 x1 σ = some t0) : zMi l yX8_day cX8_day 3 (some .int) 7 159 1 V σ t0 [.ref (zad V k0), .int x1] := by
  refine zMi_of (by decide) (Nat.le_of_ble_eq_true rfl) ?_
  intro p e s m below meth c A C0 hr hlk hZ ls hl
  generalize ([.ref (zad V k0), .int x1] : List Value).toArray = args at C0 ⊢
  obtain ⟨Q, hQ⟩ : ∃ Q, Q = MQ below (zQi 1 V t0 A) args s 0 0 A := ⟨_, rfl⟩
  rw [← hQ]
  have hx := C0.1
  have hb := C0.2.1
  have hl : lv_has ls 3 [(0, .ref (zad V k0)), (1, .int x1)] := hl
  unfold FX8_day at h1
  refine lv_aload_n hx hb dX8_day_0 rfl (lv_at hl 0 rfl) ?_
  refine lv_iconst (v := 0) hx hb dX8_day_1 (by decide) ?_
  refine z_puti C0 hZ h1 hk0 fRX8_159 rfl tyX8_ok nmX8 rfl rfl rfl dX8_day_2 (fun σ_1 H locs h1 hZ => ?_)
  refine lv_iload_n hx hb dX8_day_5 rfl (lv_at hl 1 rfl) ?_
  refine lv_i2l (v := (Int32.toInt64 x1)) hx hb dX8_day_6 rfl ?_
  refine lv_lconst (v := 0) hx hb dX8_day_7 (by decide) ?_
  refine lv_ldc2 (v := 7) hx hb C0.2.2.2.1 (C0.2.2.2.2 _ (zmem 1950 (by decide +kernel) (by decide +kernel))) dX8_day_8 ?_
  refine z_cSi (As := [.long (Int32.toInt64 x1), .long 0, .long 7]) (rest := []) C0 hZ h1 (fun _ hf => kX8_isIn l  hf) mRX8_162 sX8_isIn rfl rfl hl.1 (Nat.le_of_ble_eq_true rfl) ⟨Nat.le_of_ble_eq_true rfl, Nat.le_of_ble_eq_true rfl⟩ dX8_day_11 ⟨Nat.le_of_ble_eq_true rfl, Nat.le_of_ble_eq_true rfl⟩ (fun r_3 σ_2 H locs h1 hZ => ?_)
  refine z_if_ne (tgt := 23) C0 h1 dX8_day_14 (by decide) (fun h1 => ?_) (fun h1 => ?_)
  · refine lv_aload_n hx hb dX8_day_23 rfl (lv_at hl 0 rfl) ?_
    refine z_cVv (As := []) (rest := []) C0 hZ h1 (fun _ hf => kX8_set l hk0 hf) mRX8_469 vX8_set hk0 rfl rfl hl.1 (Nat.le_of_ble_eq_true rfl) ⟨Nat.le_of_ble_eq_true rfl, Nat.le_of_ble_eq_true rfl⟩ dX8_day_24 ⟨Nat.le_of_ble_eq_true rfl, Nat.le_of_ble_eq_true rfl⟩ (fun _ σ_4 H locs h1 hZ => ?_)
    refine lv_aload_n hx hb dX8_day_27 rfl (lv_at hl 0 rfl) ?_
    refine z_cVi (As := []) (rest := []) C0 hZ h1 (fun _ hf => kX8_costNow l hk0 hf) mRX8_472 vX8_costNow hk0 rfl rfl hl.1 (Nat.le_of_ble_eq_true rfl) ⟨Nat.le_of_ble_eq_true rfl, Nat.le_of_ble_eq_true rfl⟩ dX8_day_28 ⟨Nat.le_of_ble_eq_true rfl, Nat.le_of_ble_eq_true rfl⟩ (fun r_7 σ_6 H locs h1 hZ => ?_)
    refine z_istore_n C0 h1 hl (fun x2_8 => [(2, .int x2_8), (0, .ref (zad V k0)), (1, .int x1)]) dX8_day_31 rfl (by decide) (fun _ => rfl) (fun x2_8 ls h1 hl => ?_)
    refine lv_iload_n hx hb dX8_day_32 rfl (lv_at hl 2 rfl) ?_
    refine z_case h1 (fun hv h1 => ?_) (fun e33_0 h1 => ?_)
    · refine lv_tableIn (tgt := 76) hx hb dX8_day_33 (by rw [hv]; decide) (by rw [hv]; decide) (by rw [hv]; rfl) (by decide) ?_
      refine lv_iload_n hx hb dX8_day_76 rfl (lv_at hl 0 rfl) ?_
      rw [hQ]; exact z_iret C0 hr hlk hZ h1 dX8_day_77
    refine z_case h1 (fun hv h1 => ?_) (fun e33_1 h1 => ?_)
    · refine lv_tableIn (tgt := 78) hx hb dX8_day_33 (by rw [hv]; decide) (by rw [hv]; decide) (by rw [hv]; rfl) (by decide) ?_
      refine lv_aload_n hx hb dX8_day_78 rfl (lv_at hl 1 rfl) ?_
      refine z_geti C0 hZ hk0 fRX8_401 rfl dX8_day_79 ?_
      rw [hQ]; exact z_iret C0 hr hlk hZ h1 dX8_day_82
    refine z_case h1 (fun hv h1 => ?_) (fun e33_2 h1 => ?_)
    · refine lv_tableIn (tgt := 83) hx hb dX8_day_33 (by rw [hv]; decide) (by rw [hv]; decide) (by rw [hv]; rfl) (by decide) ?_
      refine lv_aload_n hx hb dX8_day_83 rfl (lv_at hl 1 rfl) ?_
      refine z_geti C0 hZ hk0 fRX8_395 rfl dX8_day_84 ?_
      refine z_cSi (As := [.int (σ_6 k0 55)]) (rest := []) C0 hZ h1 (fun _ hf => kX8_bitsOf l  hf) mRX8_480 sX8_bitsOf rfl rfl hl.1 (Nat.le_of_ble_eq_true rfl) ⟨Nat.le_of_ble_eq_true rfl, Nat.le_of_ble_eq_true rfl⟩ dX8_day_87 ⟨Nat.le_of_ble_eq_true rfl, Nat.le_of_ble_eq_true rfl⟩ (fun r_10 σ_9 H locs h1 hZ => ?_)
      rw [hQ]; exact z_iret C0 hr hlk hZ h1 dX8_day_90
    refine z_case h1 (fun hv h1 => ?_) (fun e33_3 h1 => ?_)
    · refine lv_tableIn (tgt := 91) hx hb dX8_day_33 (by rw [hv]; decide) (by rw [hv]; decide) (by rw [hv]; rfl) (by decide) ?_
      refine lv_aload_n hx hb dX8_day_91 rfl (lv_at hl 1 rfl) ?_
      refine z_geti C0 hZ hk0 fRX8_392 rfl dX8_day_92 ?_
      rw [hQ]; exact z_iret C0 hr hlk hZ h1 dX8_day_95
    refine z_case h1 (fun hv h1 => ?_) (fun e33_4 h1 => ?_)
    · refine lv_tableIn (tgt := 96) hx hb dX8_day_33 (by rw [hv]; decide) (by rw [hv]; decide) (by rw [hv]; rfl) (by decide) ?_
      refine lv_aload_n hx hb dX8_day_96 rfl (lv_at hl 1 rfl) ?_
      refine z_geti C0 hZ hk0 fRX8_389 rfl dX8_day_97 ?_
      rw [hQ]; exact z_iret C0 hr hlk hZ h1 dX8_day_100
    refine z_case h1 (fun hv h1 => ?_) (fun e33_5 h1 => ?_)
    · refine lv_tableIn (tgt := 101) hx hb dX8_day_33 (by rw [hv]; decide) (by rw [hv]; decide) (by rw [hv]; rfl) (by decide) ?_
      refine lv_aload_n hx hb dX8_day_101 rfl (lv_at hl 1 rfl) ?_
      refine z_geti C0 hZ hk0 fRX8_381 rfl dX8_day_102 ?_
      rw [hQ]; exact z_iret C0 hr hlk hZ h1 dX8_day_105
    refine z_case h1 (fun hv h1 => ?_) (fun e33_6 h1 => ?_)
    · refine lv_tableIn (tgt := 106) hx hb dX8_day_33 (by rw [hv]; decide) (by rw [hv]; decide) (by rw [hv]; rfl) (by decide) ?_
      refine lv_aload_n hx hb dX8_day_106 rfl (lv_at hl 1 rfl) ?_
      refine z_geti C0 hZ hk0 fRX8_428 rfl dX8_day_107 ?_
      rw [hQ]; exact z_iret C0 hr hlk hZ h1 dX8_day_110
    refine lv_tableOut (tgt := 111) hx hb dX8_day_33 (z_tout [0, 1, 2, 3, 4, 5, 6] (by decide) (by decide) (List.forall_mem_cons.mpr ⟨e33_0, List.forall_mem_cons.mpr ⟨e33_1, List.forall_mem_cons.mpr ⟨e33_2, List.forall_mem_cons.mpr ⟨e33_3, List.forall_mem_cons.mpr ⟨e33_4, List.forall_mem_cons.mpr ⟨e33_5, List.forall_mem_cons.mpr ⟨e33_6, fun _ h => absurd h List.not_mem_nil⟩⟩⟩⟩⟩⟩⟩)) (by decide) ?_
    refine lv_aload_n hx hb dX8_day_111 rfl (lv_at hl 1 rfl) ?_
    refine z_geti C0 hZ hk0 fRX8_395 rfl dX8_day_112 ?_
    rw [hQ]; exact z_iret C0 hr hlk hZ h1 dX8_day_115
  refine lv_aload_n hx hb dX8_day_17 rfl (lv_at hl 0 rfl) ?_
  refine lv_iconst (v := 1) hx hb dX8_day_18 (by decide) ?_
  refine z_cVi (As := [.int 1]) (rest := []) C0 hZ h1 (fun _ hf => kX8_fail l hk0 hf) mRX8_310 vX8_fail hk0 rfl rfl hl.1 (Nat.le_of_ble_eq_true rfl) ⟨Nat.le_of_ble_eq_true rfl, Nat.le_of_ble_eq_true rfl⟩ dX8_day_19 ⟨Nat.le_of_ble_eq_true rfl, Nat.le_of_ble_eq_true rfl⟩ (fun r_12 σ_11 H locs h1 hZ => ?_)
  rw [hQ]; exact z_iret C0 hr hlk hZ h1 dX8_day_22
noncomputable def FX8_where_b20 (k0 : Nat) (σ : zS) : Option (Int32 × zS) := zbd (FX8_fail k0 1 σ) (fun r_2 σ_1 => some (r_2, σ_1))
noncomputable def FX8_where_b52 (y0 : Int32) (σ : zS) : Option (Int32 × zS) := some (y0, σ)
noncomputable def FX8_where (k0 : Nat) (x1 : Int32) (x2 : Int32) (σ : zS) : Option (Int32 × zS) := zlet (zup σ k0 2 0) (fun σ_3 => zbd (FX8_isPerson k0 x1 σ_3) (fun r_5 σ_4 => if r_5 = 0 then FX8_where_b20 k0 σ_4 else zbd (FX8_isMinute x2 σ_4) (fun r_7 σ_6 => if r_7 = 0 then FX8_where_b20 k0 σ_6 else zbd (FX8_set k0 σ_6) (fun _ σ_8 => zbd (FX8_go k0 x2 σ_8) (fun _ σ_10 => zbd (FX8_isInside k0 x1 σ_10) (fun r_13 σ_12 => if r_13 = 0 then FX8_where_b52 (-1) σ_12 else zbd (FX8_aisleOf k0 x1 σ_12) (fun r_15 σ_14 => FX8_where_b52 r_15 σ_14)))))))
set_option maxHeartbeats 4000000 in
set_option maxRecDepth 100000 in
theorem kX8_where (l : Launch) {V : zV} {σ : zS} {t0 : Int32 × zS} {k0 : Nat} {x1 : Int32} {x2 : Int32} (hk0 : kd 1 k0 = 8) (h1 : FX8_where k0 x1 x2 σ = some t0) : zMi l yX8_where cX8_where 3 (some .int) 5 118 1 V σ t0 [.ref (zad V k0), .int x1, .int x2] := by
  refine zMi_of (by decide) (Nat.le_of_ble_eq_true rfl) ?_
  intro p e s m below meth c A C0 hr hlk hZ ls hl
  generalize ([.ref (zad V k0), .int x1, .int x2] : List Value).toArray = args at C0 ⊢
  obtain ⟨Q, hQ⟩ : ∃ Q, Q = MQ below (zQi 1 V t0 A) args s 0 0 A := ⟨_, rfl⟩
  rw [← hQ]
  have hx := C0.1
  have hb := C0.2.1
  have hl : lv_has ls 3 [(0, .ref (zad V k0)), (1, .int x1), (2, .int x2)] := hl
  unfold FX8_where at h1
  have J20 : ∀  (σ : zS) (H : Heap) (locs : List Loc) (ls : Array Slot), zZ 1 V A σ s H locs → lv_has ls 3 [(0, .ref (zad V k0))] → FX8_where_b20 k0 σ = some t0 → W p l e (zrm 5 118) s m args below meth c H locs 0 0 Q (F0 m 20 ls []) := by
    intro  σ H locs ls  hZ hl h1
    unfold FX8_where_b20 at h1
    refine lv_aload_n hx hb dX8_where_20 rfl (lv_at hl 0 rfl) ?_
    refine lv_iconst (v := 1) hx hb dX8_where_21 (by decide) ?_
    refine z_cVi (As := [.int 1]) (rest := []) C0 hZ h1 (fun _ hf => kX8_fail l hk0 hf) mRX8_310 vX8_fail hk0 rfl rfl hl.1 (Nat.le_of_ble_eq_true rfl) ⟨Nat.le_of_ble_eq_true rfl, Nat.le_of_ble_eq_true rfl⟩ dX8_where_22 ⟨Nat.le_of_ble_eq_true rfl, Nat.le_of_ble_eq_true rfl⟩ (fun r_2 σ_1 H locs h1 hZ => ?_)
    rw [hQ]; exact z_iret C0 hr hlk hZ h1 dX8_where_25
  have J52 : ∀ (y0 : Int32) (σ : zS) (H : Heap) (locs : List Loc) (ls : Array Slot), zZ 1 V A σ s H locs → lv_has ls 3 [] → FX8_where_b52 y0 σ = some t0 → W p l e (zrm 5 118) s m args below meth c H locs 0 0 Q (F0 m 52 ls [.int y0]) := by
    intro y0 σ H locs ls  hZ hl h1
    unfold FX8_where_b52 at h1
    rw [hQ]; exact z_iret C0 hr hlk hZ h1 dX8_where_52
  refine lv_aload_n hx hb dX8_where_0 rfl (lv_at hl 0 rfl) ?_
  refine lv_iconst (v := 0) hx hb dX8_where_1 (by decide) ?_
  refine z_puti C0 hZ h1 hk0 fRX8_159 rfl tyX8_ok nmX8 rfl rfl rfl dX8_where_2 (fun σ_3 H locs h1 hZ => ?_)
  refine lv_aload_n hx hb dX8_where_5 rfl (lv_at hl 0 rfl) ?_
  refine lv_iload_n hx hb dX8_where_6 rfl (lv_at hl 1 rfl) ?_
  refine z_cVi (As := [.int x1]) (rest := []) C0 hZ h1 (fun _ hf => kX8_isPerson l hk0 hf) mRX8_448 vX8_isPerson hk0 rfl rfl hl.1 (Nat.le_of_ble_eq_true rfl) ⟨Nat.le_of_ble_eq_true rfl, Nat.le_of_ble_eq_true rfl⟩ dX8_where_7 ⟨Nat.le_of_ble_eq_true rfl, Nat.le_of_ble_eq_true rfl⟩ (fun r_5 σ_4 H locs h1 hZ => ?_)
  refine z_if_eq (tgt := 20) C0 h1 dX8_where_10 (by decide) (fun h1 => ?_) (fun h1 => ?_)
  · exact J20  _ _ _ _  hZ (lv_sub hl [0] rfl) h1
  refine lv_iload_n hx hb dX8_where_13 rfl (lv_at hl 2 rfl) ?_
  refine z_cSi (As := [.int x2]) (rest := []) C0 hZ h1 (fun _ hf => kX8_isMinute l  hf) mRX8_483 sX8_isMinute rfl rfl hl.1 (Nat.le_of_ble_eq_true rfl) ⟨Nat.le_of_ble_eq_true rfl, Nat.le_of_ble_eq_true rfl⟩ dX8_where_14 ⟨Nat.le_of_ble_eq_true rfl, Nat.le_of_ble_eq_true rfl⟩ (fun r_7 σ_6 H locs h1 hZ => ?_)
  refine z_if_ne (tgt := 26) C0 h1 dX8_where_17 (by decide) (fun h1 => ?_) (fun h1 => ?_)
  · refine lv_aload_n hx hb dX8_where_26 rfl (lv_at hl 0 rfl) ?_
    refine z_cVv (As := []) (rest := []) C0 hZ h1 (fun _ hf => kX8_set l hk0 hf) mRX8_469 vX8_set hk0 rfl rfl hl.1 (Nat.le_of_ble_eq_true rfl) ⟨Nat.le_of_ble_eq_true rfl, Nat.le_of_ble_eq_true rfl⟩ dX8_where_27 ⟨Nat.le_of_ble_eq_true rfl, Nat.le_of_ble_eq_true rfl⟩ (fun _ σ_8 H locs h1 hZ => ?_)
    refine lv_aload_n hx hb dX8_where_30 rfl (lv_at hl 0 rfl) ?_
    refine lv_iload_n hx hb dX8_where_31 rfl (lv_at hl 2 rfl) ?_
    refine z_cVv (As := [.int x2]) (rest := []) C0 hZ h1 (fun _ hf => kX8_go l hk0 hf) mRX8_440 vX8_go hk0 rfl rfl hl.1 (Nat.le_of_ble_eq_true rfl) ⟨Nat.le_of_ble_eq_true rfl, Nat.le_of_ble_eq_true rfl⟩ dX8_where_32 ⟨Nat.le_of_ble_eq_true rfl, Nat.le_of_ble_eq_true rfl⟩ (fun _ σ_10 H locs h1 hZ => ?_)
    refine lv_aload_n hx hb dX8_where_35 rfl (lv_at hl 0 rfl) ?_
    refine lv_iload_n hx hb dX8_where_36 rfl (lv_at hl 1 rfl) ?_
    refine z_cVi (As := [.int x1]) (rest := []) C0 hZ h1 (fun _ hf => kX8_isInside l hk0 hf) mRX8_404 vX8_isInside hk0 rfl rfl hl.1 (Nat.le_of_ble_eq_true rfl) ⟨Nat.le_of_ble_eq_true rfl, Nat.le_of_ble_eq_true rfl⟩ dX8_where_37 ⟨Nat.le_of_ble_eq_true rfl, Nat.le_of_ble_eq_true rfl⟩ (fun r_13 σ_12 H locs h1 hZ => ?_)
    refine z_if_eq (tgt := 51) C0 h1 dX8_where_40 (by decide) (fun h1 => ?_) (fun h1 => ?_)
    · refine lv_iconst (v := (-1)) hx hb dX8_where_51 (by decide) ?_
      exact J52 (-1) _ _ _ _  hZ (lv_sub hl [] rfl) h1
    refine lv_aload_n hx hb dX8_where_43 rfl (lv_at hl 0 rfl) ?_
    refine lv_iload_n hx hb dX8_where_44 rfl (lv_at hl 1 rfl) ?_
    refine z_cVi (As := [.int x1]) (rest := []) C0 hZ h1 (fun _ hf => kX8_aisleOf l hk0 hf) mRX8_407 vX8_aisleOf hk0 rfl rfl hl.1 (Nat.le_of_ble_eq_true rfl) ⟨Nat.le_of_ble_eq_true rfl, Nat.le_of_ble_eq_true rfl⟩ dX8_where_45 ⟨Nat.le_of_ble_eq_true rfl, Nat.le_of_ble_eq_true rfl⟩ (fun r_15 σ_14 H locs h1 hZ => ?_)
    refine lv_goto (tgt := 52) hx hb dX8_where_48 (by decide) ?_
    exact J52 r_15 _ _ _ _  hZ (lv_sub hl [] rfl) h1
  exact J20  _ _ _ _  hZ (lv_sub hl [0] rfl) h1
noncomputable def FX8_eyes (k0 : Nat) (x1 : Int32) (σ : zS) : Option (Int32 × zS) := zlet (zup σ k0 2 0) (fun σ_1 => zbd (FX8_isMinute x1 σ_1) (fun r_3 σ_2 => if r_3 = 0 then zbd (FX8_fail k0 1 σ_2) (fun r_9 σ_8 => some (r_9, σ_8)) else zbd (FX8_set k0 σ_2) (fun _ σ_4 => zbd (FX8_go k0 x1 σ_4) (fun _ σ_6 => some ((σ_6 k0 51), σ_6)))))
set_option maxHeartbeats 4000000 in
set_option maxRecDepth 100000 in
theorem kX8_eyes (l : Launch) {V : zV} {σ : zS} {t0 : Int32 × zS} {k0 : Nat} {x1 : Int32} (hk0 : kd 1 k0 = 8) (h1 : FX8_eyes k0 x1 σ = some t0) : zMi l yX8_eyes cX8_eyes 2 (some .int) 5 118 1 V σ t0 [.ref (zad V k0), .int x1] := by
  refine zMi_of (by decide) (Nat.le_of_ble_eq_true rfl) ?_
  intro p e s m below meth c A C0 hr hlk hZ ls hl
  generalize ([.ref (zad V k0), .int x1] : List Value).toArray = args at C0 ⊢
  obtain ⟨Q, hQ⟩ : ∃ Q, Q = MQ below (zQi 1 V t0 A) args s 0 0 A := ⟨_, rfl⟩
  rw [← hQ]
  have hx := C0.1
  have hb := C0.2.1
  have hl : lv_has ls 2 [(0, .ref (zad V k0)), (1, .int x1)] := hl
  unfold FX8_eyes at h1
  refine lv_aload_n hx hb dX8_eyes_0 rfl (lv_at hl 0 rfl) ?_
  refine lv_iconst (v := 0) hx hb dX8_eyes_1 (by decide) ?_
  refine z_puti C0 hZ h1 hk0 fRX8_159 rfl tyX8_ok nmX8 rfl rfl rfl dX8_eyes_2 (fun σ_1 H locs h1 hZ => ?_)
  refine lv_iload_n hx hb dX8_eyes_5 rfl (lv_at hl 1 rfl) ?_
  refine z_cSi (As := [.int x1]) (rest := []) C0 hZ h1 (fun _ hf => kX8_isMinute l  hf) mRX8_483 sX8_isMinute rfl rfl hl.1 (Nat.le_of_ble_eq_true rfl) ⟨Nat.le_of_ble_eq_true rfl, Nat.le_of_ble_eq_true rfl⟩ dX8_eyes_6 ⟨Nat.le_of_ble_eq_true rfl, Nat.le_of_ble_eq_true rfl⟩ (fun r_3 σ_2 H locs h1 hZ => ?_)
  refine z_if_ne (tgt := 18) C0 h1 dX8_eyes_9 (by decide) (fun h1 => ?_) (fun h1 => ?_)
  · refine lv_aload_n hx hb dX8_eyes_18 rfl (lv_at hl 0 rfl) ?_
    refine z_cVv (As := []) (rest := []) C0 hZ h1 (fun _ hf => kX8_set l hk0 hf) mRX8_469 vX8_set hk0 rfl rfl hl.1 (Nat.le_of_ble_eq_true rfl) ⟨Nat.le_of_ble_eq_true rfl, Nat.le_of_ble_eq_true rfl⟩ dX8_eyes_19 ⟨Nat.le_of_ble_eq_true rfl, Nat.le_of_ble_eq_true rfl⟩ (fun _ σ_4 H locs h1 hZ => ?_)
    refine lv_aload_n hx hb dX8_eyes_22 rfl (lv_at hl 0 rfl) ?_
    refine lv_iload_n hx hb dX8_eyes_23 rfl (lv_at hl 1 rfl) ?_
    refine z_cVv (As := [.int x1]) (rest := []) C0 hZ h1 (fun _ hf => kX8_go l hk0 hf) mRX8_440 vX8_go hk0 rfl rfl hl.1 (Nat.le_of_ble_eq_true rfl) ⟨Nat.le_of_ble_eq_true rfl, Nat.le_of_ble_eq_true rfl⟩ dX8_eyes_24 ⟨Nat.le_of_ble_eq_true rfl, Nat.le_of_ble_eq_true rfl⟩ (fun _ σ_6 H locs h1 hZ => ?_)
    refine lv_aload_n hx hb dX8_eyes_27 rfl (lv_at hl 0 rfl) ?_
    refine z_geti C0 hZ hk0 fRX8_378 rfl dX8_eyes_28 ?_
    rw [hQ]; exact z_iret C0 hr hlk hZ h1 dX8_eyes_31
  refine lv_aload_n hx hb dX8_eyes_12 rfl (lv_at hl 0 rfl) ?_
  refine lv_iconst (v := 1) hx hb dX8_eyes_13 (by decide) ?_
  refine z_cVi (As := [.int 1]) (rest := []) C0 hZ h1 (fun _ hf => kX8_fail l hk0 hf) mRX8_310 vX8_fail hk0 rfl rfl hl.1 (Nat.le_of_ble_eq_true rfl) ⟨Nat.le_of_ble_eq_true rfl, Nat.le_of_ble_eq_true rfl⟩ dX8_eyes_14 ⟨Nat.le_of_ble_eq_true rfl, Nat.le_of_ble_eq_true rfl⟩ (fun r_9 σ_8 H locs h1 hZ => ?_)
  rw [hQ]; exact z_iret C0 hr hlk hZ h1 dX8_eyes_17
noncomputable def FX8_has_b20 (k0 : Nat) (σ : zS) : Option (Int32 × zS) := zbd (FX8_fail k0 1 σ) (fun r_2 σ_1 => some (r_2, σ_1))
noncomputable def FX8_has (k0 : Nat) (x1 : Int32) (x2 : Int32) (σ : zS) : Option (Int32 × zS) := zlet (zup σ k0 2 0) (fun σ_3 => zbd (FX8_isPerson k0 x1 σ_3) (fun r_5 σ_4 => if r_5 = 0 then FX8_has_b20 k0 σ_4 else zbd (FX8_isMinute x2 σ_4) (fun r_7 σ_6 => if r_7 = 0 then FX8_has_b20 k0 σ_6 else zbd (FX8_set k0 σ_6) (fun _ σ_8 => zbd (FX8_go k0 x2 σ_8) (fun _ σ_10 => zin (ln 1 (k0 + 25)) x1 (some ((σ_10 (k0 + 25) (Int32.toNatClampNeg x1)), σ_10)))))))
set_option maxHeartbeats 4000000 in
set_option maxRecDepth 100000 in
theorem kX8_has (l : Launch) {V : zV} {σ : zS} {t0 : Int32 × zS} {k0 : Nat} {x1 : Int32} {x2 : Int32} (hk0 : kd 1 k0 = 8) (h1 : FX8_has k0 x1 x2 σ = some t0) : zMi l yX8_has cX8_has 3 (some .int) 5 118 1 V σ t0 [.ref (zad V k0), .int x1, .int x2] := by
  refine zMi_of (by decide) (Nat.le_of_ble_eq_true rfl) ?_
  intro p e s m below meth c A C0 hr hlk hZ ls hl
  generalize ([.ref (zad V k0), .int x1, .int x2] : List Value).toArray = args at C0 ⊢
  obtain ⟨Q, hQ⟩ : ∃ Q, Q = MQ below (zQi 1 V t0 A) args s 0 0 A := ⟨_, rfl⟩
  rw [← hQ]
  have hx := C0.1
  have hb := C0.2.1
  have hl : lv_has ls 3 [(0, .ref (zad V k0)), (1, .int x1), (2, .int x2)] := hl
  unfold FX8_has at h1
  have J20 : ∀  (σ : zS) (H : Heap) (locs : List Loc) (ls : Array Slot), zZ 1 V A σ s H locs → lv_has ls 3 [(0, .ref (zad V k0))] → FX8_has_b20 k0 σ = some t0 → W p l e (zrm 5 118) s m args below meth c H locs 0 0 Q (F0 m 20 ls []) := by
    intro  σ H locs ls  hZ hl h1
    unfold FX8_has_b20 at h1
    refine lv_aload_n hx hb dX8_has_20 rfl (lv_at hl 0 rfl) ?_
    refine lv_iconst (v := 1) hx hb dX8_has_21 (by decide) ?_
    refine z_cVi (As := [.int 1]) (rest := []) C0 hZ h1 (fun _ hf => kX8_fail l hk0 hf) mRX8_310 vX8_fail hk0 rfl rfl hl.1 (Nat.le_of_ble_eq_true rfl) ⟨Nat.le_of_ble_eq_true rfl, Nat.le_of_ble_eq_true rfl⟩ dX8_has_22 ⟨Nat.le_of_ble_eq_true rfl, Nat.le_of_ble_eq_true rfl⟩ (fun r_2 σ_1 H locs h1 hZ => ?_)
    rw [hQ]; exact z_iret C0 hr hlk hZ h1 dX8_has_25
  refine lv_aload_n hx hb dX8_has_0 rfl (lv_at hl 0 rfl) ?_
  refine lv_iconst (v := 0) hx hb dX8_has_1 (by decide) ?_
  refine z_puti C0 hZ h1 hk0 fRX8_159 rfl tyX8_ok nmX8 rfl rfl rfl dX8_has_2 (fun σ_3 H locs h1 hZ => ?_)
  refine lv_aload_n hx hb dX8_has_5 rfl (lv_at hl 0 rfl) ?_
  refine lv_iload_n hx hb dX8_has_6 rfl (lv_at hl 1 rfl) ?_
  refine z_cVi (As := [.int x1]) (rest := []) C0 hZ h1 (fun _ hf => kX8_isPerson l hk0 hf) mRX8_448 vX8_isPerson hk0 rfl rfl hl.1 (Nat.le_of_ble_eq_true rfl) ⟨Nat.le_of_ble_eq_true rfl, Nat.le_of_ble_eq_true rfl⟩ dX8_has_7 ⟨Nat.le_of_ble_eq_true rfl, Nat.le_of_ble_eq_true rfl⟩ (fun r_5 σ_4 H locs h1 hZ => ?_)
  refine z_if_eq (tgt := 20) C0 h1 dX8_has_10 (by decide) (fun h1 => ?_) (fun h1 => ?_)
  · exact J20  _ _ _ _  hZ (lv_sub hl [0] rfl) h1
  refine lv_iload_n hx hb dX8_has_13 rfl (lv_at hl 2 rfl) ?_
  refine z_cSi (As := [.int x2]) (rest := []) C0 hZ h1 (fun _ hf => kX8_isMinute l  hf) mRX8_483 sX8_isMinute rfl rfl hl.1 (Nat.le_of_ble_eq_true rfl) ⟨Nat.le_of_ble_eq_true rfl, Nat.le_of_ble_eq_true rfl⟩ dX8_has_14 ⟨Nat.le_of_ble_eq_true rfl, Nat.le_of_ble_eq_true rfl⟩ (fun r_7 σ_6 H locs h1 hZ => ?_)
  refine z_if_ne (tgt := 26) C0 h1 dX8_has_17 (by decide) (fun h1 => ?_) (fun h1 => ?_)
  · refine lv_aload_n hx hb dX8_has_26 rfl (lv_at hl 0 rfl) ?_
    refine z_cVv (As := []) (rest := []) C0 hZ h1 (fun _ hf => kX8_set l hk0 hf) mRX8_469 vX8_set hk0 rfl rfl hl.1 (Nat.le_of_ble_eq_true rfl) ⟨Nat.le_of_ble_eq_true rfl, Nat.le_of_ble_eq_true rfl⟩ dX8_has_27 ⟨Nat.le_of_ble_eq_true rfl, Nat.le_of_ble_eq_true rfl⟩ (fun _ σ_8 H locs h1 hZ => ?_)
    refine lv_aload_n hx hb dX8_has_30 rfl (lv_at hl 0 rfl) ?_
    refine lv_iload_n hx hb dX8_has_31 rfl (lv_at hl 2 rfl) ?_
    refine z_cVv (As := [.int x2]) (rest := []) C0 hZ h1 (fun _ hf => kX8_go l hk0 hf) mRX8_440 vX8_go hk0 rfl rfl hl.1 (Nat.le_of_ble_eq_true rfl) ⟨Nat.le_of_ble_eq_true rfl, Nat.le_of_ble_eq_true rfl⟩ dX8_has_32 ⟨Nat.le_of_ble_eq_true rfl, Nat.le_of_ble_eq_true rfl⟩ (fun _ σ_10 H locs h1 hZ => ?_)
    refine lv_aload_n hx hb dX8_has_35 rfl (lv_at hl 0 rfl) ?_
    refine z_getr C0 hZ hk0 fRX8_111 rfl dX8_has_36 ?_
    refine lv_iload_n hx hb dX8_has_39 rfl (lv_at hl 1 rfl) ?_
    refine z_iald C0 hZ h1 (zkt8_44 hk0) dX8_has_40 (fun h1 => ?_)
    rw [hQ]; exact z_iret C0 hr hlk hZ h1 dX8_has_41
  exact J20  _ _ _ _  hZ (lv_sub hl [0] rfl) h1
noncomputable def FX8_ask_b47 (k0 : Nat) (x1 : Int32) (x2 : Int32) (σ : zS) : Option (Int32 × zS) := zlet (zup σ k0 62 1) (fun σ_1 => zlet (zup σ_1 k0 60 x1) (fun σ_2 => zlet (zup σ_2 k0 61 x2) (fun σ_3 => some (0, σ_3))))
noncomputable def FX8_ask_b26 (k0 : Nat) (x1 : Int32) (σ : zS) : Option (Int32 × zS) := zbd (FX8_costNow k0 σ) (fun r_5 σ_4 => zlet r_5 (fun x2_6 => if (σ_4 k0 62) = 0 then FX8_ask_b47 k0 x1 x2_6 σ_4 else if x2_6 < (σ_4 k0 61) then FX8_ask_b47 k0 x1 x2_6 σ_4 else some (0, σ_4)))
noncomputable def FX8_ask_L2 (k0 : Nat) (x1 : Int32) (x2 : Int32) (σ : zS) : Option ((Int32 × zS) ⊕ (Int32 × zS)) := if 10 ≤ x2 then zinr (FX8_ask_b26 k0 x1 σ) else zin (ln 1 (k0 + 5)) x2 (zin (ln 1 (k0 + 23)) x2 (zlet (zup σ (k0 + 23) (Int32.toNatClampNeg x2) (σ (k0 + 5) (Int32.toNatClampNeg x2))) (fun σ_7 => zlet (x2 + 1) (fun x2_8 => some (.inl (x2_8, σ_7))))))
noncomputable def FX8_ask (k0 : Nat) (x1 : Int32) (σ : zS) : Option (Int32 × zS) := zlet 0 (fun x2_9 => zlp (fun q => FX8_ask_L2 k0 x1 q.1 q.2) (x2_9, σ))
set_option maxHeartbeats 4000000 in
set_option maxRecDepth 100000 in
theorem kX8_ask (l : Launch) {V : zV} {σ : zS} {t0 : Int32 × zS} {k0 : Nat} {x1 : Int32} (hk0 : kd 1 k0 = 8) (h1 : FX8_ask k0 x1 σ = some t0) : zMv l yX8_ask cX8_ask 3 7 159 1 V σ t0 [.ref (zad V k0), .int x1] := by
  refine zMv_of (by decide) (Nat.le_of_ble_eq_true rfl) ?_
  intro p e s m below meth c A C0 hr hlk hZ ls hl
  generalize ([.ref (zad V k0), .int x1] : List Value).toArray = args at C0 ⊢
  obtain ⟨Q, hQ⟩ : ∃ Q, Q = MQ below (zQv 1 V t0 A) args s 0 0 A := ⟨_, rfl⟩
  rw [← hQ]
  have hx := C0.1
  have hb := C0.2.1
  have hl : lv_has ls 3 [(0, .ref (zad V k0)), (1, .int x1)] := hl
  unfold FX8_ask at h1
  have J47 : ∀ (x2 : Int32) (σ : zS) (H : Heap) (locs : List Loc) (ls : Array Slot), zZ 1 V A σ s H locs → lv_has ls 3 [(0, .ref (zad V k0)), (1, .int x1), (2, .int x2)] → FX8_ask_b47 k0 x1 x2 σ = some t0 → W p l e (zrm 7 159) s m args below meth c H locs 0 0 Q (F0 m 47 ls []) := by
    intro x2 σ H locs ls  hZ hl h1
    unfold FX8_ask_b47 at h1
    refine lv_aload_n hx hb dX8_ask_47 rfl (lv_at hl 0 rfl) ?_
    refine lv_iconst (v := 1) hx hb dX8_ask_48 (by decide) ?_
    refine z_puti C0 hZ h1 hk0 fRX8_486 rfl tyX8_ok nmX8 rfl rfl rfl dX8_ask_49 (fun σ_1 H locs h1 hZ => ?_)
    refine lv_aload_n hx hb dX8_ask_52 rfl (lv_at hl 0 rfl) ?_
    refine lv_iload_n hx hb dX8_ask_53 rfl (lv_at hl 1 rfl) ?_
    refine z_puti C0 hZ h1 hk0 fRX8_492 rfl tyX8_ok nmX8 rfl rfl rfl dX8_ask_54 (fun σ_2 H locs h1 hZ => ?_)
    refine lv_aload_n hx hb dX8_ask_57 rfl (lv_at hl 0 rfl) ?_
    refine lv_iload_n hx hb dX8_ask_58 rfl (lv_at hl 2 rfl) ?_
    refine z_puti C0 hZ h1 hk0 fRX8_489 rfl tyX8_ok nmX8 rfl rfl rfl dX8_ask_59 (fun σ_3 H locs h1 hZ => ?_)
    rw [hQ]; exact z_vret C0 hr hlk hZ h1 dX8_ask_62
  have J26 : ∀  (σ : zS) (H : Heap) (locs : List Loc) (ls : Array Slot), zZ 1 V A σ s H locs → lv_has ls 3 [(0, .ref (zad V k0)), (1, .int x1)] → FX8_ask_b26 k0 x1 σ = some t0 → W p l e (zrm 7 159) s m args below meth c H locs 0 0 Q (F0 m 26 ls []) := by
    intro  σ H locs ls  hZ hl h1
    unfold FX8_ask_b26 at h1
    refine lv_aload_n hx hb dX8_ask_26 rfl (lv_at hl 0 rfl) ?_
    refine z_cVi (As := []) (rest := []) C0 hZ h1 (fun _ hf => kX8_costNow l hk0 hf) mRX8_472 vX8_costNow hk0 rfl rfl hl.1 (Nat.le_of_ble_eq_true rfl) ⟨Nat.le_of_ble_eq_true rfl, Nat.le_of_ble_eq_true rfl⟩ dX8_ask_27 ⟨Nat.le_of_ble_eq_true rfl, Nat.le_of_ble_eq_true rfl⟩ (fun r_5 σ_4 H locs h1 hZ => ?_)
    refine z_istore_n C0 h1 hl (fun x2_6 => [(2, .int x2_6), (0, .ref (zad V k0)), (1, .int x1)]) dX8_ask_30 rfl (by decide) (fun _ => rfl) (fun x2_6 ls h1 hl => ?_)
    refine lv_aload_n hx hb dX8_ask_31 rfl (lv_at hl 1 rfl) ?_
    refine z_geti C0 hZ hk0 fRX8_486 rfl dX8_ask_32 ?_
    refine z_if_eq (tgt := 47) C0 h1 dX8_ask_35 (by decide) (fun h1 => ?_) (fun h1 => ?_)
    · exact J47 x2_6 _ _ _ _  hZ (lv_sub hl [1, 2, 0] rfl) h1
    refine lv_iload_n hx hb dX8_ask_38 rfl (lv_at hl 0 rfl) ?_
    refine lv_aload_n hx hb dX8_ask_39 rfl (lv_at hl 1 rfl) ?_
    refine z_geti C0 hZ hk0 fRX8_489 rfl dX8_ask_40 ?_
    refine z_ic_lt (tgt := 47) C0 h1 dX8_ask_43 (by decide) (fun h1 => ?_) (fun h1 => ?_)
    · exact J47 x2_6 _ _ _ _  hZ (lv_sub hl [1, 2, 0] rfl) h1
    rw [hQ]; exact z_vret C0 hr hlk hZ h1 dX8_ask_46
  have J2 : ∀ (n : Nat) (x2 : Int32) (σ : zS) (H : Heap) (locs : List Loc) (ls : Array Slot), zZ 1 V A σ s H locs → lv_has ls 3 [(0, .ref (zad V k0)), (1, .int x1), (2, .int x2)] → zit (fun q => FX8_ask_L2 k0 x1 q.1 q.2) n (x2, σ) = some t0 → W p l e (zrm 7 159) s m args below meth c H locs 0 0 Q (F0 m 2 ls []) := by
    intro n
    induction n with
    | zero => intro x2 σ H locs ls  _ _ h1; cases h1
    | succ n ih2 =>
      intro x2 σ H locs ls  hZ hl h1
      obtain ⟨t1, h1, hz1⟩ := zit_1 h1
      replace h1 : FX8_ask_L2 k0 x1 x2 σ = some t1 := h1
      unfold FX8_ask_L2 at h1
      refine lv_iload_n hx hb dX8_ask_2 rfl (lv_at hl 2 rfl) ?_
      refine lv_bipush (v := 10) hx hb dX8_ask_3 (by decide) ?_
      refine z_ic_ge (tgt := 26) C0 h1 dX8_ask_5 (by decide) (fun h1 => ?_) (fun h1 => ?_)
      · have h1 := zout h1 hz1
        exact J26  _ _ _ _  hZ (lv_sub hl [0, 1] rfl) h1
      refine lv_aload_n hx hb dX8_ask_8 rfl (lv_at hl 0 rfl) ?_
      refine z_getr C0 hZ hk0 fRX8_105 rfl dX8_ask_9 ?_
      refine lv_iload_n hx hb dX8_ask_12 rfl (lv_at hl 2 rfl) ?_
      refine lv_aload_n hx hb dX8_ask_13 rfl (lv_at hl 0 rfl) ?_
      refine z_getr C0 hZ hk0 fRX8_46 rfl dX8_ask_14 ?_
      refine lv_iload_n hx hb dX8_ask_17 rfl (lv_at hl 2 rfl) ?_
      refine z_iald C0 hZ h1 (zkt8_5 hk0) dX8_ask_18 (fun h1 => ?_)
      refine z_iast C0 hZ h1 (zkt8_42 hk0) dX8_ask_19 (fun σ_7 H locs h1 hZ => ?_)
      refine z_iinc (v := 1) C0 h1 hl (fun x2_8 => [(2, .int x2_8), (0, .ref (zad V k0)), (1, .int x1)]) dX8_ask_20 (k := 2) rfl (by decide) (by decide) (fun _ => rfl) (fun x2_8 ls h1 hl => ?_)
      refine lv_goto (tgt := 2) hx hb dX8_ask_23 (by decide) ?_
      exact ih2 x2_8 _ _ _ _  hZ (lv_sub hl [1, 2, 0] rfl) (zback h1 hz1)
  refine lv_iconst (v := 0) hx hb dX8_ask_0 (by decide) ?_
  refine z_istore_n C0 h1 hl (fun x2_9 => [(2, .int x2_9), (0, .ref (zad V k0)), (1, .int x1)]) dX8_ask_1 rfl (by decide) (fun _ => rfl) (fun x2_9 ls h1 hl => ?_)
  obtain ⟨n, h1⟩ := zlp_iff.mp h1
  exact J2 n x2_9 _ _ _ _  hZ (lv_sub hl [1, 2, 0] rfl) h1
noncomputable def FX8_best_b26 (k0 : Nat) (σ : zS) : Option (Int32 × zS) := zbd (FX8_fail k0 1 σ) (fun r_2 σ_1 => some (r_2, σ_1))
noncomputable def FX8_best_b172 (y0 : Int32) (σ : zS) : Option (Int32 × zS) := some (y0, σ)
noncomputable def FX8_best_b146 (k0 : Nat) (x2 : Int32) (σ : zS) : Option (Int32 × zS) := if (σ k0 62) = 0 then FX8_best_b172 (-1) σ else if x2 = 0 then FX8_best_b172 (σ k0 60) σ else FX8_best_b172 (σ k0 61) σ
noncomputable def FX8_best_b131 (k0 : Nat) (x1 : Int32) (x2 : Int32) (σ : zS) : Option (Int32 × zS) := if x1 = 2 then zlet (zup σ k0 46 0) (fun σ_3 => zbd (FX8_ask k0 (-1) σ_3) (fun _ σ_4 => FX8_best_b146 k0 x2 σ_4)) else FX8_best_b146 k0 x2 σ
noncomputable def FX8_best_L102 (k0 : Nat) (x1 : Int32) (x2 : Int32) (x3 : Int32) (σ : zS) : Option ((zS) ⊕ (Int32 × zS)) := if x3 ≤ (σ k0 47) then zinr (FX8_best_b131 k0 x1 x2 σ) else zbd (FX8_ask k0 (σ k0 47) σ) (fun _ σ_6 => zlet (zup σ_6 k0 47 ((σ_6 k0 47) + 1)) (fun σ_8 => some (.inl (σ_8))))
noncomputable def FX8_best_b96 (k0 : Nat) (x1 : Int32) (x2 : Int32) (y0 : Int32) (σ : zS) : Option (Int32 × zS) := zlet y0 (fun x3_9 => zlet (zup σ k0 47 0) (fun σ_10 => zlp (fun q => FX8_best_L102 k0 x1 x2 x3_9 q) (σ_10)))
noncomputable def FX8_best_b60 (k0 : Nat) (x1 : Int32) (x2 : Int32) (q0 : Nat) (y1 : Int32) (σ : zS) : Option (Int32 × zS) := zlet (zup σ q0 46 y1) (fun σ_11 => if x1 = 0 then zin (ln 1 (k0 + 3)) 0 (FX8_best_b96 k0 x1 x2 (σ_11 (k0 + 3) (Int32.toNatClampNeg 0)) σ_11) else if x1 = 1 then zin (ln 1 (k0 + 3)) 3 (FX8_best_b96 k0 x1 x2 (σ_11 (k0 + 3) (Int32.toNatClampNeg 3)) σ_11) else zin (ln 1 (k0 + 3)) 4 (FX8_best_b96 k0 x1 x2 (σ_11 (k0 + 3) (Int32.toNatClampNeg 4)) σ_11))
noncomputable def FX8_best (k0 : Nat) (x1 : Int32) (x2 : Int32) (σ : zS) : Option (Int32 × zS) := zlet (zup σ k0 2 0) (fun σ_12 => zbd (FX8_isIn (Int32.toInt64 x1) 0 2 σ_12) (fun r_14 σ_13 => if r_14 = 0 then FX8_best_b26 k0 σ_13 else if x2 < 0 then FX8_best_b26 k0 σ_13 else if x2 ≤ 1 then zbd (FX8_set k0 σ_13) (fun _ σ_15 => zlet (zup σ_15 k0 62 0) (fun σ_17 => if x1 = 0 then FX8_best_b60 k0 x1 x2 k0 3 σ_17 else if x1 = 1 then FX8_best_b60 k0 x1 x2 k0 2 σ_17 else FX8_best_b60 k0 x1 x2 k0 1 σ_17)) else FX8_best_b26 k0 σ_13))
set_option maxHeartbeats 4000000 in
set_option maxRecDepth 100000 in
theorem kX8_best (l : Launch) {V : zV} {σ : zS} {t0 : Int32 × zS} {k0 : Nat} {x1 : Int32} {x2 : Int32} (hk0 : kd 1 k0 = 8) (h1 : FX8_best k0 x1 x2 σ = some t0) : zMi l yX8_best cX8_best 4 (some .int) 8 181 1 V σ t0 [.ref (zad V k0), .int x1, .int x2] := by
  refine zMi_of (by decide) (Nat.le_of_ble_eq_true rfl) ?_
  intro p e s m below meth c A C0 hr hlk hZ ls hl
  generalize ([.ref (zad V k0), .int x1, .int x2] : List Value).toArray = args at C0 ⊢
  obtain ⟨Q, hQ⟩ : ∃ Q, Q = MQ below (zQi 1 V t0 A) args s 0 0 A := ⟨_, rfl⟩
  rw [← hQ]
  have hx := C0.1
  have hb := C0.2.1
  have hl : lv_has ls 4 [(0, .ref (zad V k0)), (1, .int x1), (2, .int x2)] := hl
  unfold FX8_best at h1
  have J26 : ∀  (σ : zS) (H : Heap) (locs : List Loc) (ls : Array Slot), zZ 1 V A σ s H locs → lv_has ls 4 [(0, .ref (zad V k0))] → FX8_best_b26 k0 σ = some t0 → W p l e (zrm 8 181) s m args below meth c H locs 0 0 Q (F0 m 26 ls []) := by
    intro  σ H locs ls  hZ hl h1
    unfold FX8_best_b26 at h1
    refine lv_aload_n hx hb dX8_best_26 rfl (lv_at hl 0 rfl) ?_
    refine lv_iconst (v := 1) hx hb dX8_best_27 (by decide) ?_
    refine z_cVi (As := [.int 1]) (rest := []) C0 hZ h1 (fun _ hf => kX8_fail l hk0 hf) mRX8_310 vX8_fail hk0 rfl rfl hl.1 (Nat.le_of_ble_eq_true rfl) ⟨Nat.le_of_ble_eq_true rfl, Nat.le_of_ble_eq_true rfl⟩ dX8_best_28 ⟨Nat.le_of_ble_eq_true rfl, Nat.le_of_ble_eq_true rfl⟩ (fun r_2 σ_1 H locs h1 hZ => ?_)
    rw [hQ]; exact z_iret C0 hr hlk hZ h1 dX8_best_31
  have J172 : ∀ (y0 : Int32) (σ : zS) (H : Heap) (locs : List Loc) (ls : Array Slot), zZ 1 V A σ s H locs → lv_has ls 4 [] → FX8_best_b172 y0 σ = some t0 → W p l e (zrm 8 181) s m args below meth c H locs 0 0 Q (F0 m 172 ls [.int y0]) := by
    intro y0 σ H locs ls  hZ hl h1
    unfold FX8_best_b172 at h1
    rw [hQ]; exact z_iret C0 hr hlk hZ h1 dX8_best_172
  have J146 : ∀  (σ : zS) (H : Heap) (locs : List Loc) (ls : Array Slot), zZ 1 V A σ s H locs → lv_has ls 4 [(0, .ref (zad V k0)), (2, .int x2)] → FX8_best_b146 k0 x2 σ = some t0 → W p l e (zrm 8 181) s m args below meth c H locs 0 0 Q (F0 m 146 ls []) := by
    intro  σ H locs ls  hZ hl h1
    unfold FX8_best_b146 at h1
    refine lv_aload_n hx hb dX8_best_146 rfl (lv_at hl 0 rfl) ?_
    refine z_geti C0 hZ hk0 fRX8_486 rfl dX8_best_147 ?_
    refine z_if_ne (tgt := 157) C0 h1 dX8_best_150 (by decide) (fun h1 => ?_) (fun h1 => ?_)
    · refine lv_iload_n hx hb dX8_best_157 rfl (lv_at hl 1 rfl) ?_
      refine z_if_ne (tgt := 168) C0 h1 dX8_best_158 (by decide) (fun h1 => ?_) (fun h1 => ?_)
      · refine lv_aload_n hx hb dX8_best_168 rfl (lv_at hl 0 rfl) ?_
        refine z_geti C0 hZ hk0 fRX8_489 rfl dX8_best_169 ?_
        exact J172 (σ k0 61) _ _ _ _  hZ (lv_sub hl [] rfl) h1
      refine lv_aload_n hx hb dX8_best_161 rfl (lv_at hl 0 rfl) ?_
      refine z_geti C0 hZ hk0 fRX8_492 rfl dX8_best_162 ?_
      refine lv_goto (tgt := 172) hx hb dX8_best_165 (by decide) ?_
      exact J172 (σ k0 60) _ _ _ _  hZ (lv_sub hl [] rfl) h1
    refine lv_iconst (v := (-1)) hx hb dX8_best_153 (by decide) ?_
    refine lv_goto (tgt := 172) hx hb dX8_best_154 (by decide) ?_
    exact J172 (-1) _ _ _ _  hZ (lv_sub hl [] rfl) h1
  have J131 : ∀  (σ : zS) (H : Heap) (locs : List Loc) (ls : Array Slot), zZ 1 V A σ s H locs → lv_has ls 4 [(0, .ref (zad V k0)), (1, .int x1), (2, .int x2)] → FX8_best_b131 k0 x1 x2 σ = some t0 → W p l e (zrm 8 181) s m args below meth c H locs 0 0 Q (F0 m 131 ls []) := by
    intro  σ H locs ls  hZ hl h1
    unfold FX8_best_b131 at h1
    refine lv_iload_n hx hb dX8_best_131 rfl (lv_at hl 1 rfl) ?_
    refine lv_iconst (v := 2) hx hb dX8_best_132 (by decide) ?_
    refine z_ic_ne (tgt := 146) C0 h1 dX8_best_133 (by decide) (fun h1 => ?_) (fun h1 => ?_)
    · exact J146  _ _ _ _  hZ (lv_sub hl [0, 2] rfl) h1
    refine lv_aload_n hx hb dX8_best_136 rfl (lv_at hl 0 rfl) ?_
    refine lv_iconst (v := 0) hx hb dX8_best_137 (by decide) ?_
    refine z_puti C0 hZ h1 hk0 fRX8_364 rfl tyX8_ok nmX8 rfl rfl rfl dX8_best_138 (fun σ_3 H locs h1 hZ => ?_)
    refine lv_aload_n hx hb dX8_best_141 rfl (lv_at hl 0 rfl) ?_
    refine lv_iconst (v := (-1)) hx hb dX8_best_142 (by decide) ?_
    refine z_cVv (As := [.int (-1)]) (rest := []) C0 hZ h1 (fun _ hf => kX8_ask l hk0 hf) mRX8_495 vX8_ask hk0 rfl rfl hl.1 (Nat.le_of_ble_eq_true rfl) ⟨Nat.le_of_ble_eq_true rfl, Nat.le_of_ble_eq_true rfl⟩ dX8_best_143 ⟨Nat.le_of_ble_eq_true rfl, Nat.le_of_ble_eq_true rfl⟩ (fun _ σ_4 H locs h1 hZ => ?_)
    exact J146  _ _ _ _  hZ (lv_sub hl [0, 2] rfl) h1
  have J102 : ∀ (n : Nat) (x3 : Int32) (σ : zS) (H : Heap) (locs : List Loc) (ls : Array Slot), zZ 1 V A σ s H locs → lv_has ls 4 [(0, .ref (zad V k0)), (1, .int x1), (2, .int x2), (3, .int x3)] → zit (fun q => FX8_best_L102 k0 x1 x2 x3 q) n (σ) = some t0 → W p l e (zrm 8 181) s m args below meth c H locs 0 0 Q (F0 m 102 ls []) := by
    intro n
    induction n with
    | zero => intro x3 σ H locs ls  _ _ h1; cases h1
    | succ n ih102 =>
      intro x3 σ H locs ls  hZ hl h1
      obtain ⟨t1, h1, hz1⟩ := zit_1 h1
      replace h1 : FX8_best_L102 k0 x1 x2 x3 σ = some t1 := h1
      unfold FX8_best_L102 at h1
      refine lv_aload_n hx hb dX8_best_102 rfl (lv_at hl 0 rfl) ?_
      refine z_geti C0 hZ hk0 fRX8_367 rfl dX8_best_103 ?_
      refine lv_iload_n hx hb dX8_best_106 rfl (lv_at hl 3 rfl) ?_
      refine z_ic_ge (tgt := 131) C0 h1 dX8_best_107 (by decide) (fun h1 => ?_) (fun h1 => ?_)
      · have h1 := zout h1 hz1
        exact J131  _ _ _ _  hZ (lv_sub hl [0, 1, 2] rfl) h1
      refine lv_aload_n hx hb dX8_best_110 rfl (lv_at hl 0 rfl) ?_
      refine lv_aload_n hx hb dX8_best_111 rfl (lv_at hl 0 rfl) ?_
      refine z_geti C0 hZ hk0 fRX8_367 rfl dX8_best_112 ?_
      refine z_cVv (As := [.int (σ k0 47)]) (rest := []) C0 hZ h1 (fun _ hf => kX8_ask l hk0 hf) mRX8_495 vX8_ask hk0 rfl rfl hl.1 (Nat.le_of_ble_eq_true rfl) ⟨Nat.le_of_ble_eq_true rfl, Nat.le_of_ble_eq_true rfl⟩ dX8_best_115 ⟨Nat.le_of_ble_eq_true rfl, Nat.le_of_ble_eq_true rfl⟩ (fun _ σ_6 H locs h1 hZ => ?_)
      refine lv_aload_n hx hb dX8_best_118 rfl (lv_at hl 0 rfl) ?_
      refine lv_dup hx hb dX8_best_119 rfl ?_
      refine z_geti C0 hZ hk0 fRX8_367 rfl dX8_best_120 ?_
      refine lv_iconst (v := 1) hx hb dX8_best_123 (by decide) ?_
      refine lv_iadd hx hb dX8_best_124 ?_
      refine z_puti C0 hZ h1 hk0 fRX8_367 rfl tyX8_ok nmX8 rfl rfl rfl dX8_best_125 (fun σ_8 H locs h1 hZ => ?_)
      refine lv_goto (tgt := 102) hx hb dX8_best_128 (by decide) ?_
      exact ih102 x3 _ _ _ _  hZ (lv_sub hl [0, 1, 2, 3] rfl) (zback h1 hz1)
  have J96 : ∀ (y0 : Int32) (σ : zS) (H : Heap) (locs : List Loc) (ls : Array Slot), zZ 1 V A σ s H locs → lv_has ls 4 [(0, .ref (zad V k0)), (1, .int x1), (2, .int x2)] → FX8_best_b96 k0 x1 x2 y0 σ = some t0 → W p l e (zrm 8 181) s m args below meth c H locs 0 0 Q (F0 m 96 ls [.int y0]) := by
    intro y0 σ H locs ls  hZ hl h1
    unfold FX8_best_b96 at h1
    refine z_istore_n C0 h1 hl (fun x3_9 => [(3, .int x3_9), (0, .ref (zad V k0)), (1, .int x1), (2, .int x2)]) dX8_best_96 rfl (by decide) (fun _ => rfl) (fun x3_9 ls h1 hl => ?_)
    refine lv_aload_n hx hb dX8_best_97 rfl (lv_at hl 1 rfl) ?_
    refine lv_iconst (v := 0) hx hb dX8_best_98 (by decide) ?_
    refine z_puti C0 hZ h1 hk0 fRX8_367 rfl tyX8_ok nmX8 rfl rfl rfl dX8_best_99 (fun σ_10 H locs h1 hZ => ?_)
    obtain ⟨n, h1⟩ := zlp_iff.mp h1
    exact J102 n x3_9 _ _ _ _  hZ (lv_sub hl [1, 2, 3, 0] rfl) h1
  have J60 : ∀ (q0 : Nat) (y1 : Int32) (σ : zS) (H : Heap) (locs : List Loc) (ls : Array Slot), kd 1 q0 = 8 → zZ 1 V A σ s H locs → lv_has ls 4 [(0, .ref (zad V k0)), (1, .int x1), (2, .int x2)] → FX8_best_b60 k0 x1 x2 q0 y1 σ = some t0 → W p l e (zrm 8 181) s m args below meth c H locs 0 0 Q (F0 m 60 ls [.int y1, .ref (zad V q0)]) := by
    intro q0 y1 σ H locs ls hq0 hZ hl h1
    unfold FX8_best_b60 at h1
    refine z_puti C0 hZ h1 hq0 fRX8_364 rfl tyX8_ok nmX8 rfl rfl rfl dX8_best_60 (fun σ_11 H locs h1 hZ => ?_)
    refine lv_iload_n hx hb dX8_best_63 rfl (lv_at hl 1 rfl) ?_
    refine z_if_ne (tgt := 76) C0 h1 dX8_best_64 (by decide) (fun h1 => ?_) (fun h1 => ?_)
    · refine lv_iload_n hx hb dX8_best_76 rfl (lv_at hl 1 rfl) ?_
      refine lv_iconst (v := 1) hx hb dX8_best_77 (by decide) ?_
      refine z_ic_ne (tgt := 90) C0 h1 dX8_best_78 (by decide) (fun h1 => ?_) (fun h1 => ?_)
      · refine lv_aload_n hx hb dX8_best_90 rfl (lv_at hl 0 rfl) ?_
        refine z_getr C0 hZ hk0 fRX8_40 rfl dX8_best_91 ?_
        refine lv_iconst (v := 4) hx hb dX8_best_94 (by decide) ?_
        refine z_iald C0 hZ h1 (zkt8_3 hk0) dX8_best_95 (fun h1 => ?_)
        exact J96 (σ_11 (k0 + 3) (Int32.toNatClampNeg 4)) _ _ _ _  hZ (lv_sub hl [0, 1, 2] rfl) h1
      refine lv_aload_n hx hb dX8_best_81 rfl (lv_at hl 0 rfl) ?_
      refine z_getr C0 hZ hk0 fRX8_40 rfl dX8_best_82 ?_
      refine lv_iconst (v := 3) hx hb dX8_best_85 (by decide) ?_
      refine z_iald C0 hZ h1 (zkt8_3 hk0) dX8_best_86 (fun h1 => ?_)
      refine lv_goto (tgt := 96) hx hb dX8_best_87 (by decide) ?_
      exact J96 (σ_11 (k0 + 3) (Int32.toNatClampNeg 3)) _ _ _ _  hZ (lv_sub hl [0, 1, 2] rfl) h1
    refine lv_aload_n hx hb dX8_best_67 rfl (lv_at hl 0 rfl) ?_
    refine z_getr C0 hZ hk0 fRX8_40 rfl dX8_best_68 ?_
    refine lv_iconst (v := 0) hx hb dX8_best_71 (by decide) ?_
    refine z_iald C0 hZ h1 (zkt8_3 hk0) dX8_best_72 (fun h1 => ?_)
    refine lv_goto (tgt := 96) hx hb dX8_best_73 (by decide) ?_
    exact J96 (σ_11 (k0 + 3) (Int32.toNatClampNeg 0)) _ _ _ _  hZ (lv_sub hl [0, 1, 2] rfl) h1
  refine lv_aload_n hx hb dX8_best_0 rfl (lv_at hl 0 rfl) ?_
  refine lv_iconst (v := 0) hx hb dX8_best_1 (by decide) ?_
  refine z_puti C0 hZ h1 hk0 fRX8_159 rfl tyX8_ok nmX8 rfl rfl rfl dX8_best_2 (fun σ_12 H locs h1 hZ => ?_)
  refine lv_iload_n hx hb dX8_best_5 rfl (lv_at hl 1 rfl) ?_
  refine lv_i2l (v := (Int32.toInt64 x1)) hx hb dX8_best_6 rfl ?_
  refine lv_lconst (v := 0) hx hb dX8_best_7 (by decide) ?_
  refine lv_ldc2 (v := 2) hx hb C0.2.2.2.1 (C0.2.2.2.2 _ (zmem 1853 (by decide +kernel) (by decide +kernel))) dX8_best_8 ?_
  refine z_cSi (As := [.long (Int32.toInt64 x1), .long 0, .long 2]) (rest := []) C0 hZ h1 (fun _ hf => kX8_isIn l  hf) mRX8_162 sX8_isIn rfl rfl hl.1 (Nat.le_of_ble_eq_true rfl) ⟨Nat.le_of_ble_eq_true rfl, Nat.le_of_ble_eq_true rfl⟩ dX8_best_11 ⟨Nat.le_of_ble_eq_true rfl, Nat.le_of_ble_eq_true rfl⟩ (fun r_14 σ_13 H locs h1 hZ => ?_)
  refine z_if_eq (tgt := 26) C0 h1 dX8_best_14 (by decide) (fun h1 => ?_) (fun h1 => ?_)
  · exact J26  _ _ _ _  hZ (lv_sub hl [0] rfl) h1
  refine lv_iload_n hx hb dX8_best_17 rfl (lv_at hl 2 rfl) ?_
  refine z_if_lt (tgt := 26) C0 h1 dX8_best_18 (by decide) (fun h1 => ?_) (fun h1 => ?_)
  · exact J26  _ _ _ _  hZ (lv_sub hl [0] rfl) h1
  refine lv_iload_n hx hb dX8_best_21 rfl (lv_at hl 2 rfl) ?_
  refine lv_iconst (v := 1) hx hb dX8_best_22 (by decide) ?_
  refine z_ic_le (tgt := 32) C0 h1 dX8_best_23 (by decide) (fun h1 => ?_) (fun h1 => ?_)
  · refine lv_aload_n hx hb dX8_best_32 rfl (lv_at hl 0 rfl) ?_
    refine z_cVv (As := []) (rest := []) C0 hZ h1 (fun _ hf => kX8_set l hk0 hf) mRX8_469 vX8_set hk0 rfl rfl hl.1 (Nat.le_of_ble_eq_true rfl) ⟨Nat.le_of_ble_eq_true rfl, Nat.le_of_ble_eq_true rfl⟩ dX8_best_33 ⟨Nat.le_of_ble_eq_true rfl, Nat.le_of_ble_eq_true rfl⟩ (fun _ σ_15 H locs h1 hZ => ?_)
    refine lv_aload_n hx hb dX8_best_36 rfl (lv_at hl 0 rfl) ?_
    refine lv_iconst (v := 0) hx hb dX8_best_37 (by decide) ?_
    refine z_puti C0 hZ h1 hk0 fRX8_486 rfl tyX8_ok nmX8 rfl rfl rfl dX8_best_38 (fun σ_17 H locs h1 hZ => ?_)
    refine lv_aload_n hx hb dX8_best_41 rfl (lv_at hl 0 rfl) ?_
    refine lv_iload_n hx hb dX8_best_42 rfl (lv_at hl 1 rfl) ?_
    refine z_if_ne (tgt := 50) C0 h1 dX8_best_43 (by decide) (fun h1 => ?_) (fun h1 => ?_)
    · refine lv_iload_n hx hb dX8_best_50 rfl (lv_at hl 1 rfl) ?_
      refine lv_iconst (v := 1) hx hb dX8_best_51 (by decide) ?_
      refine z_ic_ne (tgt := 59) C0 h1 dX8_best_52 (by decide) (fun h1 => ?_) (fun h1 => ?_)
      · refine lv_iconst (v := 1) hx hb dX8_best_59 (by decide) ?_
        exact J60 k0 1 _ _ _ _ hk0 hZ (lv_sub hl [0, 1, 2] rfl) h1
      refine lv_iconst (v := 2) hx hb dX8_best_55 (by decide) ?_
      refine lv_goto (tgt := 60) hx hb dX8_best_56 (by decide) ?_
      exact J60 k0 2 _ _ _ _ hk0 hZ (lv_sub hl [0, 1, 2] rfl) h1
    refine lv_iconst (v := 3) hx hb dX8_best_46 (by decide) ?_
    refine lv_goto (tgt := 60) hx hb dX8_best_47 (by decide) ?_
    exact J60 k0 3 _ _ _ _ hk0 hZ (lv_sub hl [0, 1, 2] rfl) h1
  exact J26  _ _ _ _  hZ (lv_sub hl [0] rfl) h1
noncomputable def FX8_cost_b19 (k0 : Nat) (q0 : Nat) (y1 : Int32) (σ : zS) : Option (Int32 × zS) := zlet (zup σ q0 48 y1) (fun σ_1 => zbd (FX8_costNow k0 σ_1) (fun r_3 σ_2 => some (r_3, σ_2)))
noncomputable def FX8_cost (k0 : Nat) (x1 : Int32) (σ : zS) : Option (Int32 × zS) := zlet (zup σ k0 2 0) (fun σ_4 => zbd (FX8_set k0 σ_4) (fun _ σ_5 => if x1 = 0 then FX8_cost_b19 k0 k0 0 σ_5 else FX8_cost_b19 k0 k0 1 σ_5))
set_option maxHeartbeats 4000000 in
set_option maxRecDepth 100000 in
theorem kX8_cost (l : Launch) {V : zV} {σ : zS} {t0 : Int32 × zS} {k0 : Nat} {x1 : Int32} (hk0 : kd 1 k0 = 8) (h1 : FX8_cost k0 x1 σ = some t0) : zMi l yX8_cost cX8_cost 2 (some .int) 7 159 1 V σ t0 [.ref (zad V k0), .int x1] := by
  refine zMi_of (by decide) (Nat.le_of_ble_eq_true rfl) ?_
  intro p e s m below meth c A C0 hr hlk hZ ls hl
  generalize ([.ref (zad V k0), .int x1] : List Value).toArray = args at C0 ⊢
  obtain ⟨Q, hQ⟩ : ∃ Q, Q = MQ below (zQi 1 V t0 A) args s 0 0 A := ⟨_, rfl⟩
  rw [← hQ]
  have hx := C0.1
  have hb := C0.2.1
  have hl : lv_has ls 2 [(0, .ref (zad V k0)), (1, .int x1)] := hl
  unfold FX8_cost at h1
  have J19 : ∀ (q0 : Nat) (y1 : Int32) (σ : zS) (H : Heap) (locs : List Loc) (ls : Array Slot), kd 1 q0 = 8 → zZ 1 V A σ s H locs → lv_has ls 2 [(0, .ref (zad V k0))] → FX8_cost_b19 k0 q0 y1 σ = some t0 → W p l e (zrm 7 159) s m args below meth c H locs 0 0 Q (F0 m 19 ls [.int y1, .ref (zad V q0)]) := by
    intro q0 y1 σ H locs ls hq0 hZ hl h1
    unfold FX8_cost_b19 at h1
    refine z_puti C0 hZ h1 hq0 fRX8_369 rfl tyX8_ok nmX8 rfl rfl rfl dX8_cost_19 (fun σ_1 H locs h1 hZ => ?_)
    refine lv_aload_n hx hb dX8_cost_22 rfl (lv_at hl 0 rfl) ?_
    refine z_cVi (As := []) (rest := []) C0 hZ h1 (fun _ hf => kX8_costNow l hk0 hf) mRX8_472 vX8_costNow hk0 rfl rfl hl.1 (Nat.le_of_ble_eq_true rfl) ⟨Nat.le_of_ble_eq_true rfl, Nat.le_of_ble_eq_true rfl⟩ dX8_cost_23 ⟨Nat.le_of_ble_eq_true rfl, Nat.le_of_ble_eq_true rfl⟩ (fun r_3 σ_2 H locs h1 hZ => ?_)
    rw [hQ]; exact z_iret C0 hr hlk hZ h1 dX8_cost_26
  refine lv_aload_n hx hb dX8_cost_0 rfl (lv_at hl 0 rfl) ?_
  refine lv_iconst (v := 0) hx hb dX8_cost_1 (by decide) ?_
  refine z_puti C0 hZ h1 hk0 fRX8_159 rfl tyX8_ok nmX8 rfl rfl rfl dX8_cost_2 (fun σ_4 H locs h1 hZ => ?_)
  refine lv_aload_n hx hb dX8_cost_5 rfl (lv_at hl 0 rfl) ?_
  refine z_cVv (As := []) (rest := []) C0 hZ h1 (fun _ hf => kX8_set l hk0 hf) mRX8_469 vX8_set hk0 rfl rfl hl.1 (Nat.le_of_ble_eq_true rfl) ⟨Nat.le_of_ble_eq_true rfl, Nat.le_of_ble_eq_true rfl⟩ dX8_cost_6 ⟨Nat.le_of_ble_eq_true rfl, Nat.le_of_ble_eq_true rfl⟩ (fun _ σ_5 H locs h1 hZ => ?_)
  refine lv_aload_n hx hb dX8_cost_9 rfl (lv_at hl 0 rfl) ?_
  refine lv_iload_n hx hb dX8_cost_10 rfl (lv_at hl 1 rfl) ?_
  refine z_if_eq (tgt := 18) C0 h1 dX8_cost_11 (by decide) (fun h1 => ?_) (fun h1 => ?_)
  · refine lv_iconst (v := 0) hx hb dX8_cost_18 (by decide) ?_
    exact J19 k0 0 _ _ _ _ hk0 hZ (lv_sub hl [0] rfl) h1
  refine lv_iconst (v := 1) hx hb dX8_cost_14 (by decide) ?_
  refine lv_goto (tgt := 19) hx hb dX8_cost_15 (by decide) ?_
  exact J19 k0 1 _ _ _ _ hk0 hZ (lv_sub hl [0] rfl) h1
noncomputable def FX8_glass_b14 (k0 : Nat) (σ : zS) : Option (Int32 × zS) := zbd (FX8_fail k0 1 σ) (fun r_2 σ_1 => some (r_2, σ_1))
noncomputable def FX8_glass_b163 (y0 : Int32) (σ : zS) : Option (Int32 × zS) := some (y0, σ)
noncomputable def FX8_glass_b136 (k0 : Nat) (x1 : Int32) (σ : zS) : Option (Int32 × zS) := if (σ k0 60) = (-1) then FX8_glass_b163 (-1) σ else if x1 = 0 then FX8_glass_b163 (σ k0 60) σ else FX8_glass_b163 (σ k0 61) σ
noncomputable def FX8_glass_b130 (k0 : Nat) (x1 : Int32) (x2 : Int32) (σ : zS) : Option ((Int32 × zS) ⊕ (Int32 × zS)) := zlet (x2 + 1) (fun x2_3 => some (.inl (x2_3, σ)))
noncomputable def FX8_glass_b124 (k0 : Nat) (x1 : Int32) (x2 : Int32) (x3 : Int32) (σ : zS) : Option ((Int32 × zS) ⊕ ((Int32 × zS) ⊕ (Int32 × zS))) := zlet (x3 + 1) (fun x3_4 => some (.inl (x3_4, σ)))
noncomputable def FX8_glass_L57 (k0 : Nat) (x1 : Int32) (x2 : Int32) (x3 : Int32) (σ : zS) : Option ((Int32 × zS) ⊕ ((Int32 × zS) ⊕ (Int32 × zS))) := zin (ln 1 (k0 + 3)) 0 (if (σ (k0 + 3) (Int32.toNatClampNeg 0)) ≤ x3 then zinr (FX8_glass_b130 k0 x1 x2 σ) else if x2 = x3 then FX8_glass_b124 k0 x1 x2 x3 σ else zin (ln 1 (k0 + 7)) x2 (zbd (FX8_isOf (σ (k0 + 7) (Int32.toNatClampNeg x2)) x3 σ) (fun r_6 σ_5 => if r_6 = 0 then zin (ln 1 (k0 + 7)) x2 (zin (ln 1 (k0 + 7)) x2 (zlet (zup σ_5 (k0 + 7) (Int32.toNatClampNeg x2) ((σ_5 (k0 + 7) (Int32.toNatClampNeg x2)) ||| ((1 : Int32) <<< (x3 &&& 31)))) (fun σ_7 => zbd (FX8_ask k0 ((10 * x2) + x3) σ_7) (fun _ σ_8 => zin (ln 1 (k0 + 7)) x2 (zin (ln 1 (k0 + 7)) x2 (zlet (zup σ_8 (k0 + 7) (Int32.toNatClampNeg x2) ((σ_8 (k0 + 7) (Int32.toNatClampNeg x2)) &&& (((1 : Int32) <<< (x3 &&& 31)) ^^^ (-1)))) (fun σ_10 => FX8_glass_b124 k0 x1 x2 x3 σ_10))))))) else FX8_glass_b124 k0 x1 x2 x3 σ_5)))
noncomputable def FX8_glass_L36 (k0 : Nat) (x1 : Int32) (x2 : Int32) (σ : zS) : Option ((Int32 × zS) ⊕ (Int32 × zS)) := zin (ln 1 (k0 + 3)) 0 (if (σ (k0 + 3) (Int32.toNatClampNeg 0)) ≤ x2 then zinr (FX8_glass_b136 k0 x1 σ) else if 6 ≤ (σ k0 33) then zinr (FX8_glass_b136 k0 x1 σ) else zlet 0 (fun x3_11 => zlp (fun q => FX8_glass_L57 k0 x1 x2 q.1 q.2) (x3_11, σ)))
noncomputable def FX8_glass (k0 : Nat) (x1 : Int32) (σ : zS) : Option (Int32 × zS) := zlet (zup σ k0 2 0) (fun σ_12 => if x1 < 0 then FX8_glass_b14 k0 σ_12 else if x1 ≤ 1 then zbd (FX8_set k0 σ_12) (fun _ σ_13 => zlet (zup σ_13 k0 62 0) (fun σ_15 => zbd (FX8_ask k0 (-1) σ_15) (fun _ σ_16 => zlet 0 (fun x2_18 => zlp (fun q => FX8_glass_L36 k0 x1 q.1 q.2) (x2_18, σ_16))))) else FX8_glass_b14 k0 σ_12)
set_option maxHeartbeats 4000000 in
set_option maxRecDepth 100000 in
theorem kX8_glass (l : Launch) {V : zV} {σ : zS} {t0 : Int32 × zS} {k0 : Nat} {x1 : Int32} (hk0 : kd 1 k0 = 8) (h1 : FX8_glass k0 x1 σ = some t0) : zMi l yX8_glass cX8_glass 4 (some .int) 8 181 1 V σ t0 [.ref (zad V k0), .int x1] := by
  refine zMi_of (by decide) (Nat.le_of_ble_eq_true rfl) ?_
  intro p e s m below meth c A C0 hr hlk hZ ls hl
  generalize ([.ref (zad V k0), .int x1] : List Value).toArray = args at C0 ⊢
  obtain ⟨Q, hQ⟩ : ∃ Q, Q = MQ below (zQi 1 V t0 A) args s 0 0 A := ⟨_, rfl⟩
  rw [← hQ]
  have hx := C0.1
  have hb := C0.2.1
  have hl : lv_has ls 4 [(0, .ref (zad V k0)), (1, .int x1)] := hl
  unfold FX8_glass at h1
  have J14 : ∀  (σ : zS) (H : Heap) (locs : List Loc) (ls : Array Slot), zZ 1 V A σ s H locs → lv_has ls 4 [(0, .ref (zad V k0))] → FX8_glass_b14 k0 σ = some t0 → W p l e (zrm 8 181) s m args below meth c H locs 0 0 Q (F0 m 14 ls []) := by
    intro  σ H locs ls  hZ hl h1
    unfold FX8_glass_b14 at h1
    refine lv_aload_n hx hb dX8_glass_14 rfl (lv_at hl 0 rfl) ?_
    refine lv_iconst (v := 1) hx hb dX8_glass_15 (by decide) ?_
    refine z_cVi (As := [.int 1]) (rest := []) C0 hZ h1 (fun _ hf => kX8_fail l hk0 hf) mRX8_310 vX8_fail hk0 rfl rfl hl.1 (Nat.le_of_ble_eq_true rfl) ⟨Nat.le_of_ble_eq_true rfl, Nat.le_of_ble_eq_true rfl⟩ dX8_glass_16 ⟨Nat.le_of_ble_eq_true rfl, Nat.le_of_ble_eq_true rfl⟩ (fun r_2 σ_1 H locs h1 hZ => ?_)
    rw [hQ]; exact z_iret C0 hr hlk hZ h1 dX8_glass_19
  have J163 : ∀ (y0 : Int32) (σ : zS) (H : Heap) (locs : List Loc) (ls : Array Slot), zZ 1 V A σ s H locs → lv_has ls 4 [] → FX8_glass_b163 y0 σ = some t0 → W p l e (zrm 8 181) s m args below meth c H locs 0 0 Q (F0 m 163 ls [.int y0]) := by
    intro y0 σ H locs ls  hZ hl h1
    unfold FX8_glass_b163 at h1
    rw [hQ]; exact z_iret C0 hr hlk hZ h1 dX8_glass_163
  have J136 : ∀  (σ : zS) (H : Heap) (locs : List Loc) (ls : Array Slot), zZ 1 V A σ s H locs → lv_has ls 4 [(0, .ref (zad V k0)), (1, .int x1)] → FX8_glass_b136 k0 x1 σ = some t0 → W p l e (zrm 8 181) s m args below meth c H locs 0 0 Q (F0 m 136 ls []) := by
    intro  σ H locs ls  hZ hl h1
    unfold FX8_glass_b136 at h1
    refine lv_aload_n hx hb dX8_glass_136 rfl (lv_at hl 0 rfl) ?_
    refine z_geti C0 hZ hk0 fRX8_492 rfl dX8_glass_137 ?_
    refine lv_iconst (v := (-1)) hx hb dX8_glass_140 (by decide) ?_
    refine z_ic_ne (tgt := 148) C0 h1 dX8_glass_141 (by decide) (fun h1 => ?_) (fun h1 => ?_)
    · refine lv_iload_n hx hb dX8_glass_148 rfl (lv_at hl 1 rfl) ?_
      refine z_if_ne (tgt := 159) C0 h1 dX8_glass_149 (by decide) (fun h1 => ?_) (fun h1 => ?_)
      · refine lv_aload_n hx hb dX8_glass_159 rfl (lv_at hl 0 rfl) ?_
        refine z_geti C0 hZ hk0 fRX8_489 rfl dX8_glass_160 ?_
        exact J163 (σ k0 61) _ _ _ _  hZ (lv_sub hl [] rfl) h1
      refine lv_aload_n hx hb dX8_glass_152 rfl (lv_at hl 0 rfl) ?_
      refine z_geti C0 hZ hk0 fRX8_492 rfl dX8_glass_153 ?_
      refine lv_goto (tgt := 163) hx hb dX8_glass_156 (by decide) ?_
      exact J163 (σ k0 60) _ _ _ _  hZ (lv_sub hl [] rfl) h1
    refine lv_iconst (v := (-1)) hx hb dX8_glass_144 (by decide) ?_
    refine lv_goto (tgt := 163) hx hb dX8_glass_145 (by decide) ?_
    exact J163 (-1) _ _ _ _  hZ (lv_sub hl [] rfl) h1
  have J36 : ∀ (n : Nat) (x2 : Int32) (σ : zS) (H : Heap) (locs : List Loc) (ls : Array Slot), zZ 1 V A σ s H locs → lv_has ls 4 [(0, .ref (zad V k0)), (1, .int x1), (2, .int x2)] → zit (fun q => FX8_glass_L36 k0 x1 q.1 q.2) n (x2, σ) = some t0 → W p l e (zrm 8 181) s m args below meth c H locs 0 0 Q (F0 m 36 ls []) := by
    intro n
    induction n with
    | zero => intro x2 σ H locs ls  _ _ h1; cases h1
    | succ n ih36 =>
      intro x2 σ H locs ls  hZ hl h1
      obtain ⟨t1, h1, hz1⟩ := zit_1 h1
      have J130 : ∀ (x2 : Int32) (σ : zS) (H : Heap) (locs : List Loc) (ls : Array Slot), zZ 1 V A σ s H locs → lv_has ls 4 [(0, .ref (zad V k0)), (1, .int x1), (2, .int x2)] → FX8_glass_b130 k0 x1 x2 σ = some t1 → W p l e (zrm 8 181) s m args below meth c H locs 0 0 Q (F0 m 130 ls []) := by
        intro x2 σ H locs ls  hZ hl h1
        unfold FX8_glass_b130 at h1
        refine z_iinc (v := 1) C0 h1 hl (fun x2_3 => [(2, .int x2_3), (0, .ref (zad V k0)), (1, .int x1)]) dX8_glass_130 (k := 2) rfl (by decide) (by decide) (fun _ => rfl) (fun x2_3 ls h1 hl => ?_)
        refine lv_goto (tgt := 36) hx hb dX8_glass_133 (by decide) ?_
        exact ih36 x2_3 _ _ _ _  hZ (lv_sub hl [1, 2, 0] rfl) (zback h1 hz1)
      have J57 : ∀ (n : Nat) (x2 : Int32) (x3 : Int32) (σ : zS) (H : Heap) (locs : List Loc) (ls : Array Slot), zZ 1 V A σ s H locs → lv_has ls 4 [(0, .ref (zad V k0)), (1, .int x1), (2, .int x2), (3, .int x3)] → zit (fun q => FX8_glass_L57 k0 x1 x2 q.1 q.2) n (x3, σ) = some t1 → W p l e (zrm 8 181) s m args below meth c H locs 0 0 Q (F0 m 57 ls []) := by
        intro n
        induction n with
        | zero => intro x2 x3 σ H locs ls  _ _ h1; cases h1
        | succ n ih57 =>
          intro x2 x3 σ H locs ls  hZ hl h1
          obtain ⟨t2, h1, hz2⟩ := zit_1 h1
          have J124 : ∀ (x3 : Int32) (σ : zS) (H : Heap) (locs : List Loc) (ls : Array Slot), zZ 1 V A σ s H locs → lv_has ls 4 [(0, .ref (zad V k0)), (1, .int x1), (2, .int x2), (3, .int x3)] → FX8_glass_b124 k0 x1 x2 x3 σ = some t2 → W p l e (zrm 8 181) s m args below meth c H locs 0 0 Q (F0 m 124 ls []) := by
            intro x3 σ H locs ls  hZ hl h1
            unfold FX8_glass_b124 at h1
            refine z_iinc (v := 1) C0 h1 hl (fun x3_4 => [(3, .int x3_4), (0, .ref (zad V k0)), (1, .int x1), (2, .int x2)]) dX8_glass_124 (k := 3) rfl (by decide) (by decide) (fun _ => rfl) (fun x3_4 ls h1 hl => ?_)
            refine lv_goto (tgt := 57) hx hb dX8_glass_127 (by decide) ?_
            exact ih57 x2 x3_4 _ _ _ _  hZ (lv_sub hl [1, 2, 3, 0] rfl) (zback h1 hz2)
          replace h1 : FX8_glass_L57 k0 x1 x2 x3 σ = some t2 := h1
          unfold FX8_glass_L57 at h1
          refine lv_iload_n hx hb dX8_glass_57 rfl (lv_at hl 3 rfl) ?_
          refine lv_aload_n hx hb dX8_glass_58 rfl (lv_at hl 0 rfl) ?_
          refine z_getr C0 hZ hk0 fRX8_40 rfl dX8_glass_59 ?_
          refine lv_iconst (v := 0) hx hb dX8_glass_62 (by decide) ?_
          refine z_iald C0 hZ h1 (zkt8_3 hk0) dX8_glass_63 (fun h1 => ?_)
          refine z_ic_ge (tgt := 130) C0 h1 dX8_glass_64 (by decide) (fun h1 => ?_) (fun h1 => ?_)
          · have h1 := zout h1 hz2
            exact J130 x2 _ _ _ _  hZ (lv_sub hl [0, 1, 2] rfl) h1
          refine lv_iload_n hx hb dX8_glass_67 rfl (lv_at hl 2 rfl) ?_
          refine lv_iload_n hx hb dX8_glass_68 rfl (lv_at hl 3 rfl) ?_
          refine z_ic_eq (tgt := 124) C0 h1 dX8_glass_69 (by decide) (fun h1 => ?_) (fun h1 => ?_)
          · exact J124 x3 _ _ _ _  hZ (lv_sub hl [0, 1, 2, 3] rfl) h1
          refine lv_aload_n hx hb dX8_glass_72 rfl (lv_at hl 0 rfl) ?_
          refine z_getr C0 hZ hk0 fRX8_52 rfl dX8_glass_73 ?_
          refine lv_iload_n hx hb dX8_glass_76 rfl (lv_at hl 2 rfl) ?_
          refine z_iald C0 hZ h1 (zkt8_7 hk0) dX8_glass_77 (fun h1 => ?_)
          refine lv_iload_n hx hb dX8_glass_78 rfl (lv_at hl 3 rfl) ?_
          refine z_cSi (As := [.int (σ (k0 + 7) (Int32.toNatClampNeg x2)), .int x3]) (rest := []) C0 hZ h1 (fun _ hf => kX8_isOf l  hf) mRX8_383 sX8_isOf rfl rfl hl.1 (Nat.le_of_ble_eq_true rfl) ⟨Nat.le_of_ble_eq_true rfl, Nat.le_of_ble_eq_true rfl⟩ dX8_glass_79 ⟨Nat.le_of_ble_eq_true rfl, Nat.le_of_ble_eq_true rfl⟩ (fun r_6 σ_5 H locs h1 hZ => ?_)
          refine z_if_eq (tgt := 88) C0 h1 dX8_glass_82 (by decide) (fun h1 => ?_) (fun h1 => ?_)
          · refine lv_aload_n hx hb dX8_glass_88 rfl (lv_at hl 0 rfl) ?_
            refine z_getr C0 hZ hk0 fRX8_52 rfl dX8_glass_89 ?_
            refine lv_iload_n hx hb dX8_glass_92 rfl (lv_at hl 2 rfl) ?_
            refine lv_dup2_11 hx hb dX8_glass_93 rfl rfl ?_
            refine z_iald C0 hZ h1 (zkt8_7 hk0) dX8_glass_94 (fun h1 => ?_)
            refine lv_iconst (v := 1) hx hb dX8_glass_95 (by decide) ?_
            refine lv_iload_n hx hb dX8_glass_96 rfl (lv_at hl 3 rfl) ?_
            refine lv_ishl hx hb dX8_glass_97 ?_
            refine lv_ior hx hb dX8_glass_98 ?_
            refine z_iast C0 hZ h1 (zkt8_7 hk0) dX8_glass_99 (fun σ_7 H locs h1 hZ => ?_)
            refine lv_aload_n hx hb dX8_glass_100 rfl (lv_at hl 0 rfl) ?_
            refine lv_bipush (v := 10) hx hb dX8_glass_101 (by decide) ?_
            refine lv_iload_n hx hb dX8_glass_103 rfl (lv_at hl 2 rfl) ?_
            refine lv_imul hx hb dX8_glass_104 ?_
            refine lv_iload_n hx hb dX8_glass_105 rfl (lv_at hl 3 rfl) ?_
            refine lv_iadd hx hb dX8_glass_106 ?_
            refine z_cVv (As := [.int ((10 * x2) + x3)]) (rest := []) C0 hZ h1 (fun _ hf => kX8_ask l hk0 hf) mRX8_495 vX8_ask hk0 rfl rfl hl.1 (Nat.le_of_ble_eq_true rfl) ⟨Nat.le_of_ble_eq_true rfl, Nat.le_of_ble_eq_true rfl⟩ dX8_glass_107 ⟨Nat.le_of_ble_eq_true rfl, Nat.le_of_ble_eq_true rfl⟩ (fun _ σ_8 H locs h1 hZ => ?_)
            refine lv_aload_n hx hb dX8_glass_110 rfl (lv_at hl 0 rfl) ?_
            refine z_getr C0 hZ hk0 fRX8_52 rfl dX8_glass_111 ?_
            refine lv_iload_n hx hb dX8_glass_114 rfl (lv_at hl 2 rfl) ?_
            refine lv_dup2_11 hx hb dX8_glass_115 rfl rfl ?_
            refine z_iald C0 hZ h1 (zkt8_7 hk0) dX8_glass_116 (fun h1 => ?_)
            refine lv_iconst (v := 1) hx hb dX8_glass_117 (by decide) ?_
            refine lv_iload_n hx hb dX8_glass_118 rfl (lv_at hl 3 rfl) ?_
            refine lv_ishl hx hb dX8_glass_119 ?_
            refine lv_iconst (v := (-1)) hx hb dX8_glass_120 (by decide) ?_
            refine lv_ixor hx hb dX8_glass_121 ?_
            refine lv_iand hx hb dX8_glass_122 ?_
            refine z_iast C0 hZ h1 (zkt8_7 hk0) dX8_glass_123 (fun σ_10 H locs h1 hZ => ?_)
            exact J124 x3 _ _ _ _  hZ (lv_sub hl [0, 1, 2, 3] rfl) h1
          refine lv_goto (tgt := 124) hx hb dX8_glass_85 (by decide) ?_
          exact J124 x3 _ _ _ _  hZ (lv_sub hl [0, 1, 2, 3] rfl) h1
      replace h1 : FX8_glass_L36 k0 x1 x2 σ = some t1 := h1
      unfold FX8_glass_L36 at h1
      refine lv_iload_n hx hb dX8_glass_36 rfl (lv_at hl 2 rfl) ?_
      refine lv_aload_n hx hb dX8_glass_37 rfl (lv_at hl 0 rfl) ?_
      refine z_getr C0 hZ hk0 fRX8_40 rfl dX8_glass_38 ?_
      refine lv_iconst (v := 0) hx hb dX8_glass_41 (by decide) ?_
      refine z_iald C0 hZ h1 (zkt8_3 hk0) dX8_glass_42 (fun h1 => ?_)
      refine z_ic_ge (tgt := 136) C0 h1 dX8_glass_43 (by decide) (fun h1 => ?_) (fun h1 => ?_)
      · have h1 := zout h1 hz1
        exact J136  _ _ _ _  hZ (lv_sub hl [0, 1] rfl) h1
      refine lv_aload_n hx hb dX8_glass_46 rfl (lv_at hl 0 rfl) ?_
      refine z_geti C0 hZ hk0 fRX8_332 rfl dX8_glass_47 ?_
      refine lv_bipush (v := 6) hx hb dX8_glass_50 (by decide) ?_
      refine z_ic_ge (tgt := 136) C0 h1 dX8_glass_52 (by decide) (fun h1 => ?_) (fun h1 => ?_)
      · have h1 := zout h1 hz1
        exact J136  _ _ _ _  hZ (lv_sub hl [0, 1] rfl) h1
      refine lv_iconst (v := 0) hx hb dX8_glass_55 (by decide) ?_
      refine z_istore_n C0 h1 hl (fun x3_11 => [(3, .int x3_11), (0, .ref (zad V k0)), (1, .int x1), (2, .int x2)]) dX8_glass_56 rfl (by decide) (fun _ => rfl) (fun x3_11 ls h1 hl => ?_)
      obtain ⟨n, h1⟩ := zlp_iff.mp h1
      exact J57 n x2 x3_11 _ _ _ _  hZ (lv_sub hl [1, 2, 3, 0] rfl) h1
  refine lv_aload_n hx hb dX8_glass_0 rfl (lv_at hl 0 rfl) ?_
  refine lv_iconst (v := 0) hx hb dX8_glass_1 (by decide) ?_
  refine z_puti C0 hZ h1 hk0 fRX8_159 rfl tyX8_ok nmX8 rfl rfl rfl dX8_glass_2 (fun σ_12 H locs h1 hZ => ?_)
  refine lv_iload_n hx hb dX8_glass_5 rfl (lv_at hl 1 rfl) ?_
  refine z_if_lt (tgt := 14) C0 h1 dX8_glass_6 (by decide) (fun h1 => ?_) (fun h1 => ?_)
  · exact J14  _ _ _ _  hZ (lv_sub hl [0] rfl) h1
  refine lv_iload_n hx hb dX8_glass_9 rfl (lv_at hl 1 rfl) ?_
  refine lv_iconst (v := 1) hx hb dX8_glass_10 (by decide) ?_
  refine z_ic_le (tgt := 20) C0 h1 dX8_glass_11 (by decide) (fun h1 => ?_) (fun h1 => ?_)
  · refine lv_aload_n hx hb dX8_glass_20 rfl (lv_at hl 0 rfl) ?_
    refine z_cVv (As := []) (rest := []) C0 hZ h1 (fun _ hf => kX8_set l hk0 hf) mRX8_469 vX8_set hk0 rfl rfl hl.1 (Nat.le_of_ble_eq_true rfl) ⟨Nat.le_of_ble_eq_true rfl, Nat.le_of_ble_eq_true rfl⟩ dX8_glass_21 ⟨Nat.le_of_ble_eq_true rfl, Nat.le_of_ble_eq_true rfl⟩ (fun _ σ_13 H locs h1 hZ => ?_)
    refine lv_aload_n hx hb dX8_glass_24 rfl (lv_at hl 0 rfl) ?_
    refine lv_iconst (v := 0) hx hb dX8_glass_25 (by decide) ?_
    refine z_puti C0 hZ h1 hk0 fRX8_486 rfl tyX8_ok nmX8 rfl rfl rfl dX8_glass_26 (fun σ_15 H locs h1 hZ => ?_)
    refine lv_aload_n hx hb dX8_glass_29 rfl (lv_at hl 0 rfl) ?_
    refine lv_iconst (v := (-1)) hx hb dX8_glass_30 (by decide) ?_
    refine z_cVv (As := [.int (-1)]) (rest := []) C0 hZ h1 (fun _ hf => kX8_ask l hk0 hf) mRX8_495 vX8_ask hk0 rfl rfl hl.1 (Nat.le_of_ble_eq_true rfl) ⟨Nat.le_of_ble_eq_true rfl, Nat.le_of_ble_eq_true rfl⟩ dX8_glass_31 ⟨Nat.le_of_ble_eq_true rfl, Nat.le_of_ble_eq_true rfl⟩ (fun _ σ_16 H locs h1 hZ => ?_)
    refine lv_iconst (v := 0) hx hb dX8_glass_34 (by decide) ?_
    refine z_istore_n C0 h1 hl (fun x2_18 => [(2, .int x2_18), (0, .ref (zad V k0)), (1, .int x1)]) dX8_glass_35 rfl (by decide) (fun _ => rfl) (fun x2_18 ls h1 hl => ?_)
    obtain ⟨n, h1⟩ := zlp_iff.mp h1
    exact J36 n x2_18 _ _ _ _  hZ (lv_sub hl [1, 2, 0] rfl) h1
  exact J14  _ _ _ _  hZ (lv_sub hl [0] rfl) h1
