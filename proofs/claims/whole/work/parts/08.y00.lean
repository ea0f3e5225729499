noncomputable def FX8_thrown (k0 : Nat) (σ : zS) : Option (Int32 × zS) := some ((σ k0 2), σ)
set_option maxHeartbeats 4000000 in
set_option maxRecDepth 100000 in
theorem kX8_thrown (l : Launch) {V : zV} {σ : zS} {t0 : Int32 × zS} {k0 : Nat} (hk0 : kd 1 k0 = 8) (h1 : FX8_thrown k0 σ = some t0) : zMi l yX8_thrown cX8_thrown 1 (some .int) 0 0 1 V σ t0 [.ref (zad V k0)] := by
  refine zMi_of (by decide) (Nat.le_of_ble_eq_true rfl) ?_
  intro p e s m below meth c A C0 hr hlk hZ ls hl
  generalize ([.ref (zad V k0)] : List Value).toArray = args at C0 ⊢
  obtain ⟨Q, hQ⟩ : ∃ Q, Q = MQ below (zQi 1 V t0 A) args s 0 0 A := ⟨_, rfl⟩
  rw [← hQ]
  have hx := C0.1
  have hb := C0.2.1
  have hl : lv_has ls 1 [(0, .ref (zad V k0))] := hl
  unfold FX8_thrown at h1
  refine lv_aload_n hx hb dX8_thrown_0 rfl (lv_at hl 0 rfl) ?_
  refine z_geti C0 hZ hk0 fRX8_159 rfl dX8_thrown_1 ?_
  rw [hQ]; exact z_iret C0 hr hlk hZ h1 dX8_thrown_4
noncomputable def FX8_fail (k0 : Nat) (x1 : Int32) (σ : zS) : Option (Int32 × zS) := zlet (zup σ k0 2 x1) (fun σ_1 => some (0, σ_1))
set_option maxHeartbeats 4000000 in
set_option maxRecDepth 100000 in
theorem kX8_fail (l : Launch) {V : zV} {σ : zS} {t0 : Int32 × zS} {k0 : Nat} {x1 : Int32} (hk0 : kd 1 k0 = 8) (h1 : FX8_fail k0 x1 σ = some t0) : zMi l yX8_fail cX8_fail 2 (some .int) 0 0 1 V σ t0 [.ref (zad V k0), .int x1] := by
  refine zMi_of (by decide) (Nat.le_of_ble_eq_true rfl) ?_
  intro p e s m below meth c A C0 hr hlk hZ ls hl
  generalize ([.ref (zad V k0), .int x1] : List Value).toArray = args at C0 ⊢
  obtain ⟨Q, hQ⟩ : ∃ Q, Q = MQ below (zQi 1 V t0 A) args s 0 0 A := ⟨_, rfl⟩
  rw [← hQ]
  have hx := C0.1
  have hb := C0.2.1
  have hl : lv_has ls 2 [(0, .ref (zad V k0)), (1, .int x1)] := hl
  unfold FX8_fail at h1
  refine lv_aload_n hx hb dX8_fail_0 rfl (lv_at hl 0 rfl) ?_
  refine lv_iload_n hx hb dX8_fail_1 rfl (lv_at hl 1 rfl) ?_
  refine z_puti C0 hZ h1 hk0 fRX8_159 rfl tyX8_ok nmX8 rfl rfl rfl dX8_fail_2 (fun σ_1 H locs h1 hZ => ?_)
  refine lv_iconst (v := 0) hx hb dX8_fail_5 (by decide) ?_
  rw [hQ]; exact z_iret C0 hr hlk hZ h1 dX8_fail_6
noncomputable def FX8_isIn_b18 (y0 : Int32) (σ : zS) : Option (Int32 × zS) := zgd (y0 == 0 || y0 == 1) (some (y0, σ))
noncomputable def FX8_isIn_b17  (σ : zS) : Option (Int32 × zS) := FX8_isIn_b18 0 σ
noncomputable def FX8_isIn (z0 : Int64) (z2 : Int64) (z4 : Int64) (σ : zS) : Option (Int32 × zS) := if (lg_cmp z0 z2) < 0 then FX8_isIn_b17  σ else if 0 < (lg_cmp z0 z4) then FX8_isIn_b17  σ else FX8_isIn_b18 1 σ
set_option maxHeartbeats 4000000 in
set_option maxRecDepth 100000 in
theorem kX8_isIn (l : Launch) {V : zV} {σ : zS} {t0 : Int32 × zS} {z0 : Int64} {z2 : Int64} {z4 : Int64}  (h1 : FX8_isIn z0 z2 z4 σ = some t0) : zMi l yX8_isIn cX8_isIn 6 (some .boolean) 0 0 1 V σ t0 [.long z0, .long z2, .long z4] := by
  refine zMi_of (by decide) (Nat.le_of_ble_eq_true rfl) ?_
  intro p e s m below meth c A C0 hr hlk hZ ls hl
  generalize ([.long z0, .long z2, .long z4] : List Value).toArray = args at C0 ⊢
  obtain ⟨Q, hQ⟩ : ∃ Q, Q = MQ below (zQi 1 V t0 A) args s 0 0 A := ⟨_, rfl⟩
  rw [← hQ]
  have hx := C0.1
  have hb := C0.2.1
  have hl : lv_has ls 6 [(0, .long z0), (2, .long z2), (4, .long z4)] := hl
  unfold FX8_isIn at h1
  have J18 : ∀ (y0 : Int32) (σ : zS) (H : Heap) (locs : List Loc) (ls : Array Slot), zZ 1 V A σ s H locs → lv_has ls 6 [] → FX8_isIn_b18 y0 σ = some t0 → W p l e (zrm 0 0) s m args below meth c H locs 0 0 Q (F0 m 18 ls [.int y0]) := by
    intro y0 σ H locs ls  hZ hl h1
    unfold FX8_isIn_b18 at h1
    rw [hQ]; exact z_zret C0 hr hlk hZ h1 dX8_isIn_18
  have J17 : ∀  (σ : zS) (H : Heap) (locs : List Loc) (ls : Array Slot), zZ 1 V A σ s H locs → lv_has ls 6 [] → FX8_isIn_b17  σ = some t0 → W p l e (zrm 0 0) s m args below meth c H locs 0 0 Q (F0 m 17 ls []) := by
    intro  σ H locs ls  hZ hl h1
    unfold FX8_isIn_b17 at h1
    refine lv_iconst (v := 0) hx hb dX8_isIn_17 (by decide) ?_
    exact J18 0 _ _ _ _  hZ (lv_sub hl [] rfl) h1
  refine lv_lload_n hx hb dX8_isIn_0 rfl (lv_at hl 0 rfl) ?_
  refine lv_lload_n hx hb dX8_isIn_1 rfl (lv_at hl 1 rfl) ?_
  refine W.lcmp hx hb dX8_isIn_2 ?_
  refine z_if_lt (tgt := 17) C0 h1 dX8_isIn_3 (by decide) (fun h1 => ?_) (fun h1 => ?_)
  · exact J17  _ _ _ _  hZ (lv_sub hl [] rfl) h1
  refine lv_lload_n hx hb dX8_isIn_6 rfl (lv_at hl 0 rfl) ?_
  refine lv_lload hx hb dX8_isIn_7 (lv_at hl 2 rfl) ?_
  refine W.lcmp hx hb dX8_isIn_9 ?_
  refine z_if_gt (tgt := 17) C0 h1 dX8_isIn_10 (by decide) (fun h1 => ?_) (fun h1 => ?_)
  · exact J17  _ _ _ _  hZ (lv_sub hl [] rfl) h1
  refine lv_iconst (v := 1) hx hb dX8_isIn_13 (by decide) ?_
  refine lv_goto (tgt := 18) hx hb dX8_isIn_14 (by decide) ?_
  exact J18 1 _ _ _ _  hZ (lv_sub hl [] rfl) h1
noncomputable def FX8_isAisle (k0 : Nat) (x1 : Int32) (σ : zS) : Option (Int32 × zS) := zin (ln 1 (k0 + 3)) 0 (zbd (FX8_isIn (Int32.toInt64 x1) 0 (Int32.toInt64 ((σ (k0 + 3) (Int32.toNatClampNeg 0)) - 1)) σ) (fun r_2 σ_1 => zgd (r_2 == 0 || r_2 == 1) (some (r_2, σ_1))))
set_option maxHeartbeats 4000000 in
set_option maxRecDepth 100000 in
theorem kX8_isAisle (l : Launch) {V : zV} {σ : zS} {t0 : Int32 × zS} {k0 : Nat} {x1 : Int32} (hk0 : kd 1 k0 = 8) (h1 : FX8_isAisle k0 x1 σ = some t0) : zMi l yX8_isAisle cX8_isAisle 2 (some .boolean) 1 25 1 V σ t0 [.ref (zad V k0), .int x1] := by
  refine zMi_of (by decide) (Nat.le_of_ble_eq_true rfl) ?_
  intro p e s m below meth c A C0 hr hlk hZ ls hl
  generalize ([.ref (zad V k0), .int x1] : List Value).toArray = args at C0 ⊢
  obtain ⟨Q, hQ⟩ : ∃ Q, Q = MQ below (zQi 1 V t0 A) args s 0 0 A := ⟨_, rfl⟩
  rw [← hQ]
  have hx := C0.1
  have hb := C0.2.1
  have hl : lv_has ls 2 [(0, .ref (zad V k0)), (1, .int x1)] := hl
  unfold FX8_isAisle at h1
  refine lv_iload_n hx hb dX8_isAisle_0 rfl (lv_at hl 1 rfl) ?_
  refine lv_i2l (v := (Int32.toInt64 x1)) hx hb dX8_isAisle_1 rfl ?_
  refine lv_lconst (v := 0) hx hb dX8_isAisle_2 (by decide) ?_
  refine lv_aload_n hx hb dX8_isAisle_3 rfl (lv_at hl 0 rfl) ?_
  refine z_getr C0 hZ hk0 fRX8_40 rfl dX8_isAisle_4 ?_
  refine lv_iconst (v := 0) hx hb dX8_isAisle_7 (by decide) ?_
  refine z_iald C0 hZ h1 (zkt8_3 hk0) dX8_isAisle_8 (fun h1 => ?_)
  refine lv_iconst (v := 1) hx hb dX8_isAisle_9 (by decide) ?_
  refine lv_isub hx hb dX8_isAisle_10 ?_
  refine lv_i2l (v := (Int32.toInt64 ((σ (k0 + 3) (Int32.toNatClampNeg 0)) - 1))) hx hb dX8_isAisle_11 rfl ?_
  refine z_cSi (As := [.long (Int32.toInt64 x1), .long 0, .long (Int32.toInt64 ((σ (k0 + 3) (Int32.toNatClampNeg 0)) - 1))]) (rest := []) C0 hZ h1 (fun _ hf => kX8_isIn l  hf) mRX8_162 sX8_isIn rfl rfl hl.1 (Nat.le_of_ble_eq_true rfl) ⟨Nat.le_of_ble_eq_true rfl, Nat.le_of_ble_eq_true rfl⟩ dX8_isAisle_12 ⟨Nat.le_of_ble_eq_true rfl, Nat.le_of_ble_eq_true rfl⟩ (fun r_2 σ_1 H locs h1 hZ => ?_)
  rw [hQ]; exact z_zret C0 hr hlk hZ h1 dX8_isAisle_15
noncomputable def FX8_isPerson (k0 : Nat) (x1 : Int32) (σ : zS) : Option (Int32 × zS) := zin (ln 1 (k0 + 3)) 3 (zbd (FX8_isIn (Int32.toInt64 x1) 0 (Int32.toInt64 ((σ (k0 + 3) (Int32.toNatClampNeg 3)) - 1)) σ) (fun r_2 σ_1 => zgd (r_2 == 0 || r_2 == 1) (some (r_2, σ_1))))
set_option maxHeartbeats 4000000 in
set_option maxRecDepth 100000 in
theorem kX8_isPerson (l : Launch) {V : zV} {σ : zS} {t0 : Int32 × zS} {k0 : Nat} {x1 : Int32} (hk0 : kd 1 k0 = 8) (h1 : FX8_isPerson k0 x1 σ = some t0) : zMi l yX8_isPerson cX8_isPerson 2 (some .boolean) 1 25 1 V σ t0 [.ref (zad V k0), .int x1] := by
  refine zMi_of (by decide) (Nat.le_of_ble_eq_true rfl) ?_
  intro p e s m below meth c A C0 hr hlk hZ ls hl
  generalize ([.ref (zad V k0), .int x1] : List Value).toArray = args at C0 ⊢
  obtain ⟨Q, hQ⟩ : ∃ Q, Q = MQ below (zQi 1 V t0 A) args s 0 0 A := ⟨_, rfl⟩
  rw [← hQ]
  have hx := C0.1
  have hb := C0.2.1
  have hl : lv_has ls 2 [(0, .ref (zad V k0)), (1, .int x1)] := hl
  unfold FX8_isPerson at h1
  refine lv_iload_n hx hb dX8_isPerson_0 rfl (lv_at hl 1 rfl) ?_
  refine lv_i2l (v := (Int32.toInt64 x1)) hx hb dX8_isPerson_1 rfl ?_
  refine lv_lconst (v := 0) hx hb dX8_isPerson_2 (by decide) ?_
  refine lv_aload_n hx hb dX8_isPerson_3 rfl (lv_at hl 0 rfl) ?_
  refine z_getr C0 hZ hk0 fRX8_40 rfl dX8_isPerson_4 ?_
  refine lv_iconst (v := 3) hx hb dX8_isPerson_7 (by decide) ?_
  refine z_iald C0 hZ h1 (zkt8_3 hk0) dX8_isPerson_8 (fun h1 => ?_)
  refine lv_iconst (v := 1) hx hb dX8_isPerson_9 (by decide) ?_
  refine lv_isub hx hb dX8_isPerson_10 ?_
  refine lv_i2l (v := (Int32.toInt64 ((σ (k0 + 3) (Int32.toNatClampNeg 3)) - 1))) hx hb dX8_isPerson_11 rfl ?_
  refine z_cSi (As := [.long (Int32.toInt64 x1), .long 0, .long (Int32.toInt64 ((σ (k0 + 3) (Int32.toNatClampNeg 3)) - 1))]) (rest := []) C0 hZ h1 (fun _ hf => kX8_isIn l  hf) mRX8_162 sX8_isIn rfl rfl hl.1 (Nat.le_of_ble_eq_true rfl) ⟨Nat.le_of_ble_eq_true rfl, Nat.le_of_ble_eq_true rfl⟩ dX8_isPerson_12 ⟨Nat.le_of_ble_eq_true rfl, Nat.le_of_ble_eq_true rfl⟩ (fun r_2 σ_1 H locs h1 hZ => ?_)
  rw [hQ]; exact z_zret C0 hr hlk hZ h1 dX8_isPerson_15
noncomputable def FX8_isMinute (x0 : Int32) (σ : zS) : Option (Int32 × zS) := zbd (FX8_isIn (Int32.toInt64 x0) 1 60 σ) (fun r_2 σ_1 => zgd (r_2 == 0 || r_2 == 1) (some (r_2, σ_1)))
set_option maxHeartbeats 4000000 in
set_option maxRecDepth 100000 in
theorem kX8_isMinute (l : Launch) {V : zV} {σ : zS} {t0 : Int32 × zS} {x0 : Int32}  (h1 : FX8_isMinute x0 σ = some t0) : zMi l yX8_isMinute cX8_isMinute 1 (some .boolean) 1 25 1 V σ t0 [.int x0] := by
  refine zMi_of (by decide) (Nat.le_of_ble_eq_true rfl) ?_
  intro p e s m below meth c A C0 hr hlk hZ ls hl
  generalize ([.int x0] : List Value).toArray = args at C0 ⊢
  obtain ⟨Q, hQ⟩ : ∃ Q, Q = MQ below (zQi 1 V t0 A) args s 0 0 A := ⟨_, rfl⟩
  rw [← hQ]
  have hx := C0.1
  have hb := C0.2.1
  have hl : lv_has ls 1 [(0, .int x0)] := hl
  unfold FX8_isMinute at h1
  refine lv_iload_n hx hb dX8_isMinute_0 rfl (lv_at hl 0 rfl) ?_
  refine lv_i2l (v := (Int32.toInt64 x0)) hx hb dX8_isMinute_1 rfl ?_
  refine lv_lconst (v := 1) hx hb dX8_isMinute_2 (by decide) ?_
  refine lv_ldc2 (v := 60) hx hb C0.2.2.2.1 (C0.2.2.2.2 _ (zmem 1961 (by decide +kernel) (by decide +kernel))) dX8_isMinute_3 ?_
  refine z_cSi (As := [.long (Int32.toInt64 x0), .long 1, .long 60]) (rest := []) C0 hZ h1 (fun _ hf => kX8_isIn l  hf) mRX8_162 sX8_isIn rfl rfl hl.1 (Nat.le_of_ble_eq_true rfl) ⟨Nat.le_of_ble_eq_true rfl, Nat.le_of_ble_eq_true rfl⟩ dX8_isMinute_6 ⟨Nat.le_of_ble_eq_true rfl, Nat.le_of_ble_eq_true rfl⟩ (fun r_2 σ_1 H locs h1 hZ => ?_)
  rw [hQ]; exact z_zret C0 hr hlk hZ h1 dX8_isMinute_9
noncomputable def FX8_feed_b120 (k0 : Nat) (σ : zS) : Option (Int32 × zS) := some ((σ k0 18), σ)
noncomputable def FX8_feed_b76 (k0 : Nat) (x1 : Int32) (x2 : Int32) (x3 : Int32) (x4 : Int32) (x5 : Int32) (x6 : Int32) (y0 : Int32) (σ : zS) : Option ((Int32 × zS) ⊕ (Int32 × zS)) := zlet y0 (fun x7_1 => zgd (4 != 0) (zin (ln 1 (k0 + 17)) (σ k0 18) (zlet (zup σ (k0 + 17) (Int32.toNatClampNeg (σ k0 18)) ((x7_1 >>> ((24 - (8 * (x6 - x6 / 4 * 4))) &&& 31)) &&& 255)) (fun σ_2 => zlet (zup σ_2 k0 18 ((σ_2 k0 18) + 1)) (fun σ_3 => zlet (x6 + 1) (fun x6_4 => some (.inl (x6_4, σ_3))))))))
noncomputable def FX8_feed_L23 (k0 : Nat) (x1 : Int32) (x2 : Int32) (x3 : Int32) (x4 : Int32) (x5 : Int32) (x6 : Int32) (σ : zS) : Option ((Int32 × zS) ⊕ (Int32 × zS)) := if 20 ≤ x6 then zinr (FX8_feed_b120 k0 σ) else if 4 ≤ x6 then if 8 ≤ x6 then if 12 ≤ x6 then if 16 ≤ x6 then FX8_feed_b76 k0 x1 x2 x3 x4 x5 x6 x5 σ else FX8_feed_b76 k0 x1 x2 x3 x4 x5 x6 x4 σ else FX8_feed_b76 k0 x1 x2 x3 x4 x5 x6 x3 σ else FX8_feed_b76 k0 x1 x2 x3 x4 x5 x6 x2 σ else FX8_feed_b76 k0 x1 x2 x3 x4 x5 x6 x1 σ
noncomputable def FX8_feed (k0 : Nat) (x1 : Int32) (x2 : Int32) (x3 : Int32) (x4 : Int32) (x5 : Int32) (σ : zS) : Option (Int32 × zS) := zlet (zup σ k0 2 0) (fun σ_5 => if ((σ_5 k0 18) + 20) ≤ 700 then zlet 0 (fun x6_6 => zlp (fun q => FX8_feed_L23 k0 x1 x2 x3 x4 x5 q.1 q.2) (x6_6, σ_5)) else some ((-1), σ_5))
set_option maxHeartbeats 4000000 in
set_option maxRecDepth 100000 in
theorem kX8_feed (l : Launch) {V : zV} {σ : zS} {t0 : Int32 × zS} {k0 : Nat} {x1 : Int32} {x2 : Int32} {x3 : Int32} {x4 : Int32} {x5 : Int32} (hk0 : kd 1 k0 = 8) (h1 : FX8_feed k0 x1 x2 x3 x4 x5 σ = some t0) : zMi l yX8_feed cX8_feed 8 (some .int) 0 0 1 V σ t0 [.ref (zad V k0), .int x1, .int x2, .int x3, .int x4, .int x5] := by
  refine zMi_of (by decide) (Nat.le_of_ble_eq_true rfl) ?_
  intro p e s m below meth c A C0 hr hlk hZ ls hl
  generalize ([.ref (zad V k0), .int x1, .int x2, .int x3, .int x4, .int x5] : List Value).toArray = args at C0 ⊢
  obtain ⟨Q, hQ⟩ : ∃ Q, Q = MQ below (zQi 1 V t0 A) args s 0 0 A := ⟨_, rfl⟩
  rw [← hQ]
  have hx := C0.1
  have hb := C0.2.1
  have hl : lv_has ls 8 [(0, .ref (zad V k0)), (1, .int x1), (2, .int x2), (3, .int x3), (4, .int x4), (5, .int x5)] := hl
  unfold FX8_feed at h1
  have J120 : ∀  (σ : zS) (H : Heap) (locs : List Loc) (ls : Array Slot), zZ 1 V A σ s H locs → lv_has ls 8 [(0, .ref (zad V k0))] → FX8_feed_b120 k0 σ = some t0 → W p l e (zrm 0 0) s m args below meth c H locs 0 0 Q (F0 m 120 ls []) := by
    intro  σ H locs ls  hZ hl h1
    unfold FX8_feed_b120 at h1
    refine lv_aload_n hx hb dX8_feed_120 rfl (lv_at hl 0 rfl) ?_
    refine z_geti C0 hZ hk0 fRX8_168 rfl dX8_feed_121 ?_
    rw [hQ]; exact z_iret C0 hr hlk hZ h1 dX8_feed_124
  have J23 : ∀ (n : Nat) (x6 : Int32) (σ : zS) (H : Heap) (locs : List Loc) (ls : Array Slot), zZ 1 V A σ s H locs → lv_has ls 8 [(0, .ref (zad V k0)), (1, .int x1), (2, .int x2), (3, .int x3), (4, .int x4), (5, .int x5), (6, .int x6)] → zit (fun q => FX8_feed_L23 k0 x1 x2 x3 x4 x5 q.1 q.2) n (x6, σ) = some t0 → W p l e (zrm 0 0) s m args below meth c H locs 0 0 Q (F0 m 23 ls []) := by
    intro n
    induction n with
    | zero => intro x6 σ H locs ls  _ _ h1; cases h1
    | succ n ih23 =>
      intro x6 σ H locs ls  hZ hl h1
      obtain ⟨t1, h1, hz1⟩ := zit_1 h1
      have J76 : ∀ (x6 : Int32) (y0 : Int32) (σ : zS) (H : Heap) (locs : List Loc) (ls : Array Slot), zZ 1 V A σ s H locs → lv_has ls 8 [(0, .ref (zad V k0)), (1, .int x1), (2, .int x2), (3, .int x3), (4, .int x4), (5, .int x5), (6, .int x6)] → FX8_feed_b76 k0 x1 x2 x3 x4 x5 x6 y0 σ = some t1 → W p l e (zrm 0 0) s m args below meth c H locs 0 0 Q (F0 m 76 ls [.int y0]) := by
        intro x6 y0 σ H locs ls  hZ hl h1
        unfold FX8_feed_b76 at h1
        refine z_istore C0 h1 hl (fun x7_1 => [(7, .int x7_1), (0, .ref (zad V k0)), (1, .int x1), (2, .int x2), (3, .int x3), (4, .int x4), (5, .int x5), (6, .int x6)]) dX8_feed_76 (by decide) (fun _ => rfl) (fun x7_1 ls h1 hl => ?_)
        refine lv_aload_n hx hb dX8_feed_78 rfl (lv_at hl 1 rfl) ?_
        refine z_getr C0 hZ hk0 fRX8_81 rfl dX8_feed_79 ?_
        refine lv_aload_n hx hb dX8_feed_82 rfl (lv_at hl 1 rfl) ?_
        refine z_geti C0 hZ hk0 fRX8_168 rfl dX8_feed_83 ?_
        refine lv_iload hx hb dX8_feed_86 (lv_at hl 0 rfl) ?_
        refine lv_bipush (v := 24) hx hb dX8_feed_88 (by decide) ?_
        refine lv_bipush (v := 8) hx hb dX8_feed_90 (by decide) ?_
        refine lv_iload hx hb dX8_feed_92 (lv_at hl 7 rfl) ?_
        refine lv_iconst (v := 4) hx hb dX8_feed_94 (by decide) ?_
        refine z_irem C0 h1 dX8_feed_95 (fun h1 => ?_)
        refine lv_imul hx hb dX8_feed_96 ?_
        refine lv_isub hx hb dX8_feed_97 ?_
        refine lv_ishr hx hb dX8_feed_98 ?_
        refine lv_sipush (v := 255) hx hb dX8_feed_99 (by decide) ?_
        refine lv_iand hx hb dX8_feed_102 ?_
        refine z_iast C0 hZ h1 (zkt8_17 hk0) dX8_feed_103 (fun σ_2 H locs h1 hZ => ?_)
        refine lv_aload_n hx hb dX8_feed_104 rfl (lv_at hl 1 rfl) ?_
        refine lv_dup hx hb dX8_feed_105 rfl ?_
        refine z_geti C0 hZ hk0 fRX8_168 rfl dX8_feed_106 ?_
        refine lv_iconst (v := 1) hx hb dX8_feed_109 (by decide) ?_
        refine lv_iadd hx hb dX8_feed_110 ?_
        refine z_puti C0 hZ h1 hk0 fRX8_168 rfl tyX8_ok nmX8 rfl rfl rfl dX8_feed_111 (fun σ_3 H locs h1 hZ => ?_)
        refine z_iinc (v := 1) C0 h1 hl (fun x6_4 => [(6, .int x6_4), (7, .int x7_1), (0, .ref (zad V k0)), (1, .int x1), (2, .int x2), (3, .int x3), (4, .int x4), (5, .int x5)]) dX8_feed_114 (k := 7) rfl (by decide) (by decide) (fun _ => rfl) (fun x6_4 ls h1 hl => ?_)
        refine lv_goto (tgt := 23) hx hb dX8_feed_117 (by decide) ?_
        exact ih23 x6_4 _ _ _ _  hZ (lv_sub hl [2, 3, 4, 5, 6, 7, 0] rfl) (zback h1 hz1)
      replace h1 : FX8_feed_L23 k0 x1 x2 x3 x4 x5 x6 σ = some t1 := h1
      unfold FX8_feed_L23 at h1
      refine lv_iload hx hb dX8_feed_23 (lv_at hl 6 rfl) ?_
      refine lv_bipush (v := 20) hx hb dX8_feed_25 (by decide) ?_
      refine z_ic_ge (tgt := 120) C0 h1 dX8_feed_27 (by decide) (fun h1 => ?_) (fun h1 => ?_)
      · have h1 := zout h1 hz1
        exact J120  _ _ _ _  hZ (lv_sub hl [0] rfl) h1
      refine lv_iload hx hb dX8_feed_30 (lv_at hl 6 rfl) ?_
      refine lv_iconst (v := 4) hx hb dX8_feed_32 (by decide) ?_
      refine z_ic_ge (tgt := 40) C0 h1 dX8_feed_33 (by decide) (fun h1 => ?_) (fun h1 => ?_)
      · refine lv_iload hx hb dX8_feed_40 (lv_at hl 6 rfl) ?_
        refine lv_bipush (v := 8) hx hb dX8_feed_42 (by decide) ?_
        refine z_ic_ge (tgt := 51) C0 h1 dX8_feed_44 (by decide) (fun h1 => ?_) (fun h1 => ?_)
        · refine lv_iload hx hb dX8_feed_51 (lv_at hl 6 rfl) ?_
          refine lv_bipush (v := 12) hx hb dX8_feed_53 (by decide) ?_
          refine z_ic_ge (tgt := 62) C0 h1 dX8_feed_55 (by decide) (fun h1 => ?_) (fun h1 => ?_)
          · refine lv_iload hx hb dX8_feed_62 (lv_at hl 6 rfl) ?_
            refine lv_bipush (v := 16) hx hb dX8_feed_64 (by decide) ?_
            refine z_ic_ge (tgt := 74) C0 h1 dX8_feed_66 (by decide) (fun h1 => ?_) (fun h1 => ?_)
            · refine lv_iload hx hb dX8_feed_74 (lv_at hl 5 rfl) ?_
              exact J76 x6 x5 _ _ _ _  hZ (lv_sub hl [0, 1, 2, 3, 4, 5, 6] rfl) h1
            refine lv_iload hx hb dX8_feed_69 (lv_at hl 4 rfl) ?_
            refine lv_goto (tgt := 76) hx hb dX8_feed_71 (by decide) ?_
            exact J76 x6 x4 _ _ _ _  hZ (lv_sub hl [0, 1, 2, 3, 4, 5, 6] rfl) h1
          refine lv_iload_n hx hb dX8_feed_58 rfl (lv_at hl 3 rfl) ?_
          refine lv_goto (tgt := 76) hx hb dX8_feed_59 (by decide) ?_
          exact J76 x6 x3 _ _ _ _  hZ (lv_sub hl [0, 1, 2, 3, 4, 5, 6] rfl) h1
        refine lv_iload_n hx hb dX8_feed_47 rfl (lv_at hl 2 rfl) ?_
        refine lv_goto (tgt := 76) hx hb dX8_feed_48 (by decide) ?_
        exact J76 x6 x2 _ _ _ _  hZ (lv_sub hl [0, 1, 2, 3, 4, 5, 6] rfl) h1
      refine lv_iload_n hx hb dX8_feed_36 rfl (lv_at hl 1 rfl) ?_
      refine lv_goto (tgt := 76) hx hb dX8_feed_37 (by decide) ?_
      exact J76 x6 x1 _ _ _ _  hZ (lv_sub hl [0, 1, 2, 3, 4, 5, 6] rfl) h1
  refine lv_aload_n hx hb dX8_feed_0 rfl (lv_at hl 0 rfl) ?_
  refine lv_iconst (v := 0) hx hb dX8_feed_1 (by decide) ?_
  refine z_puti C0 hZ h1 hk0 fRX8_159 rfl tyX8_ok nmX8 rfl rfl rfl dX8_feed_2 (fun σ_5 H locs h1 hZ => ?_)
  refine lv_aload_n hx hb dX8_feed_5 rfl (lv_at hl 0 rfl) ?_
  refine z_geti C0 hZ hk0 fRX8_168 rfl dX8_feed_6 ?_
  refine lv_bipush (v := 20) hx hb dX8_feed_9 (by decide) ?_
  refine lv_iadd hx hb dX8_feed_11 ?_
  refine lv_sipush (v := 700) hx hb dX8_feed_12 (by decide) ?_
  refine z_ic_le (tgt := 20) C0 h1 dX8_feed_15 (by decide) (fun h1 => ?_) (fun h1 => ?_)
  · refine lv_iconst (v := 0) hx hb dX8_feed_20 (by decide) ?_
    refine z_istore C0 h1 hl (fun x6_6 => [(6, .int x6_6), (0, .ref (zad V k0)), (1, .int x1), (2, .int x2), (3, .int x3), (4, .int x4), (5, .int x5)]) dX8_feed_21 (by decide) (fun _ => rfl) (fun x6_6 ls h1 hl => ?_)
    obtain ⟨n, h1⟩ := zlp_iff.mp h1
    exact J23 n x6_6 _ _ _ _  hZ (lv_sub hl [1, 2, 3, 4, 5, 6, 0] rfl) h1
  refine lv_iconst (v := (-1)) hx hb dX8_feed_18 (by decide) ?_
  rw [hQ]; exact z_iret C0 hr hlk hZ h1 dX8_feed_19
noncomputable def FX8_byteAt_b18 (y0 : Int32) (σ : zS) : Option (Int32 × zS) := some (y0, σ)
noncomputable def FX8_byteAt (k0 : Nat) (x1 : Int32) (σ : zS) : Option (Int32 × zS) := if (σ k0 20) ≤ x1 then FX8_byteAt_b18 (-1) σ else zin (ln 1 (k0 + 17)) x1 (FX8_byteAt_b18 (σ (k0 + 17) (Int32.toNatClampNeg x1)) σ)
set_option maxHeartbeats 4000000 in
set_option maxRecDepth 100000 in
theorem kX8_byteAt (l : Launch) {V : zV} {σ : zS} {t0 : Int32 × zS} {k0 : Nat} {x1 : Int32} (hk0 : kd 1 k0 = 8) (h1 : FX8_byteAt k0 x1 σ = some t0) : zMi l yX8_byteAt cX8_byteAt 2 (some .int) 0 0 1 V σ t0 [.ref (zad V k0), .int x1] := by
  refine zMi_of (by decide) (Nat.le_of_ble_eq_true rfl) ?_
  intro p e s m below meth c A C0 hr hlk hZ ls hl
  generalize ([.ref (zad V k0), .int x1] : List Value).toArray = args at C0 ⊢
  obtain ⟨Q, hQ⟩ : ∃ Q, Q = MQ below (zQi 1 V t0 A) args s 0 0 A := ⟨_, rfl⟩
  rw [← hQ]
  have hx := C0.1
  have hb := C0.2.1
  have hl : lv_has ls 2 [(0, .ref (zad V k0)), (1, .int x1)] := hl
  unfold FX8_byteAt at h1
  have J18 : ∀ (y0 : Int32) (σ : zS) (H : Heap) (locs : List Loc) (ls : Array Slot), zZ 1 V A σ s H locs → lv_has ls 2 [] → FX8_byteAt_b18 y0 σ = some t0 → W p l e (zrm 0 0) s m args below meth c H locs 0 0 Q (F0 m 18 ls [.int y0]) := by
    intro y0 σ H locs ls  hZ hl h1
    unfold FX8_byteAt_b18 at h1
    rw [hQ]; exact z_iret C0 hr hlk hZ h1 dX8_byteAt_18
  refine lv_iload_n hx hb dX8_byteAt_0 rfl (lv_at hl 1 rfl) ?_
  refine lv_aload_n hx hb dX8_byteAt_1 rfl (lv_at hl 0 rfl) ?_
  refine z_geti C0 hZ hk0 fRX8_171 rfl dX8_byteAt_2 ?_
  refine z_ic_ge (tgt := 17) C0 h1 dX8_byteAt_5 (by decide) (fun h1 => ?_) (fun h1 => ?_)
  · refine lv_iconst (v := (-1)) hx hb dX8_byteAt_17 (by decide) ?_
    exact J18 (-1) _ _ _ _  hZ (lv_sub hl [] rfl) h1
  refine lv_aload_n hx hb dX8_byteAt_8 rfl (lv_at hl 0 rfl) ?_
  refine z_getr C0 hZ hk0 fRX8_81 rfl dX8_byteAt_9 ?_
  refine lv_iload_n hx hb dX8_byteAt_12 rfl (lv_at hl 1 rfl) ?_
  refine z_iald C0 hZ h1 (zkt8_17 hk0) dX8_byteAt_13 (fun h1 => ?_)
  refine lv_goto (tgt := 18) hx hb dX8_byteAt_14 (by decide) ?_
  exact J18 (σ (k0 + 17) (Int32.toNatClampNeg x1)) _ _ _ _  hZ (lv_sub hl [] rfl) h1
noncomputable def FX8_isLetter_b17 (y0 : Int32) (σ : zS) : Option (Int32 × zS) := zgd (y0 == 0 || y0 == 1) (some (y0, σ))
noncomputable def FX8_isLetter_b16  (σ : zS) : Option (Int32 × zS) := FX8_isLetter_b17 0 σ
noncomputable def FX8_isLetter (x0 : Int32) (σ : zS) : Option (Int32 × zS) := if x0 < 97 then FX8_isLetter_b16  σ else if 122 < x0 then FX8_isLetter_b16  σ else FX8_isLetter_b17 1 σ
set_option maxHeartbeats 4000000 in
set_option maxRecDepth 100000 in
theorem kX8_isLetter (l : Launch) {V : zV} {σ : zS} {t0 : Int32 × zS} {x0 : Int32}  (h1 : FX8_isLetter x0 σ = some t0) : zMi l yX8_isLetter cX8_isLetter 1 (some .boolean) 0 0 1 V σ t0 [.int x0] := by
  refine zMi_of (by decide) (Nat.le_of_ble_eq_true rfl) ?_
  intro p e s m below meth c A C0 hr hlk hZ ls hl
  generalize ([.int x0] : List Value).toArray = args at C0 ⊢
  obtain ⟨Q, hQ⟩ : ∃ Q, Q = MQ below (zQi 1 V t0 A) args s 0 0 A := ⟨_, rfl⟩
  rw [← hQ]
  have hx := C0.1
  have hb := C0.2.1
  have hl : lv_has ls 1 [(0, .int x0)] := hl
  unfold FX8_isLetter at h1
  have J17 : ∀ (y0 : Int32) (σ : zS) (H : Heap) (locs : List Loc) (ls : Array Slot), zZ 1 V A σ s H locs → lv_has ls 1 [] → FX8_isLetter_b17 y0 σ = some t0 → W p l e (zrm 0 0) s m args below meth c H locs 0 0 Q (F0 m 17 ls [.int y0]) := by
    intro y0 σ H locs ls  hZ hl h1
    unfold FX8_isLetter_b17 at h1
    rw [hQ]; exact z_zret C0 hr hlk hZ h1 dX8_isLetter_17
  have J16 : ∀  (σ : zS) (H : Heap) (locs : List Loc) (ls : Array Slot), zZ 1 V A σ s H locs → lv_has ls 1 [] → FX8_isLetter_b16  σ = some t0 → W p l e (zrm 0 0) s m args below meth c H locs 0 0 Q (F0 m 16 ls []) := by
    intro  σ H locs ls  hZ hl h1
    unfold FX8_isLetter_b16 at h1
    refine lv_iconst (v := 0) hx hb dX8_isLetter_16 (by decide) ?_
    exact J17 0 _ _ _ _  hZ (lv_sub hl [] rfl) h1
  refine lv_iload_n hx hb dX8_isLetter_0 rfl (lv_at hl 0 rfl) ?_
  refine lv_bipush (v := 97) hx hb dX8_isLetter_1 (by decide) ?_
  refine z_ic_lt (tgt := 16) C0 h1 dX8_isLetter_3 (by decide) (fun h1 => ?_) (fun h1 => ?_)
  · exact J16  _ _ _ _  hZ (lv_sub hl [] rfl) h1
  refine lv_iload_n hx hb dX8_isLetter_6 rfl (lv_at hl 0 rfl) ?_
  refine lv_bipush (v := 122) hx hb dX8_isLetter_7 (by decide) ?_
  refine z_ic_gt (tgt := 16) C0 h1 dX8_isLetter_9 (by decide) (fun h1 => ?_) (fun h1 => ?_)
  · exact J16  _ _ _ _  hZ (lv_sub hl [] rfl) h1
  refine lv_iconst (v := 1) hx hb dX8_isLetter_12 (by decide) ?_
  refine lv_goto (tgt := 17) hx hb dX8_isLetter_13 (by decide) ?_
  exact J17 1 _ _ _ _  hZ (lv_sub hl [] rfl) h1
noncomputable def FX8_isDigit_b17 (y0 : Int32) (σ : zS) : Option (Int32 × zS) := zgd (y0 == 0 || y0 == 1) (some (y0, σ))
noncomputable def FX8_isDigit_b16  (σ : zS) : Option (Int32 × zS) := FX8_isDigit_b17 0 σ
noncomputable def FX8_isDigit (x0 : Int32) (σ : zS) : Option (Int32 × zS) := if x0 < 48 then FX8_isDigit_b16  σ else if 57 < x0 then FX8_isDigit_b16  σ else FX8_isDigit_b17 1 σ
set_option maxHeartbeats 4000000 in
set_option maxRecDepth 100000 in
theorem kX8_isDigit (l : Launch) {V : zV} {σ : zS} {t0 : Int32 × zS} {x0 : Int32}  (h1 : FX8_isDigit x0 σ = some t0) : zMi l yX8_isDigit cX8_isDigit 1 (some .boolean) 0 0 1 V σ t0 [.int x0] := by
  refine zMi_of (by decide) (Nat.le_of_ble_eq_true rfl) ?_
  intro p e s m below meth c A C0 hr hlk hZ ls hl
  generalize ([.int x0] : List Value).toArray = args at C0 ⊢
  obtain ⟨Q, hQ⟩ : ∃ Q, Q = MQ below (zQi 1 V t0 A) args s 0 0 A := ⟨_, rfl⟩
  rw [← hQ]
  have hx := C0.1
  have hb := C0.2.1
  have hl : lv_has ls 1 [(0, .int x0)] := hl
  unfold FX8_isDigit at h1
  have J17 : ∀ (y0 : Int32) (σ : zS) (H : Heap) (locs : List Loc) (ls : Array Slot), zZ 1 V A σ s H locs → lv_has ls 1 [] → FX8_isDigit_b17 y0 σ = some t0 → W p l e (zrm 0 0) s m args below meth c H locs 0 0 Q (F0 m 17 ls [.int y0]) := by
    intro y0 σ H locs ls  hZ hl h1
    unfold FX8_isDigit_b17 at h1
    rw [hQ]; exact z_zret C0 hr hlk hZ h1 dX8_isDigit_17
  have J16 : ∀  (σ : zS) (H : Heap) (locs : List Loc) (ls : Array Slot), zZ 1 V A σ s H locs → lv_has ls 1 [] → FX8_isDigit_b16  σ = some t0 → W p l e (zrm 0 0) s m args below meth c H locs 0 0 Q (F0 m 16 ls []) := by
    intro  σ H locs ls  hZ hl h1
    unfold FX8_isDigit_b16 at h1
    refine lv_iconst (v := 0) hx hb dX8_isDigit_16 (by decide) ?_
    exact J17 0 _ _ _ _  hZ (lv_sub hl [] rfl) h1
  refine lv_iload_n hx hb dX8_isDigit_0 rfl (lv_at hl 0 rfl) ?_
  refine lv_bipush (v := 48) hx hb dX8_isDigit_1 (by decide) ?_
  refine z_ic_lt (tgt := 16) C0 h1 dX8_isDigit_3 (by decide) (fun h1 => ?_) (fun h1 => ?_)
  · exact J16  _ _ _ _  hZ (lv_sub hl [] rfl) h1
  refine lv_iload_n hx hb dX8_isDigit_6 rfl (lv_at hl 0 rfl) ?_
  refine lv_bipush (v := 57) hx hb dX8_isDigit_7 (by decide) ?_
  refine z_ic_gt (tgt := 16) C0 h1 dX8_isDigit_9 (by decide) (fun h1 => ?_) (fun h1 => ?_)
  · exact J16  _ _ _ _  hZ (lv_sub hl [] rfl) h1
  refine lv_iconst (v := 1) hx hb dX8_isDigit_12 (by decide) ?_
  refine lv_goto (tgt := 17) hx hb dX8_isDigit_13 (by decide) ?_
  exact J17 1 _ _ _ _  hZ (lv_sub hl [] rfl) h1
noncomputable def FX8_isMark_b59 (y0 : Int32) (σ : zS) : Option (Int32 × zS) := zgd (y0 == 0 || y0 == 1) (some (y0, σ))
noncomputable def FX8_isMark_b54  (σ : zS) : Option (Int32 × zS) := FX8_isMark_b59 1 σ
noncomputable def FX8_isMark (x0 : Int32) (σ : zS) : Option (Int32 × zS) := if x0 = 59 then FX8_isMark_b54  σ else if x0 = 40 then FX8_isMark_b54  σ else if x0 = 41 then FX8_isMark_b54  σ else if x0 = 43 then FX8_isMark_b54  σ else if x0 = 45 then FX8_isMark_b54  σ else if x0 = 42 then FX8_isMark_b54  σ else if x0 = 47 then FX8_isMark_b54  σ else if x0 = 60 then FX8_isMark_b54  σ else if x0 = 61 then FX8_isMark_b54  σ else FX8_isMark_b59 0 σ
set_option maxHeartbeats 4000000 in
set_option maxRecDepth 100000 in
theorem kX8_isMark (l : Launch) {V : zV} {σ : zS} {t0 : Int32 × zS} {x0 : Int32}  (h1 : FX8_isMark x0 σ = some t0) : zMi l yX8_isMark cX8_isMark 1 (some .boolean) 0 0 1 V σ t0 [.int x0] := by
  refine zMi_of (by decide) (Nat.le_of_ble_eq_true rfl) ?_
  intro p e s m below meth c A C0 hr hlk hZ ls hl
  generalize ([.int x0] : List Value).toArray = args at C0 ⊢
  obtain ⟨Q, hQ⟩ : ∃ Q, Q = MQ below (zQi 1 V t0 A) args s 0 0 A := ⟨_, rfl⟩
  rw [← hQ]
  have hx := C0.1
  have hb := C0.2.1
  have hl : lv_has ls 1 [(0, .int x0)] := hl
  unfold FX8_isMark at h1
  have J59 : ∀ (y0 : Int32) (σ : zS) (H : Heap) (locs : List Loc) (ls : Array Slot), zZ 1 V A σ s H locs → lv_has ls 1 [] → FX8_isMark_b59 y0 σ = some t0 → W p l e (zrm 0 0) s m args below meth c H locs 0 0 Q (F0 m 59 ls [.int y0]) := by
    intro y0 σ H locs ls  hZ hl h1
    unfold FX8_isMark_b59 at h1
    rw [hQ]; exact z_zret C0 hr hlk hZ h1 dX8_isMark_59
  have J54 : ∀  (σ : zS) (H : Heap) (locs : List Loc) (ls : Array Slot), zZ 1 V A σ s H locs → lv_has ls 1 [] → FX8_isMark_b54  σ = some t0 → W p l e (zrm 0 0) s m args below meth c H locs 0 0 Q (F0 m 54 ls []) := by
    intro  σ H locs ls  hZ hl h1
    unfold FX8_isMark_b54 at h1
    refine lv_iconst (v := 1) hx hb dX8_isMark_54 (by decide) ?_
    refine lv_goto (tgt := 59) hx hb dX8_isMark_55 (by decide) ?_
    exact J59 1 _ _ _ _  hZ (lv_sub hl [] rfl) h1
  refine lv_iload_n hx hb dX8_isMark_0 rfl (lv_at hl 0 rfl) ?_
  refine lv_bipush (v := 59) hx hb dX8_isMark_1 (by decide) ?_
  refine z_ic_eq (tgt := 54) C0 h1 dX8_isMark_3 (by decide) (fun h1 => ?_) (fun h1 => ?_)
  · exact J54  _ _ _ _  hZ (lv_sub hl [] rfl) h1
  refine lv_iload_n hx hb dX8_isMark_6 rfl (lv_at hl 0 rfl) ?_
  refine lv_bipush (v := 40) hx hb dX8_isMark_7 (by decide) ?_
  refine z_ic_eq (tgt := 54) C0 h1 dX8_isMark_9 (by decide) (fun h1 => ?_) (fun h1 => ?_)
  · exact J54  _ _ _ _  hZ (lv_sub hl [] rfl) h1
  refine lv_iload_n hx hb dX8_isMark_12 rfl (lv_at hl 0 rfl) ?_
  refine lv_bipush (v := 41) hx hb dX8_isMark_13 (by decide) ?_
  refine z_ic_eq (tgt := 54) C0 h1 dX8_isMark_15 (by decide) (fun h1 => ?_) (fun h1 => ?_)
  · exact J54  _ _ _ _  hZ (lv_sub hl [] rfl) h1
  refine lv_iload_n hx hb dX8_isMark_18 rfl (lv_at hl 0 rfl) ?_
  refine lv_bipush (v := 43) hx hb dX8_isMark_19 (by decide) ?_
  refine z_ic_eq (tgt := 54) C0 h1 dX8_isMark_21 (by decide) (fun h1 => ?_) (fun h1 => ?_)
  · exact J54  _ _ _ _  hZ (lv_sub hl [] rfl) h1
  refine lv_iload_n hx hb dX8_isMark_24 rfl (lv_at hl 0 rfl) ?_
  refine lv_bipush (v := 45) hx hb dX8_isMark_25 (by decide) ?_
  refine z_ic_eq (tgt := 54) C0 h1 dX8_isMark_27 (by decide) (fun h1 => ?_) (fun h1 => ?_)
  · exact J54  _ _ _ _  hZ (lv_sub hl [] rfl) h1
  refine lv_iload_n hx hb dX8_isMark_30 rfl (lv_at hl 0 rfl) ?_
  refine lv_bipush (v := 42) hx hb dX8_isMark_31 (by decide) ?_
  refine z_ic_eq (tgt := 54) C0 h1 dX8_isMark_33 (by decide) (fun h1 => ?_) (fun h1 => ?_)
  · exact J54  _ _ _ _  hZ (lv_sub hl [] rfl) h1
  refine lv_iload_n hx hb dX8_isMark_36 rfl (lv_at hl 0 rfl) ?_
  refine lv_bipush (v := 47) hx hb dX8_isMark_37 (by decide) ?_
  refine z_ic_eq (tgt := 54) C0 h1 dX8_isMark_39 (by decide) (fun h1 => ?_) (fun h1 => ?_)
  · exact J54  _ _ _ _  hZ (lv_sub hl [] rfl) h1
  refine lv_iload_n hx hb dX8_isMark_42 rfl (lv_at hl 0 rfl) ?_
  refine lv_bipush (v := 60) hx hb dX8_isMark_43 (by decide) ?_
  refine z_ic_eq (tgt := 54) C0 h1 dX8_isMark_45 (by decide) (fun h1 => ?_) (fun h1 => ?_)
  · exact J54  _ _ _ _  hZ (lv_sub hl [] rfl) h1
  refine lv_iload_n hx hb dX8_isMark_48 rfl (lv_at hl 0 rfl) ?_
  refine lv_bipush (v := 61) hx hb dX8_isMark_49 (by decide) ?_
  refine z_ic_ne (tgt := 58) C0 h1 dX8_isMark_51 (by decide) (fun h1 => ?_) (fun h1 => ?_)
  · refine lv_iconst (v := 0) hx hb dX8_isMark_58 (by decide) ?_
    exact J59 0 _ _ _ _  hZ (lv_sub hl [] rfl) h1
  exact J54  _ _ _ _  hZ (lv_sub hl [] rfl) h1
noncomputable def FX8_stepOn_b212 (k0 : Nat) (σ : zS) : Option (Int32 × zS) := zlet (zup σ k0 24 (σ k0 19)) (fun σ_1 => some (0, σ_1))
noncomputable def FX8_stepOn_b209 (k0 : Nat) (q0 : Nat) (y1 : Int32) (σ : zS) : Option (Int32 × zS) := zlet (zup σ q0 21 y1) (fun σ_2 => FX8_stepOn_b212 k0 σ_2)
noncomputable def FX8_stepOn_b178 (k0 : Nat) (σ : zS) : Option (Int32 × zS) := zlet (zup σ k0 21 2) (fun σ_3 => FX8_stepOn_b212 k0 σ_3)
noncomputable def FX8_stepOn_L123 (k0 : Nat) (σ : zS) : Option ((zS) ⊕ (Int32 × zS)) := zbd (FX8_byteAt k0 (σ k0 19) σ) (fun r_5 σ_4 => zbd (FX8_isDigit r_5 σ_4) (fun r_7 σ_6 => if r_7 = 0 then zinr (FX8_stepOn_b178 k0 σ_6) else zbd (FX8_byteAt k0 (σ_6 k0 19) σ_6) (fun r_9 σ_8 => zlet (zup σ_8 k0 22 (if (((10 * (σ_6 k0 22)) + r_9) - 48) < 100000 then (((10 * (σ_6 k0 22)) + r_9) - 48) else 100000)) (fun σ_11 => zlet (zup σ_11 k0 19 ((σ_11 k0 19) + 1)) (fun σ_12 => some (.inl (σ_12)))))))
noncomputable def FX8_stepOn_b103 (k0 : Nat) (σ : zS) : Option (Int32 × zS) := zlet (zup σ k0 21 1) (fun σ_13 => FX8_stepOn_b212 k0 σ_13)
noncomputable def FX8_stepOn_L76 (k0 : Nat) (σ : zS) : Option ((zS) ⊕ (Int32 × zS)) := zbd (FX8_byteAt k0 (σ k0 19) σ) (fun r_15 σ_14 => zbd (FX8_isLetter r_15 σ_14) (fun r_17 σ_16 => if r_17 = 0 then zinr (FX8_stepOn_b103 k0 σ_16) else zlet (zup σ_16 k0 19 ((σ_16 k0 19) + 1)) (fun σ_18 => some (.inl (σ_18)))))
noncomputable def FX8_stepOn_b39 (k0 : Nat) (σ : zS) : Option (Int32 × zS) := zlet (zup σ k0 23 (σ k0 19)) (fun σ_19 => zbd (FX8_byteAt k0 (σ_19 k0 19) σ_19) (fun r_21 σ_20 => zlet r_21 (fun x1_22 => if x1_22 = (-1) then zlet (zup σ_20 k0 21 0) (fun σ_31 => FX8_stepOn_b212 k0 σ_31) else zbd (FX8_isLetter x1_22 σ_20) (fun r_24 σ_23 => if r_24 = 0 then zbd (FX8_isDigit x1_22 σ_23) (fun r_26 σ_25 => if r_26 = 0 then zlet (zup σ_25 k0 19 ((σ_25 k0 19) + 1)) (fun σ_27 => zbd (FX8_isMark x1_22 σ_27) (fun r_29 σ_28 => if r_29 = 0 then FX8_stepOn_b209 k0 k0 4 σ_28 else FX8_stepOn_b209 k0 k0 3 σ_28)) else zlet (zup σ_25 k0 22 0) (fun σ_30 => zlp (fun q => FX8_stepOn_L123 k0 q) (σ_30))) else zlp (fun q => FX8_stepOn_L76 k0 q) (σ_23)))))
noncomputable def FX8_stepOn_b26 (k0 : Nat) (σ : zS) : Option ((zS) ⊕ (Int32 × zS)) := zlet (zup σ k0 19 ((σ k0 19) + 1)) (fun σ_32 => some (.inl (σ_32)))
noncomputable def FX8_stepOn_L0 (k0 : Nat) (σ : zS) : Option ((zS) ⊕ (Int32 × zS)) := zbd (FX8_byteAt k0 (σ k0 19) σ) (fun r_34 σ_33 => if r_34 = 32 then FX8_stepOn_b26 k0 σ_33 else zbd (FX8_byteAt k0 (σ_33 k0 19) σ_33) (fun r_36 σ_35 => if r_36 = 10 then FX8_stepOn_b26 k0 σ_35 else zinr (FX8_stepOn_b39 k0 σ_35)))
noncomputable def FX8_stepOn (k0 : Nat) (σ : zS) : Option (Int32 × zS) := zlp (fun q => FX8_stepOn_L0 k0 q) (σ)
set_option maxHeartbeats 4000000 in
set_option maxRecDepth 100000 in
theorem kX8_stepOn (l : Launch) {V : zV} {σ : zS} {t0 : Int32 × zS} {k0 : Nat} (hk0 : kd 1 k0 = 8) (h1 : FX8_stepOn k0 σ = some t0) : zMv l yX8_stepOn cX8_stepOn 2 1 40 1 V σ t0 [.ref (zad V k0)] := by
  refine zMv_of (by decide) (Nat.le_of_ble_eq_true rfl) ?_
  intro p e s m below meth c A C0 hr hlk hZ ls hl
  generalize ([.ref (zad V k0)] : List Value).toArray = args at C0 ⊢
  obtain ⟨Q, hQ⟩ : ∃ Q, Q = MQ below (zQv 1 V t0 A) args s 0 0 A := ⟨_, rfl⟩
  rw [← hQ]
  have hx := C0.1
  have hb := C0.2.1
  have hl : lv_has ls 2 [(0, .ref (zad V k0))] := hl
  unfold FX8_stepOn at h1
  have J212 : ∀  (σ : zS) (H : Heap) (locs : List Loc) (ls : Array Slot), zZ 1 V A σ s H locs → lv_has ls 2 [(0, .ref (zad V k0))] → FX8_stepOn_b212 k0 σ = some t0 → W p l e (zrm 1 40) s m args below meth c H locs 0 0 Q (F0 m 212 ls []) := by
    intro  σ H locs ls  hZ hl h1
    unfold FX8_stepOn_b212 at h1
    refine lv_aload_n hx hb dX8_stepOn_212 rfl (lv_at hl 0 rfl) ?_
    refine lv_aload_n hx hb dX8_stepOn_213 rfl (lv_at hl 0 rfl) ?_
    refine z_geti C0 hZ hk0 fRX8_174 rfl dX8_stepOn_214 ?_
    refine z_puti C0 hZ h1 hk0 fRX8_207 rfl tyX8_ok nmX8 rfl rfl rfl dX8_stepOn_217 (fun σ_1 H locs h1 hZ => ?_)
    rw [hQ]; exact z_vret C0 hr hlk hZ h1 dX8_stepOn_220
  have J209 : ∀ (q0 : Nat) (y1 : Int32) (σ : zS) (H : Heap) (locs : List Loc) (ls : Array Slot), kd 1 q0 = 8 → zZ 1 V A σ s H locs → lv_has ls 2 [(0, .ref (zad V k0))] → FX8_stepOn_b209 k0 q0 y1 σ = some t0 → W p l e (zrm 1 40) s m args below meth c H locs 0 0 Q (F0 m 209 ls [.int y1, .ref (zad V q0)]) := by
    intro q0 y1 σ H locs ls hq0 hZ hl h1
    unfold FX8_stepOn_b209 at h1
    refine z_puti C0 hZ h1 hq0 fRX8_184 rfl tyX8_ok nmX8 rfl rfl rfl dX8_stepOn_209 (fun σ_2 H locs h1 hZ => ?_)
    exact J212  _ _ _ _  hZ (lv_sub hl [0] rfl) h1
  have J178 : ∀  (σ : zS) (H : Heap) (locs : List Loc) (ls : Array Slot), zZ 1 V A σ s H locs → lv_has ls 2 [(0, .ref (zad V k0))] → FX8_stepOn_b178 k0 σ = some t0 → W p l e (zrm 1 40) s m args below meth c H locs 0 0 Q (F0 m 178 ls []) := by
    intro  σ H locs ls  hZ hl h1
    unfold FX8_stepOn_b178 at h1
    refine lv_aload_n hx hb dX8_stepOn_178 rfl (lv_at hl 0 rfl) ?_
    refine lv_iconst (v := 2) hx hb dX8_stepOn_179 (by decide) ?_
    refine z_puti C0 hZ h1 hk0 fRX8_184 rfl tyX8_ok nmX8 rfl rfl rfl dX8_stepOn_180 (fun σ_3 H locs h1 hZ => ?_)
    refine lv_goto (tgt := 212) hx hb dX8_stepOn_183 (by decide) ?_
    exact J212  _ _ _ _  hZ (lv_sub hl [0] rfl) h1
  have J123 : ∀ (n : Nat)  (σ : zS) (H : Heap) (locs : List Loc) (ls : Array Slot), zZ 1 V A σ s H locs → lv_has ls 2 [(0, .ref (zad V k0))] → zit (fun q => FX8_stepOn_L123 k0 q) n (σ) = some t0 → W p l e (zrm 1 40) s m args below meth c H locs 0 0 Q (F0 m 123 ls []) := by
    intro n
    induction n with
    | zero => intro  σ H locs ls  _ _ h1; cases h1
    | succ n ih123 =>
      intro  σ H locs ls  hZ hl h1
      obtain ⟨t1, h1, hz1⟩ := zit_1 h1
      replace h1 : FX8_stepOn_L123 k0 σ = some t1 := h1
      unfold FX8_stepOn_L123 at h1
      refine lv_aload_n hx hb dX8_stepOn_123 rfl (lv_at hl 0 rfl) ?_
      refine lv_aload_n hx hb dX8_stepOn_124 rfl (lv_at hl 0 rfl) ?_
      refine z_geti C0 hZ hk0 fRX8_174 rfl dX8_stepOn_125 ?_
      refine z_cVi (As := [.int (σ k0 19)]) (rest := []) C0 hZ h1 (fun _ hf => kX8_byteAt l hk0 hf) mRX8_177 vX8_byteAt hk0 rfl rfl hl.1 (Nat.le_of_ble_eq_true rfl) ⟨Nat.le_of_ble_eq_true rfl, Nat.le_of_ble_eq_true rfl⟩ dX8_stepOn_128 ⟨Nat.le_of_ble_eq_true rfl, Nat.le_of_ble_eq_true rfl⟩ (fun r_5 σ_4 H locs h1 hZ => ?_)
      refine z_cSi (As := [.int r_5]) (rest := []) C0 hZ h1 (fun _ hf => kX8_isDigit l  hf) mRX8_191 sX8_isDigit rfl rfl hl.1 (Nat.le_of_ble_eq_true rfl) ⟨Nat.le_of_ble_eq_true rfl, Nat.le_of_ble_eq_true rfl⟩ dX8_stepOn_131 ⟨Nat.le_of_ble_eq_true rfl, Nat.le_of_ble_eq_true rfl⟩ (fun r_7 σ_6 H locs h1 hZ => ?_)
      refine z_if_eq (tgt := 178) C0 h1 dX8_stepOn_134 (by decide) (fun h1 => ?_) (fun h1 => ?_)
      · have h1 := zout h1 hz1
        exact J178  _ _ _ _  hZ (lv_sub hl [0] rfl) h1
      refine lv_aload_n hx hb dX8_stepOn_137 rfl (lv_at hl 0 rfl) ?_
      refine lv_ldc (v := 100000) hx hb C0.2.2.2.1 (C0.2.2.2.2 _ (zmem 1684 (by decide +kernel) (by decide +kernel))) dX8_stepOn_138 ?_
      refine lv_bipush (v := 10) hx hb dX8_stepOn_140 (by decide) ?_
      refine lv_aload_n hx hb dX8_stepOn_142 rfl (lv_at hl 0 rfl) ?_
      refine z_geti C0 hZ hk0 fRX8_194 rfl dX8_stepOn_143 ?_
      refine lv_imul hx hb dX8_stepOn_146 ?_
      refine lv_aload_n hx hb dX8_stepOn_147 rfl (lv_at hl 0 rfl) ?_
      refine lv_aload_n hx hb dX8_stepOn_148 rfl (lv_at hl 0 rfl) ?_
      refine z_geti C0 hZ hk0 fRX8_174 rfl dX8_stepOn_149 ?_
      refine z_cVi (As := [.int (σ_6 k0 19)]) (rest := [.int (10 * (σ_6 k0 22)), .int 100000, .ref (zad V k0)]) C0 hZ h1 (fun _ hf => kX8_byteAt l hk0 hf) mRX8_177 vX8_byteAt hk0 rfl rfl hl.1 (Nat.le_of_ble_eq_true rfl) ⟨Nat.le_of_ble_eq_true rfl, Nat.le_of_ble_eq_true rfl⟩ dX8_stepOn_152 ⟨Nat.le_of_ble_eq_true rfl, Nat.le_of_ble_eq_true rfl⟩ (fun r_9 σ_8 H locs h1 hZ => ?_)
      refine lv_iadd hx hb dX8_stepOn_155 ?_
      refine lv_bipush (v := 48) hx hb dX8_stepOn_156 (by decide) ?_
      refine lv_isub hx hb dX8_stepOn_158 ?_
      refine z_mmin C0 hl.1 mmRX8_198 ⟨Nat.le_of_ble_eq_true rfl, Nat.le_of_ble_eq_true rfl⟩ ⟨Nat.le_of_ble_eq_true rfl, Nat.le_of_ble_eq_true rfl⟩ dX8_stepOn_159 ?_
      refine z_puti C0 hZ h1 hk0 fRX8_194 rfl tyX8_ok nmX8 rfl rfl rfl dX8_stepOn_162 (fun σ_11 H locs h1 hZ => ?_)
      refine lv_aload_n hx hb dX8_stepOn_165 rfl (lv_at hl 0 rfl) ?_
      refine lv_dup hx hb dX8_stepOn_166 rfl ?_
      refine z_geti C0 hZ hk0 fRX8_174 rfl dX8_stepOn_167 ?_
      refine lv_iconst (v := 1) hx hb dX8_stepOn_170 (by decide) ?_
      refine lv_iadd hx hb dX8_stepOn_171 ?_
      refine z_puti C0 hZ h1 hk0 fRX8_174 rfl tyX8_ok nmX8 rfl rfl rfl dX8_stepOn_172 (fun σ_12 H locs h1 hZ => ?_)
      refine lv_goto (tgt := 123) hx hb dX8_stepOn_175 (by decide) ?_
      exact ih123  _ _ _ _  hZ (lv_sub hl [0] rfl) (zback h1 hz1)
  have J103 : ∀  (σ : zS) (H : Heap) (locs : List Loc) (ls : Array Slot), zZ 1 V A σ s H locs → lv_has ls 2 [(0, .ref (zad V k0))] → FX8_stepOn_b103 k0 σ = some t0 → W p l e (zrm 1 40) s m args below meth c H locs 0 0 Q (F0 m 103 ls []) := by
    intro  σ H locs ls  hZ hl h1
    unfold FX8_stepOn_b103 at h1
    refine lv_aload_n hx hb dX8_stepOn_103 rfl (lv_at hl 0 rfl) ?_
    refine lv_iconst (v := 1) hx hb dX8_stepOn_104 (by decide) ?_
    refine z_puti C0 hZ h1 hk0 fRX8_184 rfl tyX8_ok nmX8 rfl rfl rfl dX8_stepOn_105 (fun σ_13 H locs h1 hZ => ?_)
    refine lv_goto (tgt := 212) hx hb dX8_stepOn_108 (by decide) ?_
    exact J212  _ _ _ _  hZ (lv_sub hl [0] rfl) h1
  have J76 : ∀ (n : Nat)  (σ : zS) (H : Heap) (locs : List Loc) (ls : Array Slot), zZ 1 V A σ s H locs → lv_has ls 2 [(0, .ref (zad V k0))] → zit (fun q => FX8_stepOn_L76 k0 q) n (σ) = some t0 → W p l e (zrm 1 40) s m args below meth c H locs 0 0 Q (F0 m 76 ls []) := by
    intro n
    induction n with
    | zero => intro  σ H locs ls  _ _ h1; cases h1
    | succ n ih76 =>
      intro  σ H locs ls  hZ hl h1
      obtain ⟨t1, h1, hz1⟩ := zit_1 h1
      replace h1 : FX8_stepOn_L76 k0 σ = some t1 := h1
      unfold FX8_stepOn_L76 at h1
      refine lv_aload_n hx hb dX8_stepOn_76 rfl (lv_at hl 0 rfl) ?_
      refine lv_aload_n hx hb dX8_stepOn_77 rfl (lv_at hl 0 rfl) ?_
      refine z_geti C0 hZ hk0 fRX8_174 rfl dX8_stepOn_78 ?_
      refine z_cVi (As := [.int (σ k0 19)]) (rest := []) C0 hZ h1 (fun _ hf => kX8_byteAt l hk0 hf) mRX8_177 vX8_byteAt hk0 rfl rfl hl.1 (Nat.le_of_ble_eq_true rfl) ⟨Nat.le_of_ble_eq_true rfl, Nat.le_of_ble_eq_true rfl⟩ dX8_stepOn_81 ⟨Nat.le_of_ble_eq_true rfl, Nat.le_of_ble_eq_true rfl⟩ (fun r_15 σ_14 H locs h1 hZ => ?_)
      refine z_cSi (As := [.int r_15]) (rest := []) C0 hZ h1 (fun _ hf => kX8_isLetter l  hf) mRX8_187 sX8_isLetter rfl rfl hl.1 (Nat.le_of_ble_eq_true rfl) ⟨Nat.le_of_ble_eq_true rfl, Nat.le_of_ble_eq_true rfl⟩ dX8_stepOn_84 ⟨Nat.le_of_ble_eq_true rfl, Nat.le_of_ble_eq_true rfl⟩ (fun r_17 σ_16 H locs h1 hZ => ?_)
      refine z_if_eq (tgt := 103) C0 h1 dX8_stepOn_87 (by decide) (fun h1 => ?_) (fun h1 => ?_)
      · have h1 := zout h1 hz1
        exact J103  _ _ _ _  hZ (lv_sub hl [0] rfl) h1
      refine lv_aload_n hx hb dX8_stepOn_90 rfl (lv_at hl 0 rfl) ?_
      refine lv_dup hx hb dX8_stepOn_91 rfl ?_
      refine z_geti C0 hZ hk0 fRX8_174 rfl dX8_stepOn_92 ?_
      refine lv_iconst (v := 1) hx hb dX8_stepOn_95 (by decide) ?_
      refine lv_iadd hx hb dX8_stepOn_96 ?_
      refine z_puti C0 hZ h1 hk0 fRX8_174 rfl tyX8_ok nmX8 rfl rfl rfl dX8_stepOn_97 (fun σ_18 H locs h1 hZ => ?_)
      refine lv_goto (tgt := 76) hx hb dX8_stepOn_100 (by decide) ?_
      exact ih76  _ _ _ _  hZ (lv_sub hl [0] rfl) (zback h1 hz1)
  have J39 : ∀  (σ : zS) (H : Heap) (locs : List Loc) (ls : Array Slot), zZ 1 V A σ s H locs → lv_has ls 2 [(0, .ref (zad V k0))] → FX8_stepOn_b39 k0 σ = some t0 → W p l e (zrm 1 40) s m args below meth c H locs 0 0 Q (F0 m 39 ls []) := by
    intro  σ H locs ls  hZ hl h1
    unfold FX8_stepOn_b39 at h1
    refine lv_aload_n hx hb dX8_stepOn_39 rfl (lv_at hl 0 rfl) ?_
    refine lv_aload_n hx hb dX8_stepOn_40 rfl (lv_at hl 0 rfl) ?_
    refine z_geti C0 hZ hk0 fRX8_174 rfl dX8_stepOn_41 ?_
    refine z_puti C0 hZ h1 hk0 fRX8_181 rfl tyX8_ok nmX8 rfl rfl rfl dX8_stepOn_44 (fun σ_19 H locs h1 hZ => ?_)
    refine lv_aload_n hx hb dX8_stepOn_47 rfl (lv_at hl 0 rfl) ?_
    refine lv_aload_n hx hb dX8_stepOn_48 rfl (lv_at hl 0 rfl) ?_
    refine z_geti C0 hZ hk0 fRX8_174 rfl dX8_stepOn_49 ?_
    refine z_cVi (As := [.int (σ_19 k0 19)]) (rest := []) C0 hZ h1 (fun _ hf => kX8_byteAt l hk0 hf) mRX8_177 vX8_byteAt hk0 rfl rfl hl.1 (Nat.le_of_ble_eq_true rfl) ⟨Nat.le_of_ble_eq_true rfl, Nat.le_of_ble_eq_true rfl⟩ dX8_stepOn_52 ⟨Nat.le_of_ble_eq_true rfl, Nat.le_of_ble_eq_true rfl⟩ (fun r_21 σ_20 H locs h1 hZ => ?_)
    refine z_istore_n C0 h1 hl (fun x1_22 => [(1, .int x1_22), (0, .ref (zad V k0))]) dX8_stepOn_55 rfl (by decide) (fun _ => rfl) (fun x1_22 ls h1 hl => ?_)
    refine lv_iload_n hx hb dX8_stepOn_56 rfl (lv_at hl 0 rfl) ?_
    refine lv_iconst (v := (-1)) hx hb dX8_stepOn_57 (by decide) ?_
    refine z_ic_ne (tgt := 69) C0 h1 dX8_stepOn_58 (by decide) (fun h1 => ?_) (fun h1 => ?_)
    · refine lv_iload_n hx hb dX8_stepOn_69 rfl (lv_at hl 0 rfl) ?_
      refine z_cSi (As := [.int x1_22]) (rest := []) C0 hZ h1 (fun _ hf => kX8_isLetter l  hf) mRX8_187 sX8_isLetter rfl rfl hl.1 (Nat.le_of_ble_eq_true rfl) ⟨Nat.le_of_ble_eq_true rfl, Nat.le_of_ble_eq_true rfl⟩ dX8_stepOn_70 ⟨Nat.le_of_ble_eq_true rfl, Nat.le_of_ble_eq_true rfl⟩ (fun r_24 σ_23 H locs h1 hZ => ?_)
      refine z_if_eq (tgt := 111) C0 h1 dX8_stepOn_73 (by decide) (fun h1 => ?_) (fun h1 => ?_)
      · refine lv_iload_n hx hb dX8_stepOn_111 rfl (lv_at hl 0 rfl) ?_
        refine z_cSi (As := [.int x1_22]) (rest := []) C0 hZ h1 (fun _ hf => kX8_isDigit l  hf) mRX8_191 sX8_isDigit rfl rfl hl.1 (Nat.le_of_ble_eq_true rfl) ⟨Nat.le_of_ble_eq_true rfl, Nat.le_of_ble_eq_true rfl⟩ dX8_stepOn_112 ⟨Nat.le_of_ble_eq_true rfl, Nat.le_of_ble_eq_true rfl⟩ (fun r_26 σ_25 H locs h1 hZ => ?_)
        refine z_if_eq (tgt := 186) C0 h1 dX8_stepOn_115 (by decide) (fun h1 => ?_) (fun h1 => ?_)
        · refine lv_aload_n hx hb dX8_stepOn_186 rfl (lv_at hl 1 rfl) ?_
          refine lv_dup hx hb dX8_stepOn_187 rfl ?_
          refine z_geti C0 hZ hk0 fRX8_174 rfl dX8_stepOn_188 ?_
          refine lv_iconst (v := 1) hx hb dX8_stepOn_191 (by decide) ?_
          refine lv_iadd hx hb dX8_stepOn_192 ?_
          refine z_puti C0 hZ h1 hk0 fRX8_174 rfl tyX8_ok nmX8 rfl rfl rfl dX8_stepOn_193 (fun σ_27 H locs h1 hZ => ?_)
          refine lv_aload_n hx hb dX8_stepOn_196 rfl (lv_at hl 1 rfl) ?_
          refine lv_iload_n hx hb dX8_stepOn_197 rfl (lv_at hl 0 rfl) ?_
          refine z_cSi (As := [.int x1_22]) (rest := [.ref (zad V k0)]) C0 hZ h1 (fun _ hf => kX8_isMark l  hf) mRX8_204 sX8_isMark rfl rfl hl.1 (Nat.le_of_ble_eq_true rfl) ⟨Nat.le_of_ble_eq_true rfl, Nat.le_of_ble_eq_true rfl⟩ dX8_stepOn_198 ⟨Nat.le_of_ble_eq_true rfl, Nat.le_of_ble_eq_true rfl⟩ (fun r_29 σ_28 H locs h1 hZ => ?_)
          refine z_if_eq (tgt := 208) C0 h1 dX8_stepOn_201 (by decide) (fun h1 => ?_) (fun h1 => ?_)
          · refine lv_iconst (v := 4) hx hb dX8_stepOn_208 (by decide) ?_
            exact J209 k0 4 _ _ _ _ hk0 hZ (lv_sub hl [1] rfl) h1
          refine lv_iconst (v := 3) hx hb dX8_stepOn_204 (by decide) ?_
          refine lv_goto (tgt := 209) hx hb dX8_stepOn_205 (by decide) ?_
          exact J209 k0 3 _ _ _ _ hk0 hZ (lv_sub hl [1] rfl) h1
        refine lv_aload_n hx hb dX8_stepOn_118 rfl (lv_at hl 1 rfl) ?_
        refine lv_iconst (v := 0) hx hb dX8_stepOn_119 (by decide) ?_
        refine z_puti C0 hZ h1 hk0 fRX8_194 rfl tyX8_ok nmX8 rfl rfl rfl dX8_stepOn_120 (fun σ_30 H locs h1 hZ => ?_)
        obtain ⟨n, h1⟩ := zlp_iff.mp h1
        exact J123 n  _ _ _ _  hZ (lv_sub hl [1] rfl) h1
      obtain ⟨n, h1⟩ := zlp_iff.mp h1
      exact J76 n  _ _ _ _  hZ (lv_sub hl [1] rfl) h1
    refine lv_aload_n hx hb dX8_stepOn_61 rfl (lv_at hl 1 rfl) ?_
    refine lv_iconst (v := 0) hx hb dX8_stepOn_62 (by decide) ?_
    refine z_puti C0 hZ h1 hk0 fRX8_184 rfl tyX8_ok nmX8 rfl rfl rfl dX8_stepOn_63 (fun σ_31 H locs h1 hZ => ?_)
    refine lv_goto (tgt := 212) hx hb dX8_stepOn_66 (by decide) ?_
    exact J212  _ _ _ _  hZ (lv_sub hl [1] rfl) h1
  have J0 : ∀ (n : Nat)  (σ : zS) (H : Heap) (locs : List Loc) (ls : Array Slot), zZ 1 V A σ s H locs → lv_has ls 2 [(0, .ref (zad V k0))] → zit (fun q => FX8_stepOn_L0 k0 q) n (σ) = some t0 → W p l e (zrm 1 40) s m args below meth c H locs 0 0 Q (F0 m 0 ls []) := by
    intro n
    induction n with
    | zero => intro  σ H locs ls  _ _ h1; cases h1
    | succ n ih0 =>
      intro  σ H locs ls  hZ hl h1
      obtain ⟨t1, h1, hz1⟩ := zit_1 h1
      have J26 : ∀  (σ : zS) (H : Heap) (locs : List Loc) (ls : Array Slot), zZ 1 V A σ s H locs → lv_has ls 2 [(0, .ref (zad V k0))] → FX8_stepOn_b26 k0 σ = some t1 → W p l e (zrm 1 40) s m args below meth c H locs 0 0 Q (F0 m 26 ls []) := by
        intro  σ H locs ls  hZ hl h1
        unfold FX8_stepOn_b26 at h1
        refine lv_aload_n hx hb dX8_stepOn_26 rfl (lv_at hl 0 rfl) ?_
        refine lv_dup hx hb dX8_stepOn_27 rfl ?_
        refine z_geti C0 hZ hk0 fRX8_174 rfl dX8_stepOn_28 ?_
        refine lv_iconst (v := 1) hx hb dX8_stepOn_31 (by decide) ?_
        refine lv_iadd hx hb dX8_stepOn_32 ?_
        refine z_puti C0 hZ h1 hk0 fRX8_174 rfl tyX8_ok nmX8 rfl rfl rfl dX8_stepOn_33 (fun σ_32 H locs h1 hZ => ?_)
        refine lv_goto (tgt := 0) hx hb dX8_stepOn_36 (by decide) ?_
        exact ih0  _ _ _ _  hZ (lv_sub hl [0] rfl) (zback h1 hz1)
      replace h1 : FX8_stepOn_L0 k0 σ = some t1 := h1
      unfold FX8_stepOn_L0 at h1
      refine lv_aload_n hx hb dX8_stepOn_0 rfl (lv_at hl 0 rfl) ?_
      refine lv_aload_n hx hb dX8_stepOn_1 rfl (lv_at hl 0 rfl) ?_
      refine z_geti C0 hZ hk0 fRX8_174 rfl dX8_stepOn_2 ?_
      refine z_cVi (As := [.int (σ k0 19)]) (rest := []) C0 hZ h1 (fun _ hf => kX8_byteAt l hk0 hf) mRX8_177 vX8_byteAt hk0 rfl rfl hl.1 (Nat.le_of_ble_eq_true rfl) ⟨Nat.le_of_ble_eq_true rfl, Nat.le_of_ble_eq_true rfl⟩ dX8_stepOn_5 ⟨Nat.le_of_ble_eq_true rfl, Nat.le_of_ble_eq_true rfl⟩ (fun r_34 σ_33 H locs h1 hZ => ?_)
      refine lv_bipush (v := 32) hx hb dX8_stepOn_8 (by decide) ?_
      refine z_ic_eq (tgt := 26) C0 h1 dX8_stepOn_10 (by decide) (fun h1 => ?_) (fun h1 => ?_)
      · exact J26  _ _ _ _  hZ (lv_sub hl [0] rfl) h1
      refine lv_aload_n hx hb dX8_stepOn_13 rfl (lv_at hl 0 rfl) ?_
      refine lv_aload_n hx hb dX8_stepOn_14 rfl (lv_at hl 0 rfl) ?_
      refine z_geti C0 hZ hk0 fRX8_174 rfl dX8_stepOn_15 ?_
      refine z_cVi (As := [.int (σ_33 k0 19)]) (rest := []) C0 hZ h1 (fun _ hf => kX8_byteAt l hk0 hf) mRX8_177 vX8_byteAt hk0 rfl rfl hl.1 (Nat.le_of_ble_eq_true rfl) ⟨Nat.le_of_ble_eq_true rfl, Nat.le_of_ble_eq_true rfl⟩ dX8_stepOn_18 ⟨Nat.le_of_ble_eq_true rfl, Nat.le_of_ble_eq_true rfl⟩ (fun r_36 σ_35 H locs h1 hZ => ?_)
      refine lv_bipush (v := 10) hx hb dX8_stepOn_21 (by decide) ?_
      refine z_ic_ne (tgt := 39) C0 h1 dX8_stepOn_23 (by decide) (fun h1 => ?_) (fun h1 => ?_)
      · have h1 := zout h1 hz1
        exact J39  _ _ _ _  hZ (lv_sub hl [0] rfl) h1
      exact J26  _ _ _ _  hZ (lv_sub hl [0] rfl) h1
  obtain ⟨n, h1⟩ := zlp_iff.mp h1
  exact J0 n  _ _ _ _  hZ (lv_sub hl [0] rfl) h1
