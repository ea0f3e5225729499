noncomputable def FX8_wrong (k0 : Nat) (x1 : Int32) (σ : zS) : Option (Int32 × zS) := if (σ k0 25) = 0 then zlet (zup σ k0 25 x1) (fun σ_1 => zlet (zup σ_1 k0 26 (σ_1 k0 23)) (fun σ_2 => some (0, σ_2))) else some (0, σ)
set_option maxHeartbeats 4000000 in
set_option maxRecDepth 100000 in
theorem kX8_wrong (l : Launch) {V : zV} {σ : zS} {t0 : Int32 × zS} {k0 : Nat} {x1 : Int32} (hk0 : kd 1 k0 = 8) (h1 : FX8_wrong k0 x1 σ = some t0) : zMv l yX8_wrong cX8_wrong 2 0 0 1 V σ t0 [.ref (zad V k0), .int x1] := by
  refine zMv_of (by decide) (Nat.le_of_ble_eq_true rfl) ?_
  intro p e s m below meth c A C0 hr hlk hZ ls hl
  generalize ([.ref (zad V k0), .int x1] : List Value).toArray = args at C0 ⊢
  obtain ⟨Q, hQ⟩ : ∃ Q, Q = MQ below (zQv 1 V t0 A) args s 0 0 A := ⟨_, rfl⟩
  rw [← hQ]
  have hx := C0.1
  have hb := C0.2.1
  have hl : lv_has ls 2 [(0, .ref (zad V k0)), (1, .int x1)] := hl
  unfold FX8_wrong at h1
  refine lv_aload_n hx hb dX8_wrong_0 rfl (lv_at hl 0 rfl) ?_
  refine z_geti C0 hZ hk0 fRX8_210 rfl dX8_wrong_1 ?_
  refine z_if_eq (tgt := 8) C0 h1 dX8_wrong_4 (by decide) (fun h1 => ?_) (fun h1 => ?_)
  · refine lv_aload_n hx hb dX8_wrong_8 rfl (lv_at hl 0 rfl) ?_
    refine lv_iload_n hx hb dX8_wrong_9 rfl (lv_at hl 1 rfl) ?_
    refine z_puti C0 hZ h1 hk0 fRX8_210 rfl tyX8_ok nmX8 rfl rfl rfl dX8_wrong_10 (fun σ_1 H locs h1 hZ => ?_)
    refine lv_aload_n hx hb dX8_wrong_13 rfl (lv_at hl 0 rfl) ?_
    refine lv_aload_n hx hb dX8_wrong_14 rfl (lv_at hl 0 rfl) ?_
    refine z_geti C0 hZ hk0 fRX8_181 rfl dX8_wrong_15 ?_
    refine z_puti C0 hZ h1 hk0 fRX8_213 rfl tyX8_ok nmX8 rfl rfl rfl dX8_wrong_18 (fun σ_2 H locs h1 hZ => ?_)
    rw [hQ]; exact z_vret C0 hr hlk hZ h1 dX8_wrong_21
  rw [hQ]; exact z_vret C0 hr hlk hZ h1 dX8_wrong_7
noncomputable def FX8_is_b82 (x2 : Int32) (σ : zS) : Option (Int32 × zS) := zgd (x2 == 0 || x2 == 1) (some (x2, σ))
noncomputable def FX8_is_b75 (k0 : Nat) (k1 : Nat) (x3 : Int32) (y0 : Int32) (σ : zS) : Option ((Int32 × Int32 × zS) ⊕ (Int32 × zS)) := zlet y0 (fun x2_1 => zlet (x3 + 1) (fun x3_2 => some (.inl (x2_1, x3_2, σ))))
noncomputable def FX8_is_L39 (k0 : Nat) (k1 : Nat) (x2 : Int32) (x3 : Int32) (σ : zS) : Option ((Int32 × Int32 × zS) ⊕ (Int32 × zS)) := if x2 = 0 then zinr (FX8_is_b82 x2 σ) else zbd (FJ0_length_8abf5 k1 σ) (fun r_4 σ_3 => if r_4 ≤ x3 then zinr (FX8_is_b82 x2 σ_3) else zbd (FJ0_charAt_5068e k1 x3 σ_3) (fun r_6 σ_5 => zin (ln 1 (k0 + 17)) ((σ_5 k0 23) + x3) (if r_6 = (σ_5 (k0 + 17) (Int32.toNatClampNeg ((σ_5 k0 23) + x3))) then FX8_is_b75 k0 k1 x3 1 σ_5 else FX8_is_b75 k0 k1 x3 0 σ_5)))
noncomputable def FX8_is_b36 (k0 : Nat) (k1 : Nat) (y0 : Int32) (σ : zS) : Option (Int32 × zS) := zlet y0 (fun x2_7 => zlet 0 (fun x3_8 => zlp (fun q => FX8_is_L39 k0 k1 q.1 q.2.1 q.2.2) (x2_7, x3_8, σ)))
noncomputable def FX8_is_b35 (k0 : Nat) (k1 : Nat) (σ : zS) : Option (Int32 × zS) := FX8_is_b36 k0 k1 0 σ
noncomputable def FX8_is (k0 : Nat) (k1 : Nat) (σ : zS) : Option (Int32 × zS) := if (σ k0 25) = 0 then if (σ k0 21) = 1 then zbd (FJ0_length_8abf5 k1 σ) (fun r_10 σ_9 => if r_10 = ((σ_9 k0 24) - (σ_9 k0 23)) then FX8_is_b36 k0 k1 1 σ_9 else FX8_is_b35 k0 k1 σ_9) else FX8_is_b35 k0 k1 σ else FX8_is_b35 k0 k1 σ
set_option maxHeartbeats 4000000 in
set_option maxRecDepth 100000 in
theorem kX8_is (l : Launch) {V : zV} {σ : zS} {t0 : Int32 × zS} {k0 : Nat} {k1 : Nat} (hk0 : kd 1 k0 = 8) (hk1 : k1 < zN) (h1 : FX8_is k0 k1 σ = some t0) : zMi l yX8_is cX8_is 4 (some .boolean) 4 85 1 V σ t0 [.ref (zad V k0), .ref (V.2.2.2.1 k1)] := by
  refine zMi_of (by decide) (Nat.le_of_ble_eq_true rfl) ?_
  intro p e s m below meth c A C0 hr hlk hZ ls hl
  generalize ([.ref (zad V k0), .ref (V.2.2.2.1 k1)] : List Value).toArray = args at C0 ⊢
  obtain ⟨Q, hQ⟩ : ∃ Q, Q = MQ below (zQi 1 V t0 A) args s 0 0 A := ⟨_, rfl⟩
  rw [← hQ]
  have hx := C0.1
  have hb := C0.2.1
  have hl : lv_has ls 4 [(0, .ref (zad V k0)), (1, .ref (V.2.2.2.1 k1))] := hl
  unfold FX8_is at h1
  have J82 : ∀ (x2 : Int32) (σ : zS) (H : Heap) (locs : List Loc) (ls : Array Slot), zZ 1 V A σ s H locs → lv_has ls 4 [(2, .int x2)] → FX8_is_b82 x2 σ = some t0 → W p l e (zrm 4 85) s m args below meth c H locs 0 0 Q (F0 m 82 ls []) := by
    intro x2 σ H locs ls  hZ hl h1
    unfold FX8_is_b82 at h1
    refine lv_iload_n hx hb dX8_is_82 rfl (lv_at hl 0 rfl) ?_
    rw [hQ]; exact z_zret C0 hr hlk hZ h1 dX8_is_83
  have J39 : ∀ (n : Nat) (x2 : Int32) (x3 : Int32) (σ : zS) (H : Heap) (locs : List Loc) (ls : Array Slot), zZ 1 V A σ s H locs → lv_has ls 4 [(0, .ref (zad V k0)), (1, .ref (V.2.2.2.1 k1)), (2, .int x2), (3, .int x3)] → zit (fun q => FX8_is_L39 k0 k1 q.1 q.2.1 q.2.2) n (x2, x3, σ) = some t0 → W p l e (zrm 4 85) s m args below meth c H locs 0 0 Q (F0 m 39 ls []) := by
    intro n
    induction n with
    | zero => intro x2 x3 σ H locs ls  _ _ h1; cases h1
    | succ n ih39 =>
      intro x2 x3 σ H locs ls  hZ hl h1
      obtain ⟨t1, h1, hz1⟩ := zit_1 h1
      have J75 : ∀ (x3 : Int32) (y0 : Int32) (σ : zS) (H : Heap) (locs : List Loc) (ls : Array Slot), zZ 1 V A σ s H locs → lv_has ls 4 [(0, .ref (zad V k0)), (1, .ref (V.2.2.2.1 k1)), (3, .int x3)] → FX8_is_b75 k0 k1 x3 y0 σ = some t1 → W p l e (zrm 4 85) s m args below meth c H locs 0 0 Q (F0 m 75 ls [.int y0]) := by
        intro x3 y0 σ H locs ls  hZ hl h1
        unfold FX8_is_b75 at h1
        refine z_istore_n C0 h1 hl (fun x2_1 => [(2, .int x2_1), (0, .ref (zad V k0)), (1, .ref (V.2.2.2.1 k1)), (3, .int x3)]) dX8_is_75 rfl (by decide) (fun _ => rfl) (fun x2_1 ls h1 hl => ?_)
        refine z_iinc (v := 1) C0 h1 hl (fun x3_2 => [(3, .int x3_2), (2, .int x2_1), (0, .ref (zad V k0)), (1, .ref (V.2.2.2.1 k1))]) dX8_is_76 (k := 3) rfl (by decide) (by decide) (fun _ => rfl) (fun x3_2 ls h1 hl => ?_)
        refine lv_goto (tgt := 39) hx hb dX8_is_79 (by decide) ?_
        exact ih39 x2_1 x3_2 _ _ _ _  hZ (lv_sub hl [2, 3, 1, 0] rfl) (zback h1 hz1)
      replace h1 : FX8_is_L39 k0 k1 x2 x3 σ = some t1 := h1
      unfold FX8_is_L39 at h1
      refine lv_iload_n hx hb dX8_is_39 rfl (lv_at hl 2 rfl) ?_
      refine z_if_eq (tgt := 82) C0 h1 dX8_is_40 (by decide) (fun h1 => ?_) (fun h1 => ?_)
      · have h1 := zout h1 hz1
        exact J82 x2 _ _ _ _  hZ (lv_sub hl [2] rfl) h1
      refine lv_iload_n hx hb dX8_is_43 rfl (lv_at hl 3 rfl) ?_
      refine lv_aload_n hx hb dX8_is_44 rfl (lv_at hl 1 rfl) ?_
      refine z_cTi (As := []) (rest := [.int x3]) C0 hZ h1 (fun _ hf => kJ0_length_8abf5 l hf) mRX8_216 wJ0_length_8abf5 hk1 rfl rfl rfl hl.1 (Nat.le_of_ble_eq_true rfl) ⟨Nat.le_of_ble_eq_true rfl, Nat.le_of_ble_eq_true rfl⟩ dX8_is_45 ⟨Nat.le_of_ble_eq_true rfl, Nat.le_of_ble_eq_true rfl⟩ (fun r_4 σ_3 H locs h1 hZ => ?_)
      refine z_ic_ge (tgt := 82) C0 h1 dX8_is_48 (by decide) (fun h1 => ?_) (fun h1 => ?_)
      · have h1 := zout h1 hz1
        exact J82 x2 _ _ _ _  hZ (lv_sub hl [2] rfl) h1
      refine lv_aload_n hx hb dX8_is_51 rfl (lv_at hl 1 rfl) ?_
      refine lv_iload_n hx hb dX8_is_52 rfl (lv_at hl 3 rfl) ?_
      refine z_cTi (As := [.int x3]) (rest := []) C0 hZ h1 (fun _ hf => kJ0_charAt_5068e l hf) mRX8_220 wJ0_charAt_5068e hk1 rfl rfl rfl hl.1 (Nat.le_of_ble_eq_true rfl) ⟨Nat.le_of_ble_eq_true rfl, Nat.le_of_ble_eq_true rfl⟩ dX8_is_53 ⟨Nat.le_of_ble_eq_true rfl, Nat.le_of_ble_eq_true rfl⟩ (fun r_6 σ_5 H locs h1 hZ => ?_)
      refine lv_aload_n hx hb dX8_is_56 rfl (lv_at hl 0 rfl) ?_
      refine z_getr C0 hZ hk0 fRX8_81 rfl dX8_is_57 ?_
      refine lv_aload_n hx hb dX8_is_60 rfl (lv_at hl 0 rfl) ?_
      refine z_geti C0 hZ hk0 fRX8_181 rfl dX8_is_61 ?_
      refine lv_iload_n hx hb dX8_is_64 rfl (lv_at hl 3 rfl) ?_
      refine lv_iadd hx hb dX8_is_65 ?_
      refine z_iald C0 hZ h1 (zkt8_17 hk0) dX8_is_66 (fun h1 => ?_)
      refine z_ic_ne (tgt := 74) C0 h1 dX8_is_67 (by decide) (fun h1 => ?_) (fun h1 => ?_)
      · refine lv_iconst (v := 0) hx hb dX8_is_74 (by decide) ?_
        exact J75 x3 0 _ _ _ _  hZ (lv_sub hl [0, 1, 3] rfl) h1
      refine lv_iconst (v := 1) hx hb dX8_is_70 (by decide) ?_
      refine lv_goto (tgt := 75) hx hb dX8_is_71 (by decide) ?_
      exact J75 x3 1 _ _ _ _  hZ (lv_sub hl [0, 1, 3] rfl) h1
  have J36 : ∀ (y0 : Int32) (σ : zS) (H : Heap) (locs : List Loc) (ls : Array Slot), zZ 1 V A σ s H locs → lv_has ls 4 [(0, .ref (zad V k0)), (1, .ref (V.2.2.2.1 k1))] → FX8_is_b36 k0 k1 y0 σ = some t0 → W p l e (zrm 4 85) s m args below meth c H locs 0 0 Q (F0 m 36 ls [.int y0]) := by
    intro y0 σ H locs ls  hZ hl h1
    unfold FX8_is_b36 at h1
    refine z_istore_n C0 h1 hl (fun x2_7 => [(2, .int x2_7), (0, .ref (zad V k0)), (1, .ref (V.2.2.2.1 k1))]) dX8_is_36 rfl (by decide) (fun _ => rfl) (fun x2_7 ls h1 hl => ?_)
    refine lv_iconst (v := 0) hx hb dX8_is_37 (by decide) ?_
    refine z_istore_n C0 h1 hl (fun x3_8 => [(3, .int x3_8), (2, .int x2_7), (0, .ref (zad V k0)), (1, .ref (V.2.2.2.1 k1))]) dX8_is_38 rfl (by decide) (fun _ => rfl) (fun x3_8 ls h1 hl => ?_)
    obtain ⟨n, h1⟩ := zlp_iff.mp h1
    exact J39 n x2_7 x3_8 _ _ _ _  hZ (lv_sub hl [2, 3, 1, 0] rfl) h1
  have J35 : ∀  (σ : zS) (H : Heap) (locs : List Loc) (ls : Array Slot), zZ 1 V A σ s H locs → lv_has ls 4 [(0, .ref (zad V k0)), (1, .ref (V.2.2.2.1 k1))] → FX8_is_b35 k0 k1 σ = some t0 → W p l e (zrm 4 85) s m args below meth c H locs 0 0 Q (F0 m 35 ls []) := by
    intro  σ H locs ls  hZ hl h1
    unfold FX8_is_b35 at h1
    refine lv_iconst (v := 0) hx hb dX8_is_35 (by decide) ?_
    exact J36 0 _ _ _ _  hZ (lv_sub hl [0, 1] rfl) h1
  refine lv_aload_n hx hb dX8_is_0 rfl (lv_at hl 0 rfl) ?_
  refine z_geti C0 hZ hk0 fRX8_210 rfl dX8_is_1 ?_
  refine z_if_ne (tgt := 35) C0 h1 dX8_is_4 (by decide) (fun h1 => ?_) (fun h1 => ?_)
  · exact J35  _ _ _ _  hZ (lv_sub hl [0, 1] rfl) h1
  refine lv_aload_n hx hb dX8_is_7 rfl (lv_at hl 0 rfl) ?_
  refine z_geti C0 hZ hk0 fRX8_184 rfl dX8_is_8 ?_
  refine lv_iconst (v := 1) hx hb dX8_is_11 (by decide) ?_
  refine z_ic_ne (tgt := 35) C0 h1 dX8_is_12 (by decide) (fun h1 => ?_) (fun h1 => ?_)
  · exact J35  _ _ _ _  hZ (lv_sub hl [0, 1] rfl) h1
  refine lv_aload_n hx hb dX8_is_15 rfl (lv_at hl 1 rfl) ?_
  refine z_cTi (As := []) (rest := []) C0 hZ h1 (fun _ hf => kJ0_length_8abf5 l hf) mRX8_216 wJ0_length_8abf5 hk1 rfl rfl rfl hl.1 (Nat.le_of_ble_eq_true rfl) ⟨Nat.le_of_ble_eq_true rfl, Nat.le_of_ble_eq_true rfl⟩ dX8_is_16 ⟨Nat.le_of_ble_eq_true rfl, Nat.le_of_ble_eq_true rfl⟩ (fun r_10 σ_9 H locs h1 hZ => ?_)
  refine lv_aload_n hx hb dX8_is_19 rfl (lv_at hl 0 rfl) ?_
  refine z_geti C0 hZ hk0 fRX8_207 rfl dX8_is_20 ?_
  refine lv_aload_n hx hb dX8_is_23 rfl (lv_at hl 0 rfl) ?_
  refine z_geti C0 hZ hk0 fRX8_181 rfl dX8_is_24 ?_
  refine lv_isub hx hb dX8_is_27 ?_
  refine z_ic_ne (tgt := 35) C0 h1 dX8_is_28 (by decide) (fun h1 => ?_) (fun h1 => ?_)
  · exact J35  _ _ _ _  hZ (lv_sub hl [0, 1] rfl) h1
  refine lv_iconst (v := 1) hx hb dX8_is_31 (by decide) ?_
  refine lv_goto (tgt := 36) hx hb dX8_is_32 (by decide) ?_
  exact J36 1 _ _ _ _  hZ (lv_sub hl [0, 1] rfl) h1
noncomputable def FX8_which_b26  (σ : zS) : Option (Int32 × zS) := some ((-1), σ)
noncomputable def FX8_which_b18 (x2 : Int32) (σ : zS) : Option (Int32 × zS) := some (x2, σ)
noncomputable def FX8_which_L2 (k0 : Nat) (k1 : Nat) (x2 : Int32) (σ : zS) : Option ((Int32 × zS) ⊕ (Int32 × zS)) := if (nI (ln 1 k1)) ≤ x2 then zinr (FX8_which_b26  σ) else zin (ln 1 k1) x2 (zbd (FX8_is k0 (zst k1 (Int32.toNatClampNeg x2)) σ) (fun r_2 σ_1 => if r_2 = 0 then zlet (x2 + 1) (fun x2_3 => some (.inl (x2_3, σ_1))) else zinr (FX8_which_b18 x2 σ_1)))
noncomputable def FX8_which (k0 : Nat) (k1 : Nat) (σ : zS) : Option (Int32 × zS) := zlet 0 (fun x2_4 => zlp (fun q => FX8_which_L2 k0 k1 q.1 q.2) (x2_4, σ))
set_option maxHeartbeats 4000000 in
set_option maxRecDepth 100000 in
theorem kX8_which (l : Launch) {V : zV} {σ : zS} {t0 : Int32 × zS} {k0 : Nat} {k1 : Nat} (hk0 : kd 1 k0 = 8) (hk1 : kd 1 k1 = 101) (h1 : FX8_which k0 k1 σ = some t0) : zMi l yX8_which cX8_which 3 (some .int) 5 108 1 V σ t0 [.ref (zad V k0), .ref (zad V k1)] := by
  refine zMi_of (by decide) (Nat.le_of_ble_eq_true rfl) ?_
  intro p e s m below meth c A C0 hr hlk hZ ls hl
  generalize ([.ref (zad V k0), .ref (zad V k1)] : List Value).toArray = args at C0 ⊢
  obtain ⟨Q, hQ⟩ : ∃ Q, Q = MQ below (zQi 1 V t0 A) args s 0 0 A := ⟨_, rfl⟩
  rw [← hQ]
  have hx := C0.1
  have hb := C0.2.1
  have hl : lv_has ls 3 [(0, .ref (zad V k0)), (1, .ref (zad V k1))] := hl
  unfold FX8_which at h1
  have J26 : ∀  (σ : zS) (H : Heap) (locs : List Loc) (ls : Array Slot), zZ 1 V A σ s H locs → lv_has ls 3 [] → FX8_which_b26  σ = some t0 → W p l e (zrm 5 108) s m args below meth c H locs 0 0 Q (F0 m 26 ls []) := by
    intro  σ H locs ls  hZ hl h1
    unfold FX8_which_b26 at h1
    refine lv_iconst (v := (-1)) hx hb dX8_which_26 (by decide) ?_
    rw [hQ]; exact z_iret C0 hr hlk hZ h1 dX8_which_27
  have J18 : ∀ (x2 : Int32) (σ : zS) (H : Heap) (locs : List Loc) (ls : Array Slot), zZ 1 V A σ s H locs → lv_has ls 3 [(2, .int x2)] → FX8_which_b18 x2 σ = some t0 → W p l e (zrm 5 108) s m args below meth c H locs 0 0 Q (F0 m 18 ls []) := by
    intro x2 σ H locs ls  hZ hl h1
    unfold FX8_which_b18 at h1
    refine lv_iload_n hx hb dX8_which_18 rfl (lv_at hl 0 rfl) ?_
    rw [hQ]; exact z_iret C0 hr hlk hZ h1 dX8_which_19
  have J2 : ∀ (n : Nat) (x2 : Int32) (σ : zS) (H : Heap) (locs : List Loc) (ls : Array Slot), zZ 1 V A σ s H locs → lv_has ls 3 [(0, .ref (zad V k0)), (1, .ref (zad V k1)), (2, .int x2)] → zit (fun q => FX8_which_L2 k0 k1 q.1 q.2) n (x2, σ) = some t0 → W p l e (zrm 5 108) s m args below meth c H locs 0 0 Q (F0 m 2 ls []) := by
    intro n
    induction n with
    | zero => intro x2 σ H locs ls  _ _ h1; cases h1
    | succ n ih2 =>
      intro x2 σ H locs ls  hZ hl h1
      obtain ⟨t1, h1, hz1⟩ := zit_1 h1
      replace h1 : FX8_which_L2 k0 k1 x2 σ = some t1 := h1
      unfold FX8_which_L2 at h1
      refine lv_iload_n hx hb dX8_which_2 rfl (lv_at hl 2 rfl) ?_
      refine lv_aload_n hx hb dX8_which_3 rfl (lv_at hl 1 rfl) ?_
      refine z_alenS C0 hZ hk1 dX8_which_4 ?_
      refine z_ic_ge (tgt := 26) C0 h1 dX8_which_5 (by decide) (fun h1 => ?_) (fun h1 => ?_)
      · have h1 := zout h1 hz1
        exact J26  _ _ _ _  hZ (lv_sub hl [] rfl) h1
      refine lv_aload_n hx hb dX8_which_8 rfl (lv_at hl 0 rfl) ?_
      refine lv_aload_n hx hb dX8_which_9 rfl (lv_at hl 1 rfl) ?_
      refine lv_iload_n hx hb dX8_which_10 rfl (lv_at hl 2 rfl) ?_
      refine z_aald C0 hZ h1 hk1 dX8_which_11 (fun h1 => ?_)
      refine z_cVi (As := [.ref (V.2.2.2.1 (zst k1 (Int32.toNatClampNeg x2)))]) (rest := []) C0 hZ h1 (fun _ hf => kX8_is l hk0 (zst_lt _ _) hf) mRX8_224 vX8_is hk0 rfl rfl hl.1 (Nat.le_of_ble_eq_true rfl) ⟨Nat.le_of_ble_eq_true rfl, Nat.le_of_ble_eq_true rfl⟩ dX8_which_12 ⟨Nat.le_of_ble_eq_true rfl, Nat.le_of_ble_eq_true rfl⟩ (fun r_2 σ_1 H locs h1 hZ => ?_)
      refine z_if_eq (tgt := 20) C0 h1 dX8_which_15 (by decide) (fun h1 => ?_) (fun h1 => ?_)
      · refine z_iinc (v := 1) C0 h1 hl (fun x2_3 => [(2, .int x2_3), (0, .ref (zad V k0)), (1, .ref (zad V k1))]) dX8_which_20 (k := 2) rfl (by decide) (by decide) (fun _ => rfl) (fun x2_3 ls h1 hl => ?_)
        refine lv_goto (tgt := 2) hx hb dX8_which_23 (by decide) ?_
        exact ih2 x2_3 _ _ _ _  hZ (lv_sub hl [1, 2, 0] rfl) (zback h1 hz1)
      have h1 := zout h1 hz1
      exact J18 x2 _ _ _ _  hZ (lv_sub hl [2] rfl) h1
  refine lv_iconst (v := 0) hx hb dX8_which_0 (by decide) ?_
  refine z_istore_n C0 h1 hl (fun x2_4 => [(2, .int x2_4), (0, .ref (zad V k0)), (1, .ref (zad V k1))]) dX8_which_1 rfl (by decide) (fun _ => rfl) (fun x2_4 ls h1 hl => ?_)
  obtain ⟨n, h1⟩ := zlp_iff.mp h1
  exact J2 n x2_4 _ _ _ _  hZ (lv_sub hl [1, 2, 0] rfl) h1
noncomputable def FX8_isMarked_b33 (y0 : Int32) (σ : zS) : Option (Int32 × zS) := zgd (y0 == 0 || y0 == 1) (some (y0, σ))
noncomputable def FX8_isMarked_b32  (σ : zS) : Option (Int32 × zS) := FX8_isMarked_b33 0 σ
noncomputable def FX8_isMarked (k0 : Nat) (x1 : Int32) (σ : zS) : Option (Int32 × zS) := if (σ k0 25) = 0 then if (σ k0 21) = 3 then zin (ln 1 (k0 + 17)) (σ k0 23) (if (σ (k0 + 17) (Int32.toNatClampNeg (σ k0 23))) = x1 then FX8_isMarked_b33 1 σ else FX8_isMarked_b32  σ) else FX8_isMarked_b32  σ else FX8_isMarked_b32  σ
set_option maxHeartbeats 4000000 in
set_option maxRecDepth 100000 in
theorem kX8_isMarked (l : Launch) {V : zV} {σ : zS} {t0 : Int32 × zS} {k0 : Nat} {x1 : Int32} (hk0 : kd 1 k0 = 8) (h1 : FX8_isMarked k0 x1 σ = some t0) : zMi l yX8_isMarked cX8_isMarked 2 (some .boolean) 0 0 1 V σ t0 [.ref (zad V k0), .int x1] := by
  refine zMi_of (by decide) (Nat.le_of_ble_eq_true rfl) ?_
  intro p e s m below meth c A C0 hr hlk hZ ls hl
  generalize ([.ref (zad V k0), .int x1] : List Value).toArray = args at C0 ⊢
  obtain ⟨Q, hQ⟩ : ∃ Q, Q = MQ below (zQi 1 V t0 A) args s 0 0 A := ⟨_, rfl⟩
  rw [← hQ]
  have hx := C0.1
  have hb := C0.2.1
  have hl : lv_has ls 2 [(0, .ref (zad V k0)), (1, .int x1)] := hl
  unfold FX8_isMarked at h1
  have J33 : ∀ (y0 : Int32) (σ : zS) (H : Heap) (locs : List Loc) (ls : Array Slot), zZ 1 V A σ s H locs → lv_has ls 2 [] → FX8_isMarked_b33 y0 σ = some t0 → W p l e (zrm 0 0) s m args below meth c H locs 0 0 Q (F0 m 33 ls [.int y0]) := by
    intro y0 σ H locs ls  hZ hl h1
    unfold FX8_isMarked_b33 at h1
    rw [hQ]; exact z_zret C0 hr hlk hZ h1 dX8_isMarked_33
  have J32 : ∀  (σ : zS) (H : Heap) (locs : List Loc) (ls : Array Slot), zZ 1 V A σ s H locs → lv_has ls 2 [] → FX8_isMarked_b32  σ = some t0 → W p l e (zrm 0 0) s m args below meth c H locs 0 0 Q (F0 m 32 ls []) := by
    intro  σ H locs ls  hZ hl h1
    unfold FX8_isMarked_b32 at h1
    refine lv_iconst (v := 0) hx hb dX8_isMarked_32 (by decide) ?_
    exact J33 0 _ _ _ _  hZ (lv_sub hl [] rfl) h1
  refine lv_aload_n hx hb dX8_isMarked_0 rfl (lv_at hl 0 rfl) ?_
  refine z_geti C0 hZ hk0 fRX8_210 rfl dX8_isMarked_1 ?_
  refine z_if_ne (tgt := 32) C0 h1 dX8_isMarked_4 (by decide) (fun h1 => ?_) (fun h1 => ?_)
  · exact J32  _ _ _ _  hZ (lv_sub hl [] rfl) h1
  refine lv_aload_n hx hb dX8_isMarked_7 rfl (lv_at hl 0 rfl) ?_
  refine z_geti C0 hZ hk0 fRX8_184 rfl dX8_isMarked_8 ?_
  refine lv_iconst (v := 3) hx hb dX8_isMarked_11 (by decide) ?_
  refine z_ic_ne (tgt := 32) C0 h1 dX8_isMarked_12 (by decide) (fun h1 => ?_) (fun h1 => ?_)
  · exact J32  _ _ _ _  hZ (lv_sub hl [] rfl) h1
  refine lv_aload_n hx hb dX8_isMarked_15 rfl (lv_at hl 0 rfl) ?_
  refine z_getr C0 hZ hk0 fRX8_81 rfl dX8_isMarked_16 ?_
  refine lv_aload_n hx hb dX8_isMarked_19 rfl (lv_at hl 0 rfl) ?_
  refine z_geti C0 hZ hk0 fRX8_181 rfl dX8_isMarked_20 ?_
  refine z_iald C0 hZ h1 (zkt8_17 hk0) dX8_isMarked_23 (fun h1 => ?_)
  refine lv_iload_n hx hb dX8_isMarked_24 rfl (lv_at hl 1 rfl) ?_
  refine z_ic_ne (tgt := 32) C0 h1 dX8_isMarked_25 (by decide) (fun h1 => ?_) (fun h1 => ?_)
  · exact J32  _ _ _ _  hZ (lv_sub hl [] rfl) h1
  refine lv_iconst (v := 1) hx hb dX8_isMarked_28 (by decide) ?_
  refine lv_goto (tgt := 33) hx hb dX8_isMarked_29 (by decide) ?_
  exact J33 1 _ _ _ _  hZ (lv_sub hl [] rfl) h1
noncomputable def FX8_mark_b31  (σ : zS) : Option (Int32 × zS) := some (0, σ)
noncomputable def FX8_mark_b20 (k0 : Nat) (σ : zS) : Option (Int32 × zS) := if (σ k0 25) = 0 then zbd (FX8_stepOn k0 σ) (fun _ σ_1 => FX8_mark_b31  σ_1) else FX8_mark_b31  σ
noncomputable def FX8_mark (k0 : Nat) (x1 : Int32) (σ : zS) : Option (Int32 × zS) := if (σ k0 25) = 0 then zbd (FX8_isMarked k0 x1 σ) (fun r_4 σ_3 => if r_4 = 0 then zbd (FX8_wrong k0 1 σ_3) (fun _ σ_5 => FX8_mark_b20 k0 σ_5) else FX8_mark_b20 k0 σ_3) else FX8_mark_b20 k0 σ
set_option maxHeartbeats 4000000 in
set_option maxRecDepth 100000 in
theorem kX8_mark (l : Launch) {V : zV} {σ : zS} {t0 : Int32 × zS} {k0 : Nat} {x1 : Int32} (hk0 : kd 1 k0 = 8) (h1 : FX8_mark k0 x1 σ = some t0) : zMv l yX8_mark cX8_mark 2 2 61 1 V σ t0 [.ref (zad V k0), .int x1] := by
  refine zMv_of (by decide) (Nat.le_of_ble_eq_true rfl) ?_
  intro p e s m below meth c A C0 hr hlk hZ ls hl
  generalize ([.ref (zad V k0), .int x1] : List Value).toArray = args at C0 ⊢
  obtain ⟨Q, hQ⟩ : ∃ Q, Q = MQ below (zQv 1 V t0 A) args s 0 0 A := ⟨_, rfl⟩
  rw [← hQ]
  have hx := C0.1
  have hb := C0.2.1
  have hl : lv_has ls 2 [(0, .ref (zad V k0)), (1, .int x1)] := hl
  unfold FX8_mark at h1
  have J31 : ∀  (σ : zS) (H : Heap) (locs : List Loc) (ls : Array Slot), zZ 1 V A σ s H locs → lv_has ls 2 [] → FX8_mark_b31  σ = some t0 → W p l e (zrm 2 61) s m args below meth c H locs 0 0 Q (F0 m 31 ls []) := by
    intro  σ H locs ls  hZ hl h1
    unfold FX8_mark_b31 at h1
    rw [hQ]; exact z_vret C0 hr hlk hZ h1 dX8_mark_31
  have J20 : ∀  (σ : zS) (H : Heap) (locs : List Loc) (ls : Array Slot), zZ 1 V A σ s H locs → lv_has ls 2 [(0, .ref (zad V k0))] → FX8_mark_b20 k0 σ = some t0 → W p l e (zrm 2 61) s m args below meth c H locs 0 0 Q (F0 m 20 ls []) := by
    intro  σ H locs ls  hZ hl h1
    unfold FX8_mark_b20 at h1
    refine lv_aload_n hx hb dX8_mark_20 rfl (lv_at hl 0 rfl) ?_
    refine z_geti C0 hZ hk0 fRX8_210 rfl dX8_mark_21 ?_
    refine z_if_ne (tgt := 31) C0 h1 dX8_mark_24 (by decide) (fun h1 => ?_) (fun h1 => ?_)
    · exact J31  _ _ _ _  hZ (lv_sub hl [] rfl) h1
    refine lv_aload_n hx hb dX8_mark_27 rfl (lv_at hl 0 rfl) ?_
    refine z_cVv (As := []) (rest := []) C0 hZ h1 (fun _ hf => kX8_stepOn l hk0 hf) mRX8_235 vX8_stepOn hk0 rfl rfl hl.1 (Nat.le_of_ble_eq_true rfl) ⟨Nat.le_of_ble_eq_true rfl, Nat.le_of_ble_eq_true rfl⟩ dX8_mark_28 ⟨Nat.le_of_ble_eq_true rfl, Nat.le_of_ble_eq_true rfl⟩ (fun _ σ_1 H locs h1 hZ => ?_)
    exact J31  _ _ _ _  hZ (lv_sub hl [] rfl) h1
  refine lv_aload_n hx hb dX8_mark_0 rfl (lv_at hl 0 rfl) ?_
  refine z_geti C0 hZ hk0 fRX8_210 rfl dX8_mark_1 ?_
  refine z_if_ne (tgt := 20) C0 h1 dX8_mark_4 (by decide) (fun h1 => ?_) (fun h1 => ?_)
  · exact J20  _ _ _ _  hZ (lv_sub hl [0] rfl) h1
  refine lv_aload_n hx hb dX8_mark_7 rfl (lv_at hl 0 rfl) ?_
  refine lv_iload_n hx hb dX8_mark_8 rfl (lv_at hl 1 rfl) ?_
  refine z_cVi (As := [.int x1]) (rest := []) C0 hZ h1 (fun _ hf => kX8_isMarked l hk0 hf) mRX8_228 vX8_isMarked hk0 rfl rfl hl.1 (Nat.le_of_ble_eq_true rfl) ⟨Nat.le_of_ble_eq_true rfl, Nat.le_of_ble_eq_true rfl⟩ dX8_mark_9 ⟨Nat.le_of_ble_eq_true rfl, Nat.le_of_ble_eq_true rfl⟩ (fun r_4 σ_3 H locs h1 hZ => ?_)
  refine z_if_ne (tgt := 20) C0 h1 dX8_mark_12 (by decide) (fun h1 => ?_) (fun h1 => ?_)
  · exact J20  _ _ _ _  hZ (lv_sub hl [0] rfl) h1
  refine lv_aload_n hx hb dX8_mark_15 rfl (lv_at hl 0 rfl) ?_
  refine lv_iconst (v := 1) hx hb dX8_mark_16 (by decide) ?_
  refine z_cVv (As := [.int 1]) (rest := []) C0 hZ h1 (fun _ hf => kX8_wrong l hk0 hf) mRX8_231 vX8_wrong hk0 rfl rfl hl.1 (Nat.le_of_ble_eq_true rfl) ⟨Nat.le_of_ble_eq_true rfl, Nat.le_of_ble_eq_true rfl⟩ dX8_mark_17 ⟨Nat.le_of_ble_eq_true rfl, Nat.le_of_ble_eq_true rfl⟩ (fun _ σ_5 H locs h1 hZ => ?_)
  exact J20  _ _ _ _  hZ (lv_sub hl [0] rfl) h1
noncomputable def FX8_numberNow_b74 (y0 : Int32) (σ : zS) : Option (Int32 × zS) := some (y0, σ)
noncomputable def FX8_numberNow_b59 (k0 : Nat) (σ : zS) : Option (Int32 × zS) := if (σ k0 25) = 0 then FX8_numberNow_b74 (σ k0 22) σ else FX8_numberNow_b74 0 σ
noncomputable def FX8_numberNow_b54 (k0 : Nat) (σ : zS) : Option (Int32 × zS) := zbd (FX8_wrong k0 2 σ) (fun _ σ_1 => FX8_numberNow_b59 k0 σ_1)
noncomputable def FX8_numberNow (k0 : Nat) (x1 : Int32) (x2 : Int32) (σ : zS) : Option (Int32 × zS) := if (σ k0 25) = 0 then if (σ k0 21) = 2 then if 4 < ((σ k0 24) - (σ k0 23)) then FX8_numberNow_b54 k0 σ else if (σ k0 22) < x1 then FX8_numberNow_b54 k0 σ else if (σ k0 22) ≤ x2 then FX8_numberNow_b59 k0 σ else FX8_numberNow_b54 k0 σ else zbd (FX8_wrong k0 1 σ) (fun _ σ_3 => FX8_numberNow_b59 k0 σ_3) else some (0, σ)
set_option maxHeartbeats 4000000 in
set_option maxRecDepth 100000 in
theorem kX8_numberNow (l : Launch) {V : zV} {σ : zS} {t0 : Int32 × zS} {k0 : Nat} {x1 : Int32} {x2 : Int32} (hk0 : kd 1 k0 = 8) (h1 : FX8_numberNow k0 x1 x2 σ = some t0) : zMi l yX8_numberNow cX8_numberNow 3 (some .int) 1 21 1 V σ t0 [.ref (zad V k0), .int x1, .int x2] := by
  refine zMi_of (by decide) (Nat.le_of_ble_eq_true rfl) ?_
  intro p e s m below meth c A C0 hr hlk hZ ls hl
  generalize ([.ref (zad V k0), .int x1, .int x2] : List Value).toArray = args at C0 ⊢
  obtain ⟨Q, hQ⟩ : ∃ Q, Q = MQ below (zQi 1 V t0 A) args s 0 0 A := ⟨_, rfl⟩
  rw [← hQ]
  have hx := C0.1
  have hb := C0.2.1
  have hl : lv_has ls 3 [(0, .ref (zad V k0)), (1, .int x1), (2, .int x2)] := hl
  unfold FX8_numberNow at h1
  have J74 : ∀ (y0 : Int32) (σ : zS) (H : Heap) (locs : List Loc) (ls : Array Slot), zZ 1 V A σ s H locs → lv_has ls 3 [] → FX8_numberNow_b74 y0 σ = some t0 → W p l e (zrm 1 21) s m args below meth c H locs 0 0 Q (F0 m 74 ls [.int y0]) := by
    intro y0 σ H locs ls  hZ hl h1
    unfold FX8_numberNow_b74 at h1
    rw [hQ]; exact z_iret C0 hr hlk hZ h1 dX8_numberNow_74
  have J59 : ∀  (σ : zS) (H : Heap) (locs : List Loc) (ls : Array Slot), zZ 1 V A σ s H locs → lv_has ls 3 [(0, .ref (zad V k0))] → FX8_numberNow_b59 k0 σ = some t0 → W p l e (zrm 1 21) s m args below meth c H locs 0 0 Q (F0 m 59 ls []) := by
    intro  σ H locs ls  hZ hl h1
    unfold FX8_numberNow_b59 at h1
    refine lv_aload_n hx hb dX8_numberNow_59 rfl (lv_at hl 0 rfl) ?_
    refine z_geti C0 hZ hk0 fRX8_210 rfl dX8_numberNow_60 ?_
    refine z_if_ne (tgt := 73) C0 h1 dX8_numberNow_63 (by decide) (fun h1 => ?_) (fun h1 => ?_)
    · refine lv_iconst (v := 0) hx hb dX8_numberNow_73 (by decide) ?_
      exact J74 0 _ _ _ _  hZ (lv_sub hl [] rfl) h1
    refine lv_aload_n hx hb dX8_numberNow_66 rfl (lv_at hl 0 rfl) ?_
    refine z_geti C0 hZ hk0 fRX8_194 rfl dX8_numberNow_67 ?_
    refine lv_goto (tgt := 74) hx hb dX8_numberNow_70 (by decide) ?_
    exact J74 (σ k0 22) _ _ _ _  hZ (lv_sub hl [] rfl) h1
  have J54 : ∀  (σ : zS) (H : Heap) (locs : List Loc) (ls : Array Slot), zZ 1 V A σ s H locs → lv_has ls 3 [(0, .ref (zad V k0))] → FX8_numberNow_b54 k0 σ = some t0 → W p l e (zrm 1 21) s m args below meth c H locs 0 0 Q (F0 m 54 ls []) := by
    intro  σ H locs ls  hZ hl h1
    unfold FX8_numberNow_b54 at h1
    refine lv_aload_n hx hb dX8_numberNow_54 rfl (lv_at hl 0 rfl) ?_
    refine lv_iconst (v := 2) hx hb dX8_numberNow_55 (by decide) ?_
    refine z_cVv (As := [.int 2]) (rest := []) C0 hZ h1 (fun _ hf => kX8_wrong l hk0 hf) mRX8_231 vX8_wrong hk0 rfl rfl hl.1 (Nat.le_of_ble_eq_true rfl) ⟨Nat.le_of_ble_eq_true rfl, Nat.le_of_ble_eq_true rfl⟩ dX8_numberNow_56 ⟨Nat.le_of_ble_eq_true rfl, Nat.le_of_ble_eq_true rfl⟩ (fun _ σ_1 H locs h1 hZ => ?_)
    exact J59  _ _ _ _  hZ (lv_sub hl [0] rfl) h1
  refine lv_aload_n hx hb dX8_numberNow_0 rfl (lv_at hl 0 rfl) ?_
  refine z_geti C0 hZ hk0 fRX8_210 rfl dX8_numberNow_1 ?_
  refine z_if_eq (tgt := 9) C0 h1 dX8_numberNow_4 (by decide) (fun h1 => ?_) (fun h1 => ?_)
  · refine lv_aload_n hx hb dX8_numberNow_9 rfl (lv_at hl 0 rfl) ?_
    refine z_geti C0 hZ hk0 fRX8_184 rfl dX8_numberNow_10 ?_
    refine lv_iconst (v := 2) hx hb dX8_numberNow_13 (by decide) ?_
    refine z_ic_eq (tgt := 25) C0 h1 dX8_numberNow_14 (by decide) (fun h1 => ?_) (fun h1 => ?_)
    · refine lv_aload_n hx hb dX8_numberNow_25 rfl (lv_at hl 0 rfl) ?_
      refine z_geti C0 hZ hk0 fRX8_207 rfl dX8_numberNow_26 ?_
      refine lv_aload_n hx hb dX8_numberNow_29 rfl (lv_at hl 0 rfl) ?_
      refine z_geti C0 hZ hk0 fRX8_181 rfl dX8_numberNow_30 ?_
      refine lv_isub hx hb dX8_numberNow_33 ?_
      refine lv_iconst (v := 4) hx hb dX8_numberNow_34 (by decide) ?_
      refine z_ic_gt (tgt := 54) C0 h1 dX8_numberNow_35 (by decide) (fun h1 => ?_) (fun h1 => ?_)
      · exact J54  _ _ _ _  hZ (lv_sub hl [0] rfl) h1
      refine lv_aload_n hx hb dX8_numberNow_38 rfl (lv_at hl 0 rfl) ?_
      refine z_geti C0 hZ hk0 fRX8_194 rfl dX8_numberNow_39 ?_
      refine lv_iload_n hx hb dX8_numberNow_42 rfl (lv_at hl 1 rfl) ?_
      refine z_ic_lt (tgt := 54) C0 h1 dX8_numberNow_43 (by decide) (fun h1 => ?_) (fun h1 => ?_)
      · exact J54  _ _ _ _  hZ (lv_sub hl [0] rfl) h1
      refine lv_aload_n hx hb dX8_numberNow_46 rfl (lv_at hl 0 rfl) ?_
      refine z_geti C0 hZ hk0 fRX8_194 rfl dX8_numberNow_47 ?_
      refine lv_iload_n hx hb dX8_numberNow_50 rfl (lv_at hl 2 rfl) ?_
      refine z_ic_le (tgt := 59) C0 h1 dX8_numberNow_51 (by decide) (fun h1 => ?_) (fun h1 => ?_)
      · exact J59  _ _ _ _  hZ (lv_sub hl [0] rfl) h1
      exact J54  _ _ _ _  hZ (lv_sub hl [0] rfl) h1
    refine lv_aload_n hx hb dX8_numberNow_17 rfl (lv_at hl 0 rfl) ?_
    refine lv_iconst (v := 1) hx hb dX8_numberNow_18 (by decide) ?_
    refine z_cVv (As := [.int 1]) (rest := []) C0 hZ h1 (fun _ hf => kX8_wrong l hk0 hf) mRX8_231 vX8_wrong hk0 rfl rfl hl.1 (Nat.le_of_ble_eq_true rfl) ⟨Nat.le_of_ble_eq_true rfl, Nat.le_of_ble_eq_true rfl⟩ dX8_numberNow_19 ⟨Nat.le_of_ble_eq_true rfl, Nat.le_of_ble_eq_true rfl⟩ (fun _ σ_3 H locs h1 hZ => ?_)
    refine lv_goto (tgt := 59) hx hb dX8_numberNow_22 (by decide) ?_
    exact J59  _ _ _ _  hZ (lv_sub hl [0] rfl) h1
  refine lv_iconst (v := 0) hx hb dX8_numberNow_7 (by decide) ?_
  rw [hQ]; exact z_iret C0 hr hlk hZ h1 dX8_numberNow_8
noncomputable def FX8_readNumber_b18 (x3 : Int32) (σ : zS) : Option (Int32 × zS) := some (x3, σ)
noncomputable def FX8_readNumber (k0 : Nat) (x1 : Int32) (x2 : Int32) (σ : zS) : Option (Int32 × zS) := zbd (FX8_numberNow k0 x1 x2 σ) (fun r_2 σ_1 => zlet r_2 (fun x3_3 => if (σ_1 k0 25) = 0 then zbd (FX8_stepOn k0 σ_1) (fun _ σ_4 => FX8_readNumber_b18 x3_3 σ_4) else FX8_readNumber_b18 x3_3 σ_1))
set_option maxHeartbeats 4000000 in
set_option maxRecDepth 100000 in
theorem kX8_readNumber (l : Launch) {V : zV} {σ : zS} {t0 : Int32 × zS} {k0 : Nat} {x1 : Int32} {x2 : Int32} (hk0 : kd 1 k0 = 8) (h1 : FX8_readNumber k0 x1 x2 σ = some t0) : zMi l yX8_readNumber cX8_readNumber 4 (some .int) 2 61 1 V σ t0 [.ref (zad V k0), .int x1, .int x2] := by
  refine zMi_of (by decide) (Nat.le_of_ble_eq_true rfl) ?_
  intro p e s m below meth c A C0 hr hlk hZ ls hl
  generalize ([.ref (zad V k0), .int x1, .int x2] : List Value).toArray = args at C0 ⊢
  obtain ⟨Q, hQ⟩ : ∃ Q, Q = MQ below (zQi 1 V t0 A) args s 0 0 A := ⟨_, rfl⟩
  rw [← hQ]
  have hx := C0.1
  have hb := C0.2.1
  have hl : lv_has ls 4 [(0, .ref (zad V k0)), (1, .int x1), (2, .int x2)] := hl
  unfold FX8_readNumber at h1
  have J18 : ∀ (x3 : Int32) (σ : zS) (H : Heap) (locs : List Loc) (ls : Array Slot), zZ 1 V A σ s H locs → lv_has ls 4 [(3, .int x3)] → FX8_readNumber_b18 x3 σ = some t0 → W p l e (zrm 2 61) s m args below meth c H locs 0 0 Q (F0 m 18 ls []) := by
    intro x3 σ H locs ls  hZ hl h1
    unfold FX8_readNumber_b18 at h1
    refine lv_iload_n hx hb dX8_readNumber_18 rfl (lv_at hl 0 rfl) ?_
    rw [hQ]; exact z_iret C0 hr hlk hZ h1 dX8_readNumber_19
  refine lv_aload_n hx hb dX8_readNumber_0 rfl (lv_at hl 0 rfl) ?_
  refine lv_iload_n hx hb dX8_readNumber_1 rfl (lv_at hl 1 rfl) ?_
  refine lv_iload_n hx hb dX8_readNumber_2 rfl (lv_at hl 2 rfl) ?_
  refine z_cVi (As := [.int x1, .int x2]) (rest := []) C0 hZ h1 (fun _ hf => kX8_numberNow l hk0 hf) mRX8_238 vX8_numberNow hk0 rfl rfl hl.1 (Nat.le_of_ble_eq_true rfl) ⟨Nat.le_of_ble_eq_true rfl, Nat.le_of_ble_eq_true rfl⟩ dX8_readNumber_3 ⟨Nat.le_of_ble_eq_true rfl, Nat.le_of_ble_eq_true rfl⟩ (fun r_2 σ_1 H locs h1 hZ => ?_)
  refine z_istore_n C0 h1 hl (fun x3_3 => [(3, .int x3_3), (0, .ref (zad V k0)), (1, .int x1), (2, .int x2)]) dX8_readNumber_6 rfl (by decide) (fun _ => rfl) (fun x3_3 ls h1 hl => ?_)
  refine lv_aload_n hx hb dX8_readNumber_7 rfl (lv_at hl 1 rfl) ?_
  refine z_geti C0 hZ hk0 fRX8_210 rfl dX8_readNumber_8 ?_
  refine z_if_ne (tgt := 18) C0 h1 dX8_readNumber_11 (by decide) (fun h1 => ?_) (fun h1 => ?_)
  · exact J18 x3_3 _ _ _ _  hZ (lv_sub hl [0] rfl) h1
  refine lv_aload_n hx hb dX8_readNumber_14 rfl (lv_at hl 1 rfl) ?_
  refine z_cVv (As := []) (rest := []) C0 hZ h1 (fun _ hf => kX8_stepOn l hk0 hf) mRX8_235 vX8_stepOn hk0 rfl rfl hl.1 (Nat.le_of_ble_eq_true rfl) ⟨Nat.le_of_ble_eq_true rfl, Nat.le_of_ble_eq_true rfl⟩ dX8_readNumber_15 ⟨Nat.le_of_ble_eq_true rfl, Nat.le_of_ble_eq_true rfl⟩ (fun _ σ_4 H locs h1 hZ => ?_)
  exact J18 x3_3 _ _ _ _  hZ (lv_sub hl [0] rfl) h1
noncomputable def FX8_aisleNow_b44 (y0 : Int32) (σ : zS) : Option (Int32 × zS) := some (y0, σ)
noncomputable def FX8_aisleNow_b32 (k0 : Nat) (x1 : Int32) (σ : zS) : Option (Int32 × zS) := if (σ k0 25) = 0 then FX8_aisleNow_b44 x1 σ else FX8_aisleNow_b44 0 σ
noncomputable def FX8_aisleNow (k0 : Nat) (σ : zS) : Option (Int32 × zS) := zbd (FX8_numberNow k0 0 9999 σ) (fun r_2 σ_1 => zlet r_2 (fun x1_3 => if (σ_1 k0 25) = 0 then zin (ln 1 (k0 + 3)) 9 (if x1_3 < (σ_1 (k0 + 3) (Int32.toNatClampNeg 9)) then FX8_aisleNow_b32 k0 x1_3 σ_1 else zbd (FX8_wrong k0 3 σ_1) (fun _ σ_4 => FX8_aisleNow_b32 k0 x1_3 σ_4)) else FX8_aisleNow_b32 k0 x1_3 σ_1))
set_option maxHeartbeats 4000000 in
set_option maxRecDepth 100000 in
theorem kX8_aisleNow (l : Launch) {V : zV} {σ : zS} {t0 : Int32 × zS} {k0 : Nat} (hk0 : kd 1 k0 = 8) (h1 : FX8_aisleNow k0 σ = some t0) : zMi l yX8_aisleNow cX8_aisleNow 2 (some .int) 2 43 1 V σ t0 [.ref (zad V k0)] := by
  refine zMi_of (by decide) (Nat.le_of_ble_eq_true rfl) ?_
  intro p e s m below meth c A C0 hr hlk hZ ls hl
  generalize ([.ref (zad V k0)] : List Value).toArray = args at C0 ⊢
  obtain ⟨Q, hQ⟩ : ∃ Q, Q = MQ below (zQi 1 V t0 A) args s 0 0 A := ⟨_, rfl⟩
  rw [← hQ]
  have hx := C0.1
  have hb := C0.2.1
  have hl : lv_has ls 2 [(0, .ref (zad V k0))] := hl
  unfold FX8_aisleNow at h1
  have J44 : ∀ (y0 : Int32) (σ : zS) (H : Heap) (locs : List Loc) (ls : Array Slot), zZ 1 V A σ s H locs → lv_has ls 2 [] → FX8_aisleNow_b44 y0 σ = some t0 → W p l e (zrm 2 43) s m args below meth c H locs 0 0 Q (F0 m 44 ls [.int y0]) := by
    intro y0 σ H locs ls  hZ hl h1
    unfold FX8_aisleNow_b44 at h1
    rw [hQ]; exact z_iret C0 hr hlk hZ h1 dX8_aisleNow_44
  have J32 : ∀ (x1 : Int32) (σ : zS) (H : Heap) (locs : List Loc) (ls : Array Slot), zZ 1 V A σ s H locs → lv_has ls 2 [(0, .ref (zad V k0)), (1, .int x1)] → FX8_aisleNow_b32 k0 x1 σ = some t0 → W p l e (zrm 2 43) s m args below meth c H locs 0 0 Q (F0 m 32 ls []) := by
    intro x1 σ H locs ls  hZ hl h1
    unfold FX8_aisleNow_b32 at h1
    refine lv_aload_n hx hb dX8_aisleNow_32 rfl (lv_at hl 0 rfl) ?_
    refine z_geti C0 hZ hk0 fRX8_210 rfl dX8_aisleNow_33 ?_
    refine z_if_ne (tgt := 43) C0 h1 dX8_aisleNow_36 (by decide) (fun h1 => ?_) (fun h1 => ?_)
    · refine lv_iconst (v := 0) hx hb dX8_aisleNow_43 (by decide) ?_
      exact J44 0 _ _ _ _  hZ (lv_sub hl [] rfl) h1
    refine lv_iload_n hx hb dX8_aisleNow_39 rfl (lv_at hl 1 rfl) ?_
    refine lv_goto (tgt := 44) hx hb dX8_aisleNow_40 (by decide) ?_
    exact J44 x1 _ _ _ _  hZ (lv_sub hl [] rfl) h1
  refine lv_aload_n hx hb dX8_aisleNow_0 rfl (lv_at hl 0 rfl) ?_
  refine lv_iconst (v := 0) hx hb dX8_aisleNow_1 (by decide) ?_
  refine lv_sipush (v := 9999) hx hb dX8_aisleNow_2 (by decide) ?_
  refine z_cVi (As := [.int 0, .int 9999]) (rest := []) C0 hZ h1 (fun _ hf => kX8_numberNow l hk0 hf) mRX8_238 vX8_numberNow hk0 rfl rfl hl.1 (Nat.le_of_ble_eq_true rfl) ⟨Nat.le_of_ble_eq_true rfl, Nat.le_of_ble_eq_true rfl⟩ dX8_aisleNow_5 ⟨Nat.le_of_ble_eq_true rfl, Nat.le_of_ble_eq_true rfl⟩ (fun r_2 σ_1 H locs h1 hZ => ?_)
  refine z_istore_n C0 h1 hl (fun x1_3 => [(1, .int x1_3), (0, .ref (zad V k0))]) dX8_aisleNow_8 rfl (by decide) (fun _ => rfl) (fun x1_3 ls h1 hl => ?_)
  refine lv_aload_n hx hb dX8_aisleNow_9 rfl (lv_at hl 1 rfl) ?_
  refine z_geti C0 hZ hk0 fRX8_210 rfl dX8_aisleNow_10 ?_
  refine z_if_ne (tgt := 32) C0 h1 dX8_aisleNow_13 (by decide) (fun h1 => ?_) (fun h1 => ?_)
  · exact J32 x1_3 _ _ _ _  hZ (lv_sub hl [1, 0] rfl) h1
  refine lv_iload_n hx hb dX8_aisleNow_16 rfl (lv_at hl 0 rfl) ?_
  refine lv_aload_n hx hb dX8_aisleNow_17 rfl (lv_at hl 1 rfl) ?_
  refine z_getr C0 hZ hk0 fRX8_40 rfl dX8_aisleNow_18 ?_
  refine lv_bipush (v := 9) hx hb dX8_aisleNow_21 (by decide) ?_
  refine z_iald C0 hZ h1 (zkt8_3 hk0) dX8_aisleNow_23 (fun h1 => ?_)
  refine z_ic_lt (tgt := 32) C0 h1 dX8_aisleNow_24 (by decide) (fun h1 => ?_) (fun h1 => ?_)
  · exact J32 x1_3 _ _ _ _  hZ (lv_sub hl [1, 0] rfl) h1
  refine lv_aload_n hx hb dX8_aisleNow_27 rfl (lv_at hl 1 rfl) ?_
  refine lv_iconst (v := 3) hx hb dX8_aisleNow_28 (by decide) ?_
  refine z_cVv (As := [.int 3]) (rest := []) C0 hZ h1 (fun _ hf => kX8_wrong l hk0 hf) mRX8_231 vX8_wrong hk0 rfl rfl hl.1 (Nat.le_of_ble_eq_true rfl) ⟨Nat.le_of_ble_eq_true rfl, Nat.le_of_ble_eq_true rfl⟩ dX8_aisleNow_29 ⟨Nat.le_of_ble_eq_true rfl, Nat.le_of_ble_eq_true rfl⟩ (fun _ σ_4 H locs h1 hZ => ?_)
  exact J32 x1_3 _ _ _ _  hZ (lv_sub hl [1, 0] rfl) h1
noncomputable def FX8_putSign (k0 : Nat) (x1 : Int32) (σ : zS) : Option (Int32 × zS) := if (σ k0 25) = 0 then zin (ln 1 (k0 + 3)) 17 (zin (ln 1 (k0 + 15)) (700 + (σ (k0 + 3) (Int32.toNatClampNeg 17))) (zlet (zup σ (k0 + 15) (Int32.toNatClampNeg (700 + (σ (k0 + 3) (Int32.toNatClampNeg 17)))) x1) (fun σ_1 => zin (ln 1 (k0 + 3)) 17 (zin (ln 1 (k0 + 3)) 17 (zlet (zup σ_1 (k0 + 3) (Int32.toNatClampNeg 17) ((σ_1 (k0 + 3) (Int32.toNatClampNeg 17)) + 1)) (fun σ_2 => some (0, σ_2))))))) else some (0, σ)
set_option maxHeartbeats 4000000 in
set_option maxRecDepth 100000 in
theorem kX8_putSign (l : Launch) {V : zV} {σ : zS} {t0 : Int32 × zS} {k0 : Nat} {x1 : Int32} (hk0 : kd 1 k0 = 8) (h1 : FX8_putSign k0 x1 σ = some t0) : zMv l yX8_putSign cX8_putSign 2 0 0 1 V σ t0 [.ref (zad V k0), .int x1] := by
  refine zMv_of (by decide) (Nat.le_of_ble_eq_true rfl) ?_
  intro p e s m below meth c A C0 hr hlk hZ ls hl
  generalize ([.ref (zad V k0), .int x1] : List Value).toArray = args at C0 ⊢
  obtain ⟨Q, hQ⟩ : ∃ Q, Q = MQ below (zQv 1 V t0 A) args s 0 0 A := ⟨_, rfl⟩
  rw [← hQ]
  have hx := C0.1
  have hb := C0.2.1
  have hl : lv_has ls 2 [(0, .ref (zad V k0)), (1, .int x1)] := hl
  unfold FX8_putSign at h1
  refine lv_aload_n hx hb dX8_putSign_0 rfl (lv_at hl 0 rfl) ?_
  refine z_geti C0 hZ hk0 fRX8_210 rfl dX8_putSign_1 ?_
  refine z_if_eq (tgt := 8) C0 h1 dX8_putSign_4 (by decide) (fun h1 => ?_) (fun h1 => ?_)
  · refine lv_aload_n hx hb dX8_putSign_8 rfl (lv_at hl 0 rfl) ?_
    refine z_getr C0 hZ hk0 fRX8_75 rfl dX8_putSign_9 ?_
    refine lv_sipush (v := 700) hx hb dX8_putSign_12 (by decide) ?_
    refine lv_aload_n hx hb dX8_putSign_15 rfl (lv_at hl 0 rfl) ?_
    refine z_getr C0 hZ hk0 fRX8_40 rfl dX8_putSign_16 ?_
    refine lv_bipush (v := 17) hx hb dX8_putSign_19 (by decide) ?_
    refine z_iald C0 hZ h1 (zkt8_3 hk0) dX8_putSign_21 (fun h1 => ?_)
    refine lv_iadd hx hb dX8_putSign_22 ?_
    refine lv_iload_n hx hb dX8_putSign_23 rfl (lv_at hl 1 rfl) ?_
    refine z_iast C0 hZ h1 (zkt8_15 hk0) dX8_putSign_24 (fun σ_1 H locs h1 hZ => ?_)
    refine lv_aload_n hx hb dX8_putSign_25 rfl (lv_at hl 0 rfl) ?_
    refine z_getr C0 hZ hk0 fRX8_40 rfl dX8_putSign_26 ?_
    refine lv_bipush (v := 17) hx hb dX8_putSign_29 (by decide) ?_
    refine lv_dup2_11 hx hb dX8_putSign_31 rfl rfl ?_
    refine z_iald C0 hZ h1 (zkt8_3 hk0) dX8_putSign_32 (fun h1 => ?_)
    refine lv_iconst (v := 1) hx hb dX8_putSign_33 (by decide) ?_
    refine lv_iadd hx hb dX8_putSign_34 ?_
    refine z_iast C0 hZ h1 (zkt8_3 hk0) dX8_putSign_35 (fun σ_2 H locs h1 hZ => ?_)
    rw [hQ]; exact z_vret C0 hr hlk hZ h1 dX8_putSign_36
  rw [hQ]; exact z_vret C0 hr hlk hZ h1 dX8_putSign_7
