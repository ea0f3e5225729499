noncomputable def FX8_go_b133  (σ : zS) : Option (Int32 × zS) := some (0, σ)
noncomputable def FX8_go_L117 (k0 : Nat) (x1 : Int32) (x2 : Int32) (σ : zS) : Option ((Int32 × zS) ⊕ (Int32 × zS)) := if x1 < x2 then zinr (FX8_go_b133  σ) else zbd (FX8_minuteNow k0 x2 σ) (fun _ σ_1 => zlet (x2 + 1) (fun x2_3 => some (.inl (x2_3, σ_1))))
noncomputable def FX8_go_b115 (k0 : Nat) (x1 : Int32) (σ : zS) : Option (Int32 × zS) := zlet 1 (fun x2_4 => zlp (fun q => FX8_go_L117 k0 x1 q.1 q.2) (x2_4, σ))
noncomputable def FX8_go_L82 (k0 : Nat) (x1 : Int32) (x2 : Int32) (σ : zS) : Option ((Int32 × zS) ⊕ (Int32 × zS)) := if 8 ≤ x2 then zinr (FX8_go_b115 k0 x1 σ) else zin (ln 1 (k0 + 24)) x2 (zlet (zup σ (k0 + 24) (Int32.toNatClampNeg x2) (-1)) (fun σ_5 => zin (ln 1 (k0 + 25)) x2 (zlet (zup σ_5 (k0 + 25) (Int32.toNatClampNeg x2) (-1)) (fun σ_6 => zin (ln 1 (k0 + 26)) x2 (zlet (zup σ_6 (k0 + 26) (Int32.toNatClampNeg x2) 0) (fun σ_7 => zlet (x2 + 1) (fun x2_8 => some (.inl (x2_8, σ_7)))))))))
noncomputable def FX8_go_b37 (k0 : Nat) (x1 : Int32) (q0 : Nat) (y1 : Int32) (σ : zS) : Option (Int32 × zS) := zlet (zup σ q0 51 y1) (fun σ_9 => zlet (zup σ_9 k0 52 0) (fun σ_10 => zlet (zup σ_10 k0 53 0) (fun σ_11 => zlet (zup σ_11 k0 54 0) (fun σ_12 => zlet (zup σ_12 k0 55 0) (fun σ_13 => zlet (zup σ_13 k0 56 0) (fun σ_14 => zlet (zup σ_14 k0 57 0) (fun σ_15 => zlet (zup σ_15 k0 58 0) (fun σ_16 => zlet (zup σ_16 k0 59 0) (fun σ_17 => zlet 0 (fun x2_18 => zlp (fun q => FX8_go_L82 k0 x1 q.1 q.2) (x2_18, σ_17)))))))))))
noncomputable def FX8_go_b17 (k0 : Nat) (x1 : Int32) (q0 : Nat) (σ : zS) : Option (Int32 × zS) := FX8_go_b37 k0 x1 q0 (-1) σ
noncomputable def FX8_go (k0 : Nat) (x1 : Int32) (σ : zS) : Option (Int32 × zS) := if (σ k0 46) = 0 then FX8_go_b17 k0 x1 k0 σ else zin (ln 1 (k0 + 3)) 0 (if (σ (k0 + 3) (Int32.toNatClampNeg 0)) = 0 then FX8_go_b17 k0 x1 k0 σ else if (σ k0 46) = 3 then FX8_go_b37 k0 x1 k0 (σ k0 47) σ else FX8_go_b37 k0 x1 k0 0 σ)
set_option maxHeartbeats 4000000 in
set_option maxRecDepth 100000 in
theorem kX8_go (l : Launch) {V : zV} {σ : zS} {t0 : Int32 × zS} {k0 : Nat} {x1 : Int32} (hk0 : kd 1 k0 = 8) (h1 : FX8_go k0 x1 σ = some t0) : zMv l yX8_go cX8_go 3 4 96 1 V σ t0 [.ref (zad V k0), .int x1] := by
  refine zMv_of (by decide) (Nat.le_of_ble_eq_true rfl) ?_
  intro p e s m below meth c A C0 hr hlk hZ ls hl
  generalize ([.ref (zad V k0), .int x1] : List Value).toArray = args at C0 ⊢
  obtain ⟨Q, hQ⟩ : ∃ Q, Q = MQ below (zQv 1 V t0 A) args s 0 0 A := ⟨_, rfl⟩
  rw [← hQ]
  have hx := C0.1
  have hb := C0.2.1
  have hl : lv_has ls 3 [(0, .ref (zad V k0)), (1, .int x1)] := hl
  unfold FX8_go at h1
  have J133 : ∀  (σ : zS) (H : Heap) (locs : List Loc) (ls : Array Slot), zZ 1 V A σ s H locs → lv_has ls 3 [] → FX8_go_b133  σ = some t0 → W p l e (zrm 4 96) s m args below meth c H locs 0 0 Q (F0 m 133 ls []) := by
    intro  σ H locs ls  hZ hl h1
    unfold FX8_go_b133 at h1
    rw [hQ]; exact z_vret C0 hr hlk hZ h1 dX8_go_133
  have J117 : ∀ (n : Nat) (x2 : Int32) (σ : zS) (H : Heap) (locs : List Loc) (ls : Array Slot), zZ 1 V A σ s H locs → lv_has ls 3 [(0, .ref (zad V k0)), (1, .int x1), (2, .int x2)] → zit (fun q => FX8_go_L117 k0 x1 q.1 q.2) n (x2, σ) = some t0 → W p l e (zrm 4 96) s m args below meth c H locs 0 0 Q (F0 m 117 ls []) := by
    intro n
    induction n with
    | zero => intro x2 σ H locs ls  _ _ h1; cases h1
    | succ n ih117 =>
      intro x2 σ H locs ls  hZ hl h1
      obtain ⟨t1, h1, hz1⟩ := zit_1 h1
      replace h1 : FX8_go_L117 k0 x1 x2 σ = some t1 := h1
      unfold FX8_go_L117 at h1
      refine lv_iload_n hx hb dX8_go_117 rfl (lv_at hl 2 rfl) ?_
      refine lv_iload_n hx hb dX8_go_118 rfl (lv_at hl 1 rfl) ?_
      refine z_ic_gt (tgt := 133) C0 h1 dX8_go_119 (by decide) (fun h1 => ?_) (fun h1 => ?_)
      · have h1 := zout h1 hz1
        exact J133  _ _ _ _  hZ (lv_sub hl [] rfl) h1
      refine lv_aload_n hx hb dX8_go_122 rfl (lv_at hl 0 rfl) ?_
      refine lv_iload_n hx hb dX8_go_123 rfl (lv_at hl 2 rfl) ?_
      refine z_cVv (As := [.int x2]) (rest := []) C0 hZ h1 (fun _ hf => kX8_minuteNow l hk0 hf) mRX8_437 vX8_minuteNow hk0 rfl rfl hl.1 (Nat.le_of_ble_eq_true rfl) ⟨Nat.le_of_ble_eq_true rfl, Nat.le_of_ble_eq_true rfl⟩ dX8_go_124 ⟨Nat.le_of_ble_eq_true rfl, Nat.le_of_ble_eq_true rfl⟩ (fun _ σ_1 H locs h1 hZ => ?_)
      refine z_iinc (v := 1) C0 h1 hl (fun x2_3 => [(2, .int x2_3), (0, .ref (zad V k0)), (1, .int x1)]) dX8_go_127 (k := 2) rfl (by decide) (by decide) (fun _ => rfl) (fun x2_3 ls h1 hl => ?_)
      refine lv_goto (tgt := 117) hx hb dX8_go_130 (by decide) ?_
      exact ih117 x2_3 _ _ _ _  hZ (lv_sub hl [1, 2, 0] rfl) (zback h1 hz1)
  have J115 : ∀  (σ : zS) (H : Heap) (locs : List Loc) (ls : Array Slot), zZ 1 V A σ s H locs → lv_has ls 3 [(0, .ref (zad V k0)), (1, .int x1)] → FX8_go_b115 k0 x1 σ = some t0 → W p l e (zrm 4 96) s m args below meth c H locs 0 0 Q (F0 m 115 ls []) := by
    intro  σ H locs ls  hZ hl h1
    unfold FX8_go_b115 at h1
    refine lv_iconst (v := 1) hx hb dX8_go_115 (by decide) ?_
    refine z_istore_n C0 h1 hl (fun x2_4 => [(2, .int x2_4), (0, .ref (zad V k0)), (1, .int x1)]) dX8_go_116 rfl (by decide) (fun _ => rfl) (fun x2_4 ls h1 hl => ?_)
    obtain ⟨n, h1⟩ := zlp_iff.mp h1
    exact J117 n x2_4 _ _ _ _  hZ (lv_sub hl [1, 2, 0] rfl) h1
  have J82 : ∀ (n : Nat) (x2 : Int32) (σ : zS) (H : Heap) (locs : List Loc) (ls : Array Slot), zZ 1 V A σ s H locs → lv_has ls 3 [(0, .ref (zad V k0)), (1, .int x1), (2, .int x2)] → zit (fun q => FX8_go_L82 k0 x1 q.1 q.2) n (x2, σ) = some t0 → W p l e (zrm 4 96) s m args below meth c H locs 0 0 Q (F0 m 82 ls []) := by
    intro n
    induction n with
    | zero => intro x2 σ H locs ls  _ _ h1; cases h1
    | succ n ih82 =>
      intro x2 σ H locs ls  hZ hl h1
      obtain ⟨t1, h1, hz1⟩ := zit_1 h1
      replace h1 : FX8_go_L82 k0 x1 x2 σ = some t1 := h1
      unfold FX8_go_L82 at h1
      refine lv_iload_n hx hb dX8_go_82 rfl (lv_at hl 2 rfl) ?_
      refine lv_bipush (v := 8) hx hb dX8_go_83 (by decide) ?_
      refine z_ic_ge (tgt := 115) C0 h1 dX8_go_85 (by decide) (fun h1 => ?_) (fun h1 => ?_)
      · have h1 := zout h1 hz1
        exact J115  _ _ _ _  hZ (lv_sub hl [0, 1] rfl) h1
      refine lv_aload_n hx hb dX8_go_88 rfl (lv_at hl 0 rfl) ?_
      refine z_getr C0 hZ hk0 fRX8_108 rfl dX8_go_89 ?_
      refine lv_iload_n hx hb dX8_go_92 rfl (lv_at hl 2 rfl) ?_
      refine lv_iconst (v := (-1)) hx hb dX8_go_93 (by decide) ?_
      refine z_iast C0 hZ h1 (zkt8_43 hk0) dX8_go_94 (fun σ_5 H locs h1 hZ => ?_)
      refine lv_aload_n hx hb dX8_go_95 rfl (lv_at hl 0 rfl) ?_
      refine z_getr C0 hZ hk0 fRX8_111 rfl dX8_go_96 ?_
      refine lv_iload_n hx hb dX8_go_99 rfl (lv_at hl 2 rfl) ?_
      refine lv_iconst (v := (-1)) hx hb dX8_go_100 (by decide) ?_
      refine z_iast C0 hZ h1 (zkt8_44 hk0) dX8_go_101 (fun σ_6 H locs h1 hZ => ?_)
      refine lv_aload_n hx hb dX8_go_102 rfl (lv_at hl 0 rfl) ?_
      refine z_getr C0 hZ hk0 fRX8_114 rfl dX8_go_103 ?_
      refine lv_iload_n hx hb dX8_go_106 rfl (lv_at hl 2 rfl) ?_
      refine lv_iconst (v := 0) hx hb dX8_go_107 (by decide) ?_
      refine z_iast C0 hZ h1 (zkt8_45 hk0) dX8_go_108 (fun σ_7 H locs h1 hZ => ?_)
      refine z_iinc (v := 1) C0 h1 hl (fun x2_8 => [(2, .int x2_8), (0, .ref (zad V k0)), (1, .int x1)]) dX8_go_109 (k := 2) rfl (by decide) (by decide) (fun _ => rfl) (fun x2_8 ls h1 hl => ?_)
      refine lv_goto (tgt := 82) hx hb dX8_go_112 (by decide) ?_
      exact ih82 x2_8 _ _ _ _  hZ (lv_sub hl [1, 2, 0] rfl) (zback h1 hz1)
  have J37 : ∀ (q0 : Nat) (y1 : Int32) (σ : zS) (H : Heap) (locs : List Loc) (ls : Array Slot), kd 1 q0 = 8 → zZ 1 V A σ s H locs → lv_has ls 3 [(0, .ref (zad V k0)), (1, .int x1)] → FX8_go_b37 k0 x1 q0 y1 σ = some t0 → W p l e (zrm 4 96) s m args below meth c H locs 0 0 Q (F0 m 37 ls [.int y1, .ref (zad V q0)]) := by
    intro q0 y1 σ H locs ls hq0 hZ hl h1
    unfold FX8_go_b37 at h1
    refine z_puti C0 hZ h1 hq0 fRX8_378 rfl tyX8_ok nmX8 rfl rfl rfl dX8_go_37 (fun σ_9 H locs h1 hZ => ?_)
    refine lv_aload_n hx hb dX8_go_40 rfl (lv_at hl 0 rfl) ?_
    refine lv_iconst (v := 0) hx hb dX8_go_41 (by decide) ?_
    refine z_puti C0 hZ h1 hk0 fRX8_381 rfl tyX8_ok nmX8 rfl rfl rfl dX8_go_42 (fun σ_10 H locs h1 hZ => ?_)
    refine lv_aload_n hx hb dX8_go_45 rfl (lv_at hl 0 rfl) ?_
    refine lv_iconst (v := 0) hx hb dX8_go_46 (by decide) ?_
    refine z_puti C0 hZ h1 hk0 fRX8_386 rfl tyX8_ok nmX8 rfl rfl rfl dX8_go_47 (fun σ_11 H locs h1 hZ => ?_)
    refine lv_aload_n hx hb dX8_go_50 rfl (lv_at hl 0 rfl) ?_
    refine lv_iconst (v := 0) hx hb dX8_go_51 (by decide) ?_
    refine z_puti C0 hZ h1 hk0 fRX8_428 rfl tyX8_ok nmX8 rfl rfl rfl dX8_go_52 (fun σ_12 H locs h1 hZ => ?_)
    refine lv_aload_n hx hb dX8_go_55 rfl (lv_at hl 0 rfl) ?_
    refine lv_iconst (v := 0) hx hb dX8_go_56 (by decide) ?_
    refine z_puti C0 hZ h1 hk0 fRX8_395 rfl tyX8_ok nmX8 rfl rfl rfl dX8_go_57 (fun σ_13 H locs h1 hZ => ?_)
    refine lv_aload_n hx hb dX8_go_60 rfl (lv_at hl 0 rfl) ?_
    refine lv_iconst (v := 0) hx hb dX8_go_61 (by decide) ?_
    refine z_puti C0 hZ h1 hk0 fRX8_398 rfl tyX8_ok nmX8 rfl rfl rfl dX8_go_62 (fun σ_14 H locs h1 hZ => ?_)
    refine lv_aload_n hx hb dX8_go_65 rfl (lv_at hl 0 rfl) ?_
    refine lv_iconst (v := 0) hx hb dX8_go_66 (by decide) ?_
    refine z_puti C0 hZ h1 hk0 fRX8_401 rfl tyX8_ok nmX8 rfl rfl rfl dX8_go_67 (fun σ_15 H locs h1 hZ => ?_)
    refine lv_aload_n hx hb dX8_go_70 rfl (lv_at hl 0 rfl) ?_
    refine lv_iconst (v := 0) hx hb dX8_go_71 (by decide) ?_
    refine z_puti C0 hZ h1 hk0 fRX8_392 rfl tyX8_ok nmX8 rfl rfl rfl dX8_go_72 (fun σ_16 H locs h1 hZ => ?_)
    refine lv_aload_n hx hb dX8_go_75 rfl (lv_at hl 0 rfl) ?_
    refine lv_iconst (v := 0) hx hb dX8_go_76 (by decide) ?_
    refine z_puti C0 hZ h1 hk0 fRX8_389 rfl tyX8_ok nmX8 rfl rfl rfl dX8_go_77 (fun σ_17 H locs h1 hZ => ?_)
    refine lv_iconst (v := 0) hx hb dX8_go_80 (by decide) ?_
    refine z_istore_n C0 h1 hl (fun x2_18 => [(2, .int x2_18), (0, .ref (zad V k0)), (1, .int x1)]) dX8_go_81 rfl (by decide) (fun _ => rfl) (fun x2_18 ls h1 hl => ?_)
    obtain ⟨n, h1⟩ := zlp_iff.mp h1
    exact J82 n x2_18 _ _ _ _  hZ (lv_sub hl [1, 2, 0] rfl) h1
  have J17 : ∀ (q0 : Nat) (σ : zS) (H : Heap) (locs : List Loc) (ls : Array Slot), kd 1 q0 = 8 → zZ 1 V A σ s H locs → lv_has ls 3 [(0, .ref (zad V k0)), (1, .int x1)] → FX8_go_b17 k0 x1 q0 σ = some t0 → W p l e (zrm 4 96) s m args below meth c H locs 0 0 Q (F0 m 17 ls [.ref (zad V q0)]) := by
    intro q0 σ H locs ls hq0 hZ hl h1
    unfold FX8_go_b17 at h1
    refine lv_iconst (v := (-1)) hx hb dX8_go_17 (by decide) ?_
    refine lv_goto (tgt := 37) hx hb dX8_go_18 (by decide) ?_
    exact J37 q0 (-1) _ _ _ _ hq0 hZ (lv_sub hl [0, 1] rfl) h1
  refine lv_aload_n hx hb dX8_go_0 rfl (lv_at hl 0 rfl) ?_
  refine lv_aload_n hx hb dX8_go_1 rfl (lv_at hl 0 rfl) ?_
  refine z_geti C0 hZ hk0 fRX8_364 rfl dX8_go_2 ?_
  refine z_if_eq (tgt := 17) C0 h1 dX8_go_5 (by decide) (fun h1 => ?_) (fun h1 => ?_)
  · exact J17 k0 _ _ _ _ hk0 hZ (lv_sub hl [0, 1] rfl) h1
  refine lv_aload_n hx hb dX8_go_8 rfl (lv_at hl 0 rfl) ?_
  refine z_getr C0 hZ hk0 fRX8_40 rfl dX8_go_9 ?_
  refine lv_iconst (v := 0) hx hb dX8_go_12 (by decide) ?_
  refine z_iald C0 hZ h1 (zkt8_3 hk0) dX8_go_13 (fun h1 => ?_)
  refine z_if_ne (tgt := 21) C0 h1 dX8_go_14 (by decide) (fun h1 => ?_) (fun h1 => ?_)
  · refine lv_aload_n hx hb dX8_go_21 rfl (lv_at hl 0 rfl) ?_
    refine z_geti C0 hZ hk0 fRX8_364 rfl dX8_go_22 ?_
    refine lv_iconst (v := 3) hx hb dX8_go_25 (by decide) ?_
    refine z_ic_ne (tgt := 36) C0 h1 dX8_go_26 (by decide) (fun h1 => ?_) (fun h1 => ?_)
    · refine lv_iconst (v := 0) hx hb dX8_go_36 (by decide) ?_
      exact J37 k0 0 _ _ _ _ hk0 hZ (lv_sub hl [0, 1] rfl) h1
    refine lv_aload_n hx hb dX8_go_29 rfl (lv_at hl 0 rfl) ?_
    refine z_geti C0 hZ hk0 fRX8_367 rfl dX8_go_30 ?_
    refine lv_goto (tgt := 37) hx hb dX8_go_33 (by decide) ?_
    exact J37 k0 (σ k0 47) _ _ _ _ hk0 hZ (lv_sub hl [0, 1] rfl) h1
  exact J17 k0 _ _ _ _ hk0 hZ (lv_sub hl [0, 1] rfl) h1
noncomputable def FX8_dayNow_b64  (σ : zS) : Option (Int32 × zS) := some (0, σ)
noncomputable def FX8_dayNow_b58 (k0 : Nat) (x1 : Int32) (σ : zS) : Option ((Int32 × zS) ⊕ (Int32 × zS)) := zlet (x1 + 1) (fun x1_1 => some (.inl (x1_1, σ)))
noncomputable def FX8_dayNow_L8 (k0 : Nat) (x1 : Int32) (σ : zS) : Option ((Int32 × zS) ⊕ (Int32 × zS)) := zin (ln 1 (k0 + 3)) 3 (if (σ (k0 + 3) (Int32.toNatClampNeg 3)) ≤ x1 then zinr (FX8_dayNow_b64  σ) else zin (ln 1 (k0 + 25)) x1 (if (σ (k0 + 25) (Int32.toNatClampNeg x1)) = (-1) then FX8_dayNow_b58 k0 x1 σ else zin (ln 1 (k0 + 8)) x1 (if (σ (k0 + 8) (Int32.toNatClampNeg x1)) = 0 then zlet (zup σ k0 59 ((σ k0 59) + 1)) (fun σ_4 => FX8_dayNow_b58 k0 x1 σ_4) else zbd (FX8_putBack k0 x1 σ) (fun _ σ_2 => FX8_dayNow_b58 k0 x1 σ_2))))
noncomputable def FX8_dayNow (k0 : Nat) (σ : zS) : Option (Int32 × zS) := zbd (FX8_go k0 60 σ) (fun _ σ_5 => zlet 0 (fun x1_7 => zlp (fun q => FX8_dayNow_L8 k0 q.1 q.2) (x1_7, σ_5)))
set_option maxHeartbeats 4000000 in
set_option maxRecDepth 100000 in
theorem kX8_dayNow (l : Launch) {V : zV} {σ : zS} {t0 : Int32 × zS} {k0 : Nat} (hk0 : kd 1 k0 = 8) (h1 : FX8_dayNow k0 σ = some t0) : zMv l yX8_dayNow cX8_dayNow 2 5 118 1 V σ t0 [.ref (zad V k0)] := by
  refine zMv_of (by decide) (Nat.le_of_ble_eq_true rfl) ?_
  intro p e s m below meth c A C0 hr hlk hZ ls hl
  generalize ([.ref (zad V k0)] : List Value).toArray = args at C0 ⊢
  obtain ⟨Q, hQ⟩ : ∃ Q, Q = MQ below (zQv 1 V t0 A) args s 0 0 A := ⟨_, rfl⟩
  rw [← hQ]
  have hx := C0.1
  have hb := C0.2.1
  have hl : lv_has ls 2 [(0, .ref (zad V k0))] := hl
  unfold FX8_dayNow at h1
  have J64 : ∀  (σ : zS) (H : Heap) (locs : List Loc) (ls : Array Slot), zZ 1 V A σ s H locs → lv_has ls 2 [] → FX8_dayNow_b64  σ = some t0 → W p l e (zrm 5 118) s m args below meth c H locs 0 0 Q (F0 m 64 ls []) := by
    intro  σ H locs ls  hZ hl h1
    unfold FX8_dayNow_b64 at h1
    rw [hQ]; exact z_vret C0 hr hlk hZ h1 dX8_dayNow_64
  have J8 : ∀ (n : Nat) (x1 : Int32) (σ : zS) (H : Heap) (locs : List Loc) (ls : Array Slot), zZ 1 V A σ s H locs → lv_has ls 2 [(0, .ref (zad V k0)), (1, .int x1)] → zit (fun q => FX8_dayNow_L8 k0 q.1 q.2) n (x1, σ) = some t0 → W p l e (zrm 5 118) s m args below meth c H locs 0 0 Q (F0 m 8 ls []) := by
    intro n
    induction n with
    | zero => intro x1 σ H locs ls  _ _ h1; cases h1
    | succ n ih8 =>
      intro x1 σ H locs ls  hZ hl h1
      obtain ⟨t1, h1, hz1⟩ := zit_1 h1
      have J58 : ∀ (x1 : Int32) (σ : zS) (H : Heap) (locs : List Loc) (ls : Array Slot), zZ 1 V A σ s H locs → lv_has ls 2 [(0, .ref (zad V k0)), (1, .int x1)] → FX8_dayNow_b58 k0 x1 σ = some t1 → W p l e (zrm 5 118) s m args below meth c H locs 0 0 Q (F0 m 58 ls []) := by
        intro x1 σ H locs ls  hZ hl h1
        unfold FX8_dayNow_b58 at h1
        refine z_iinc (v := 1) C0 h1 hl (fun x1_1 => [(1, .int x1_1), (0, .ref (zad V k0))]) dX8_dayNow_58 (k := 1) rfl (by decide) (by decide) (fun _ => rfl) (fun x1_1 ls h1 hl => ?_)
        refine lv_goto (tgt := 8) hx hb dX8_dayNow_61 (by decide) ?_
        exact ih8 x1_1 _ _ _ _  hZ (lv_sub hl [1, 0] rfl) (zback h1 hz1)
      replace h1 : FX8_dayNow_L8 k0 x1 σ = some t1 := h1
      unfold FX8_dayNow_L8 at h1
      refine lv_iload_n hx hb dX8_dayNow_8 rfl (lv_at hl 1 rfl) ?_
      refine lv_aload_n hx hb dX8_dayNow_9 rfl (lv_at hl 0 rfl) ?_
      refine z_getr C0 hZ hk0 fRX8_40 rfl dX8_dayNow_10 ?_
      refine lv_iconst (v := 3) hx hb dX8_dayNow_13 (by decide) ?_
      refine z_iald C0 hZ h1 (zkt8_3 hk0) dX8_dayNow_14 (fun h1 => ?_)
      refine z_ic_ge (tgt := 64) C0 h1 dX8_dayNow_15 (by decide) (fun h1 => ?_) (fun h1 => ?_)
      · have h1 := zout h1 hz1
        exact J64  _ _ _ _  hZ (lv_sub hl [] rfl) h1
      refine lv_aload_n hx hb dX8_dayNow_18 rfl (lv_at hl 0 rfl) ?_
      refine z_getr C0 hZ hk0 fRX8_111 rfl dX8_dayNow_19 ?_
      refine lv_iload_n hx hb dX8_dayNow_22 rfl (lv_at hl 1 rfl) ?_
      refine z_iald C0 hZ h1 (zkt8_44 hk0) dX8_dayNow_23 (fun h1 => ?_)
      refine lv_iconst (v := (-1)) hx hb dX8_dayNow_24 (by decide) ?_
      refine z_ic_ne (tgt := 31) C0 h1 dX8_dayNow_25 (by decide) (fun h1 => ?_) (fun h1 => ?_)
      · refine lv_aload_n hx hb dX8_dayNow_31 rfl (lv_at hl 0 rfl) ?_
        refine z_getr C0 hZ hk0 fRX8_55 rfl dX8_dayNow_32 ?_
        refine lv_iload_n hx hb dX8_dayNow_35 rfl (lv_at hl 1 rfl) ?_
        refine z_iald C0 hZ h1 (zkt8_8 hk0) dX8_dayNow_36 (fun h1 => ?_)
        refine z_if_ne (tgt := 53) C0 h1 dX8_dayNow_37 (by decide) (fun h1 => ?_) (fun h1 => ?_)
        · refine lv_aload_n hx hb dX8_dayNow_53 rfl (lv_at hl 0 rfl) ?_
          refine lv_iload_n hx hb dX8_dayNow_54 rfl (lv_at hl 1 rfl) ?_
          refine z_cVv (As := [.int x1]) (rest := []) C0 hZ h1 (fun _ hf => kX8_putBack l hk0 hf) mRX8_431 vX8_putBack hk0 rfl rfl hl.1 (Nat.le_of_ble_eq_true rfl) ⟨Nat.le_of_ble_eq_true rfl, Nat.le_of_ble_eq_true rfl⟩ dX8_dayNow_55 ⟨Nat.le_of_ble_eq_true rfl, Nat.le_of_ble_eq_true rfl⟩ (fun _ σ_2 H locs h1 hZ => ?_)
          exact J58 x1 _ _ _ _  hZ (lv_sub hl [0, 1] rfl) h1
        refine lv_aload_n hx hb dX8_dayNow_40 rfl (lv_at hl 0 rfl) ?_
        refine lv_dup hx hb dX8_dayNow_41 rfl ?_
        refine z_geti C0 hZ hk0 fRX8_389 rfl dX8_dayNow_42 ?_
        refine lv_iconst (v := 1) hx hb dX8_dayNow_45 (by decide) ?_
        refine lv_iadd hx hb dX8_dayNow_46 ?_
        refine z_puti C0 hZ h1 hk0 fRX8_389 rfl tyX8_ok nmX8 rfl rfl rfl dX8_dayNow_47 (fun σ_4 H locs h1 hZ => ?_)
        refine lv_goto (tgt := 58) hx hb dX8_dayNow_50 (by decide) ?_
        exact J58 x1 _ _ _ _  hZ (lv_sub hl [0, 1] rfl) h1
      refine lv_goto (tgt := 58) hx hb dX8_dayNow_28 (by decide) ?_
      exact J58 x1 _ _ _ _  hZ (lv_sub hl [0, 1] rfl) h1
  refine lv_aload_n hx hb dX8_dayNow_0 rfl (lv_at hl 0 rfl) ?_
  refine lv_bipush (v := 60) hx hb dX8_dayNow_1 (by decide) ?_
  refine z_cVv (As := [.int 60]) (rest := []) C0 hZ h1 (fun _ hf => kX8_go l hk0 hf) mRX8_440 vX8_go hk0 rfl rfl hl.1 (Nat.le_of_ble_eq_true rfl) ⟨Nat.le_of_ble_eq_true rfl, Nat.le_of_ble_eq_true rfl⟩ dX8_dayNow_3 ⟨Nat.le_of_ble_eq_true rfl, Nat.le_of_ble_eq_true rfl⟩ (fun _ σ_5 H locs h1 hZ => ?_)
  refine lv_iconst (v := 0) hx hb dX8_dayNow_6 (by decide) ?_
  refine z_istore_n C0 h1 hl (fun x1_7 => [(1, .int x1_7), (0, .ref (zad V k0))]) dX8_dayNow_7 rfl (by decide) (fun _ => rfl) (fun x1_7 ls h1 hl => ?_)
  obtain ⟨n, h1⟩ := zlp_iff.mp h1
  exact J8 n x1_7 _ _ _ _  hZ (lv_sub hl [1, 0] rfl) h1
noncomputable def FX8_costNow (k0 : Nat) (σ : zS) : Option (Int32 × zS) := zbd (FX8_dayNow k0 σ) (fun _ σ_1 => zin (ln 1 (k0 + 3)) 6 (some (((σ_1 k0 56) + ((σ_1 (k0 + 3) (Int32.toNatClampNeg 6)) * (σ_1 k0 58))), σ_1)))
set_option maxHeartbeats 4000000 in
set_option maxRecDepth 100000 in
theorem kX8_costNow (l : Launch) {V : zV} {σ : zS} {t0 : Int32 × zS} {k0 : Nat} (hk0 : kd 1 k0 = 8) (h1 : FX8_costNow k0 σ = some t0) : zMi l yX8_costNow cX8_costNow 1 (some .int) 6 139 1 V σ t0 [.ref (zad V k0)] := by
  refine zMi_of (by decide) (Nat.le_of_ble_eq_true rfl) ?_
  intro p e s m below meth c A C0 hr hlk hZ ls hl
  generalize ([.ref (zad V k0)] : List Value).toArray = args at C0 ⊢
  obtain ⟨Q, hQ⟩ : ∃ Q, Q = MQ below (zQi 1 V t0 A) args s 0 0 A := ⟨_, rfl⟩
  rw [← hQ]
  have hx := C0.1
  have hb := C0.2.1
  have hl : lv_has ls 1 [(0, .ref (zad V k0))] := hl
  unfold FX8_costNow at h1
  refine lv_aload_n hx hb dX8_costNow_0 rfl (lv_at hl 0 rfl) ?_
  refine z_cVv (As := []) (rest := []) C0 hZ h1 (fun _ hf => kX8_dayNow l hk0 hf) mRX8_443 vX8_dayNow hk0 rfl rfl hl.1 (Nat.le_of_ble_eq_true rfl) ⟨Nat.le_of_ble_eq_true rfl, Nat.le_of_ble_eq_true rfl⟩ dX8_costNow_1 ⟨Nat.le_of_ble_eq_true rfl, Nat.le_of_ble_eq_true rfl⟩ (fun _ σ_1 H locs h1 hZ => ?_)
  refine lv_aload_n hx hb dX8_costNow_4 rfl (lv_at hl 0 rfl) ?_
  refine z_geti C0 hZ hk0 fRX8_398 rfl dX8_costNow_5 ?_
  refine lv_aload_n hx hb dX8_costNow_8 rfl (lv_at hl 0 rfl) ?_
  refine z_getr C0 hZ hk0 fRX8_40 rfl dX8_costNow_9 ?_
  refine lv_bipush (v := 6) hx hb dX8_costNow_12 (by decide) ?_
  refine z_iald C0 hZ h1 (zkt8_3 hk0) dX8_costNow_14 (fun h1 => ?_)
  refine lv_aload_n hx hb dX8_costNow_15 rfl (lv_at hl 0 rfl) ?_
  refine z_geti C0 hZ hk0 fRX8_392 rfl dX8_costNow_16 ?_
  refine lv_imul hx hb dX8_costNow_19 ?_
  refine lv_iadd hx hb dX8_costNow_20 ?_
  rw [hQ]; exact z_iret C0 hr hlk hZ h1 dX8_costNow_21
noncomputable def FX8_bitsOf_b20 (x1 : Int32) (σ : zS) : Option (Int32 × zS) := some (x1, σ)
noncomputable def FX8_bitsOf_L4 (x1 : Int32) (x2 : Int32) (σ : zS) : Option ((Int32 × Int32 × zS) ⊕ (Int32 × zS)) := if x2 = 0 then zinr (FX8_bitsOf_b20 x1 σ) else zlet (x1 + 1) (fun x1_1 => zlet (x2 &&& (x2 - 1)) (fun x2_2 => some (.inl (x1_1, x2_2, σ))))
noncomputable def FX8_bitsOf (x0 : Int32) (σ : zS) : Option (Int32 × zS) := zlet 0 (fun x1_3 => zlet x0 (fun x2_4 => zlp (fun q => FX8_bitsOf_L4  q.1 q.2.1 q.2.2) (x1_3, x2_4, σ)))
set_option maxHeartbeats 4000000 in
set_option maxRecDepth 100000 in
theorem kX8_bitsOf (l : Launch) {V : zV} {σ : zS} {t0 : Int32 × zS} {x0 : Int32}  (h1 : FX8_bitsOf x0 σ = some t0) : zMi l yX8_bitsOf cX8_bitsOf 3 (some .int) 0 0 1 V σ t0 [.int x0] := by
  refine zMi_of (by decide) (Nat.le_of_ble_eq_true rfl) ?_
  intro p e s m below meth c A C0 hr hlk hZ ls hl
  generalize ([.int x0] : List Value).toArray = args at C0 ⊢
  obtain ⟨Q, hQ⟩ : ∃ Q, Q = MQ below (zQi 1 V t0 A) args s 0 0 A := ⟨_, rfl⟩
  rw [← hQ]
  have hx := C0.1
  have hb := C0.2.1
  have hl : lv_has ls 3 [(0, .int x0)] := hl
  unfold FX8_bitsOf at h1
  have J20 : ∀ (x1 : Int32) (σ : zS) (H : Heap) (locs : List Loc) (ls : Array Slot), zZ 1 V A σ s H locs → lv_has ls 3 [(1, .int x1)] → FX8_bitsOf_b20 x1 σ = some t0 → W p l e (zrm 0 0) s m args below meth c H locs 0 0 Q (F0 m 20 ls []) := by
    intro x1 σ H locs ls  hZ hl h1
    unfold FX8_bitsOf_b20 at h1
    refine lv_iload_n hx hb dX8_bitsOf_20 rfl (lv_at hl 0 rfl) ?_
    rw [hQ]; exact z_iret C0 hr hlk hZ h1 dX8_bitsOf_21
  have J4 : ∀ (n : Nat) (x1 : Int32) (x2 : Int32) (σ : zS) (H : Heap) (locs : List Loc) (ls : Array Slot), zZ 1 V A σ s H locs → lv_has ls 3 [(1, .int x1), (2, .int x2)] → zit (fun q => FX8_bitsOf_L4  q.1 q.2.1 q.2.2) n (x1, x2, σ) = some t0 → W p l e (zrm 0 0) s m args below meth c H locs 0 0 Q (F0 m 4 ls []) := by
    intro n
    induction n with
    | zero => intro x1 x2 σ H locs ls  _ _ h1; cases h1
    | succ n ih4 =>
      intro x1 x2 σ H locs ls  hZ hl h1
      obtain ⟨t1, h1, hz1⟩ := zit_1 h1
      replace h1 : FX8_bitsOf_L4 x1 x2 σ = some t1 := h1
      unfold FX8_bitsOf_L4 at h1
      refine lv_iload_n hx hb dX8_bitsOf_4 rfl (lv_at hl 1 rfl) ?_
      refine z_if_eq (tgt := 20) C0 h1 dX8_bitsOf_5 (by decide) (fun h1 => ?_) (fun h1 => ?_)
      · have h1 := zout h1 hz1
        exact J20 x1 _ _ _ _  hZ (lv_sub hl [0] rfl) h1
      refine z_iinc (v := 1) C0 h1 hl (fun x1_1 => [(1, .int x1_1), (2, .int x2)]) dX8_bitsOf_8 (k := 0) rfl (by decide) (by decide) (fun _ => rfl) (fun x1_1 ls h1 hl => ?_)
      refine lv_iload_n hx hb dX8_bitsOf_11 rfl (lv_at hl 1 rfl) ?_
      refine lv_iload_n hx hb dX8_bitsOf_12 rfl (lv_at hl 1 rfl) ?_
      refine lv_iconst (v := 1) hx hb dX8_bitsOf_13 (by decide) ?_
      refine lv_isub hx hb dX8_bitsOf_14 ?_
      refine lv_iand hx hb dX8_bitsOf_15 ?_
      refine z_istore_n C0 h1 hl (fun x2_2 => [(2, .int x2_2), (1, .int x1_1)]) dX8_bitsOf_16 rfl (by decide) (fun _ => rfl) (fun x2_2 ls h1 hl => ?_)
      refine lv_goto (tgt := 4) hx hb dX8_bitsOf_17 (by decide) ?_
      exact ih4 x1_1 x2_2 _ _ _ _  hZ (lv_sub hl [1, 0] rfl) (zback h1 hz1)
  refine lv_iconst (v := 0) hx hb dX8_bitsOf_0 (by decide) ?_
  refine z_istore_n C0 h1 hl (fun x1_3 => [(1, .int x1_3), (0, .int x0)]) dX8_bitsOf_1 rfl (by decide) (fun _ => rfl) (fun x1_3 ls h1 hl => ?_)
  refine lv_iload_n hx hb dX8_bitsOf_2 rfl (lv_at hl 1 rfl) ?_
  refine z_istore_n C0 h1 hl (fun x2_4 => [(2, .int x2_4), (1, .int x1_3), (0, .int x0)]) dX8_bitsOf_3 rfl (by decide) (fun _ => rfl) (fun x2_4 ls h1 hl => ?_)
  obtain ⟨n, h1⟩ := zlp_iff.mp h1
  exact J4 n x1_3 x2_4 _ _ _ _  hZ (lv_sub hl [1, 0] rfl) h1
noncomputable def FX8_count_b96 (k0 : Nat) (x1 : Int32) (σ : zS) : Option (Int32 × zS) := zin (ln 1 (k0 + 3)) x1 (some ((σ (k0 + 3) (Int32.toNatClampNeg x1)), σ))
noncomputable def FX8_count_b153 (k0 : Nat) (x1 : Int32) (σ : zS) : Option (Int32 × zS) := zin (ln 1 (k0 + 16)) (x1 - 16) (some ((σ (k0 + 16) (Int32.toNatClampNeg (x1 - 16))), σ))
noncomputable def FX8_count (k0 : Nat) (x1 : Int32) (σ : zS) : Option (Int32 × zS) := zlet (zup σ k0 2 0) (fun σ_1 => if x1 = 0 then FX8_count_b96 k0 x1 σ_1 else if x1 = 1 then FX8_count_b96 k0 x1 σ_1 else if x1 = 2 then some ((σ_1 k0 33), σ_1) else if x1 = 3 then FX8_count_b96 k0 x1 σ_1 else if x1 = 4 then FX8_count_b96 k0 x1 σ_1 else if x1 = 5 then FX8_count_b96 k0 x1 σ_1 else if x1 = 6 then FX8_count_b96 k0 x1 σ_1 else if x1 = 7 then some ((σ_1 k0 32), σ_1) else if x1 = 8 then some ((σ_1 k0 29), σ_1) else if x1 = 9 then some ((σ_1 k0 30), σ_1) else if x1 = 10 then some ((σ_1 k0 31), σ_1) else if x1 = 11 then some ((σ_1 k0 34), σ_1) else if x1 = 12 then some ((σ_1 k0 35), σ_1) else if x1 = 13 then some ((σ_1 k0 36), σ_1) else if x1 = 14 then some ((σ_1 k0 37), σ_1) else if x1 = 15 then some ((σ_1 k0 18), σ_1) else if x1 = 16 then FX8_count_b153 k0 x1 σ_1 else if x1 = 17 then FX8_count_b153 k0 x1 σ_1 else if x1 = 18 then FX8_count_b153 k0 x1 σ_1 else zbd (FX8_fail k0 1 σ_1) (fun r_3 σ_2 => some (r_3, σ_2)))
set_option maxHeartbeats 4000000 in
set_option maxRecDepth 100000 in
theorem kX8_count (l : Launch) {V : zV} {σ : zS} {t0 : Int32 × zS} {k0 : Nat} {x1 : Int32} (hk0 : kd 1 k0 = 8) (h1 : FX8_count k0 x1 σ = some t0) : zMi l yX8_count cX8_count 2 (some .int) 1 21 1 V σ t0 [.ref (zad V k0), .int x1] := by
  refine zMi_of (by decide) (Nat.le_of_ble_eq_true rfl) ?_
  intro p e s m below meth c A C0 hr hlk hZ ls hl
  generalize ([.ref (zad V k0), .int x1] : List Value).toArray = args at C0 ⊢
  obtain ⟨Q, hQ⟩ : ∃ Q, Q = MQ below (zQi 1 V t0 A) args s 0 0 A := ⟨_, rfl⟩
  rw [← hQ]
  have hx := C0.1
  have hb := C0.2.1
  have hl : lv_has ls 2 [(0, .ref (zad V k0)), (1, .int x1)] := hl
  unfold FX8_count at h1
  have J96 : ∀  (σ : zS) (H : Heap) (locs : List Loc) (ls : Array Slot), zZ 1 V A σ s H locs → lv_has ls 2 [(0, .ref (zad V k0)), (1, .int x1)] → FX8_count_b96 k0 x1 σ = some t0 → W p l e (zrm 1 21) s m args below meth c H locs 0 0 Q (F0 m 96 ls []) := by
    intro  σ H locs ls  hZ hl h1
    unfold FX8_count_b96 at h1
    refine lv_aload_n hx hb dX8_count_96 rfl (lv_at hl 0 rfl) ?_
    refine z_getr C0 hZ hk0 fRX8_40 rfl dX8_count_97 ?_
    refine lv_iload_n hx hb dX8_count_100 rfl (lv_at hl 1 rfl) ?_
    refine z_iald C0 hZ h1 (zkt8_3 hk0) dX8_count_101 (fun h1 => ?_)
    rw [hQ]; exact z_iret C0 hr hlk hZ h1 dX8_count_102
  have J153 : ∀  (σ : zS) (H : Heap) (locs : List Loc) (ls : Array Slot), zZ 1 V A σ s H locs → lv_has ls 2 [(0, .ref (zad V k0)), (1, .int x1)] → FX8_count_b153 k0 x1 σ = some t0 → W p l e (zrm 1 21) s m args below meth c H locs 0 0 Q (F0 m 153 ls []) := by
    intro  σ H locs ls  hZ hl h1
    unfold FX8_count_b153 at h1
    refine lv_aload_n hx hb dX8_count_153 rfl (lv_at hl 0 rfl) ?_
    refine z_getr C0 hZ hk0 fRX8_78 rfl dX8_count_154 ?_
    refine lv_iload_n hx hb dX8_count_157 rfl (lv_at hl 1 rfl) ?_
    refine lv_bipush (v := 16) hx hb dX8_count_158 (by decide) ?_
    refine lv_isub hx hb dX8_count_160 ?_
    refine z_iald C0 hZ h1 (zkt8_16 hk0) dX8_count_161 (fun h1 => ?_)
    rw [hQ]; exact z_iret C0 hr hlk hZ h1 dX8_count_162
  refine lv_aload_n hx hb dX8_count_0 rfl (lv_at hl 0 rfl) ?_
  refine lv_iconst (v := 0) hx hb dX8_count_1 (by decide) ?_
  refine z_puti C0 hZ h1 hk0 fRX8_159 rfl tyX8_ok nmX8 rfl rfl rfl dX8_count_2 (fun σ_1 H locs h1 hZ => ?_)
  refine lv_iload_n hx hb dX8_count_5 rfl (lv_at hl 1 rfl) ?_
  refine z_case h1 (fun hv h1 => ?_) (fun e6_0 h1 => ?_)
  · refine lv_tableIn (tgt := 96) hx hb dX8_count_6 (by rw [hv]; decide) (by rw [hv]; decide) (by rw [hv]; rfl) (by decide) ?_
    exact J96  _ _ _ _  hZ (lv_sub hl [0, 1] rfl) h1
  refine z_case h1 (fun hv h1 => ?_) (fun e6_1 h1 => ?_)
  · refine lv_tableIn (tgt := 96) hx hb dX8_count_6 (by rw [hv]; decide) (by rw [hv]; decide) (by rw [hv]; rfl) (by decide) ?_
    exact J96  _ _ _ _  hZ (lv_sub hl [0, 1] rfl) h1
  refine z_case h1 (fun hv h1 => ?_) (fun e6_2 h1 => ?_)
  · refine lv_tableIn (tgt := 103) hx hb dX8_count_6 (by rw [hv]; decide) (by rw [hv]; decide) (by rw [hv]; rfl) (by decide) ?_
    refine lv_aload_n hx hb dX8_count_103 rfl (lv_at hl 0 rfl) ?_
    refine z_geti C0 hZ hk0 fRX8_332 rfl dX8_count_104 ?_
    rw [hQ]; exact z_iret C0 hr hlk hZ h1 dX8_count_107
  refine z_case h1 (fun hv h1 => ?_) (fun e6_3 h1 => ?_)
  · refine lv_tableIn (tgt := 96) hx hb dX8_count_6 (by rw [hv]; decide) (by rw [hv]; decide) (by rw [hv]; rfl) (by decide) ?_
    exact J96  _ _ _ _  hZ (lv_sub hl [0, 1] rfl) h1
  refine z_case h1 (fun hv h1 => ?_) (fun e6_4 h1 => ?_)
  · refine lv_tableIn (tgt := 96) hx hb dX8_count_6 (by rw [hv]; decide) (by rw [hv]; decide) (by rw [hv]; rfl) (by decide) ?_
    exact J96  _ _ _ _  hZ (lv_sub hl [0, 1] rfl) h1
  refine z_case h1 (fun hv h1 => ?_) (fun e6_5 h1 => ?_)
  · refine lv_tableIn (tgt := 96) hx hb dX8_count_6 (by rw [hv]; decide) (by rw [hv]; decide) (by rw [hv]; rfl) (by decide) ?_
    exact J96  _ _ _ _  hZ (lv_sub hl [0, 1] rfl) h1
  refine z_case h1 (fun hv h1 => ?_) (fun e6_6 h1 => ?_)
  · refine lv_tableIn (tgt := 96) hx hb dX8_count_6 (by rw [hv]; decide) (by rw [hv]; decide) (by rw [hv]; rfl) (by decide) ?_
    exact J96  _ _ _ _  hZ (lv_sub hl [0, 1] rfl) h1
  refine z_case h1 (fun hv h1 => ?_) (fun e6_7 h1 => ?_)
  · refine lv_tableIn (tgt := 108) hx hb dX8_count_6 (by rw [hv]; decide) (by rw [hv]; decide) (by rw [hv]; rfl) (by decide) ?_
    refine lv_aload_n hx hb dX8_count_108 rfl (lv_at hl 0 rfl) ?_
    refine z_geti C0 hZ hk0 fRX8_90 rfl dX8_count_109 ?_
    rw [hQ]; exact z_iret C0 hr hlk hZ h1 dX8_count_112
  refine z_case h1 (fun hv h1 => ?_) (fun e6_8 h1 => ?_)
  · refine lv_tableIn (tgt := 113) hx hb dX8_count_6 (by rw [hv]; decide) (by rw [hv]; decide) (by rw [hv]; rfl) (by decide) ?_
    refine lv_aload_n hx hb dX8_count_113 rfl (lv_at hl 0 rfl) ?_
    refine z_geti C0 hZ hk0 fRX8_323 rfl dX8_count_114 ?_
    rw [hQ]; exact z_iret C0 hr hlk hZ h1 dX8_count_117
  refine z_case h1 (fun hv h1 => ?_) (fun e6_9 h1 => ?_)
  · refine lv_tableIn (tgt := 118) hx hb dX8_count_6 (by rw [hv]; decide) (by rw [hv]; decide) (by rw [hv]; rfl) (by decide) ?_
    refine lv_aload_n hx hb dX8_count_118 rfl (lv_at hl 0 rfl) ?_
    refine z_geti C0 hZ hk0 fRX8_326 rfl dX8_count_119 ?_
    rw [hQ]; exact z_iret C0 hr hlk hZ h1 dX8_count_122
  refine z_case h1 (fun hv h1 => ?_) (fun e6_10 h1 => ?_)
  · refine lv_tableIn (tgt := 123) hx hb dX8_count_6 (by rw [hv]; decide) (by rw [hv]; decide) (by rw [hv]; rfl) (by decide) ?_
    refine lv_aload_n hx hb dX8_count_123 rfl (lv_at hl 0 rfl) ?_
    refine z_geti C0 hZ hk0 fRX8_329 rfl dX8_count_124 ?_
    rw [hQ]; exact z_iret C0 hr hlk hZ h1 dX8_count_127
  refine z_case h1 (fun hv h1 => ?_) (fun e6_11 h1 => ?_)
  · refine lv_tableIn (tgt := 128) hx hb dX8_count_6 (by rw [hv]; decide) (by rw [hv]; decide) (by rw [hv]; rfl) (by decide) ?_
    refine lv_aload_n hx hb dX8_count_128 rfl (lv_at hl 0 rfl) ?_
    refine z_geti C0 hZ hk0 fRX8_335 rfl dX8_count_129 ?_
    rw [hQ]; exact z_iret C0 hr hlk hZ h1 dX8_count_132
  refine z_case h1 (fun hv h1 => ?_) (fun e6_12 h1 => ?_)
  · refine lv_tableIn (tgt := 133) hx hb dX8_count_6 (by rw [hv]; decide) (by rw [hv]; decide) (by rw [hv]; rfl) (by decide) ?_
    refine lv_aload_n hx hb dX8_count_133 rfl (lv_at hl 0 rfl) ?_
    refine z_geti C0 hZ hk0 fRX8_338 rfl dX8_count_134 ?_
    rw [hQ]; exact z_iret C0 hr hlk hZ h1 dX8_count_137
  refine z_case h1 (fun hv h1 => ?_) (fun e6_13 h1 => ?_)
  · refine lv_tableIn (tgt := 138) hx hb dX8_count_6 (by rw [hv]; decide) (by rw [hv]; decide) (by rw [hv]; rfl) (by decide) ?_
    refine lv_aload_n hx hb dX8_count_138 rfl (lv_at hl 0 rfl) ?_
    refine z_geti C0 hZ hk0 fRX8_341 rfl dX8_count_139 ?_
    rw [hQ]; exact z_iret C0 hr hlk hZ h1 dX8_count_142
  refine z_case h1 (fun hv h1 => ?_) (fun e6_14 h1 => ?_)
  · refine lv_tableIn (tgt := 143) hx hb dX8_count_6 (by rw [hv]; decide) (by rw [hv]; decide) (by rw [hv]; rfl) (by decide) ?_
    refine lv_aload_n hx hb dX8_count_143 rfl (lv_at hl 0 rfl) ?_
    refine z_geti C0 hZ hk0 fRX8_344 rfl dX8_count_144 ?_
    rw [hQ]; exact z_iret C0 hr hlk hZ h1 dX8_count_147
  refine z_case h1 (fun hv h1 => ?_) (fun e6_15 h1 => ?_)
  · refine lv_tableIn (tgt := 148) hx hb dX8_count_6 (by rw [hv]; decide) (by rw [hv]; decide) (by rw [hv]; rfl) (by decide) ?_
    refine lv_aload_n hx hb dX8_count_148 rfl (lv_at hl 0 rfl) ?_
    refine z_geti C0 hZ hk0 fRX8_168 rfl dX8_count_149 ?_
    rw [hQ]; exact z_iret C0 hr hlk hZ h1 dX8_count_152
  refine z_case h1 (fun hv h1 => ?_) (fun e6_16 h1 => ?_)
  · refine lv_tableIn (tgt := 153) hx hb dX8_count_6 (by rw [hv]; decide) (by rw [hv]; decide) (by rw [hv]; rfl) (by decide) ?_
    exact J153  _ _ _ _  hZ (lv_sub hl [0, 1] rfl) h1
  refine z_case h1 (fun hv h1 => ?_) (fun e6_17 h1 => ?_)
  · refine lv_tableIn (tgt := 153) hx hb dX8_count_6 (by rw [hv]; decide) (by rw [hv]; decide) (by rw [hv]; rfl) (by decide) ?_
    exact J153  _ _ _ _  hZ (lv_sub hl [0, 1] rfl) h1
  refine z_case h1 (fun hv h1 => ?_) (fun e6_18 h1 => ?_)
  · refine lv_tableIn (tgt := 153) hx hb dX8_count_6 (by rw [hv]; decide) (by rw [hv]; decide) (by rw [hv]; rfl) (by decide) ?_
    exact J153  _ _ _ _  hZ (lv_sub hl [0, 1] rfl) h1
  refine lv_tableOut (tgt := 163) hx hb dX8_count_6 (z_tout [0, 1, 2, 3, 4, 5, 6, 7, 8, 9, 10, 11, 12, 13, 14, 15, 16, 17, 18] (by decide) (by decide) (List.forall_mem_cons.mpr ⟨e6_0, List.forall_mem_cons.mpr ⟨e6_1, List.forall_mem_cons.mpr ⟨e6_2, List.forall_mem_cons.mpr ⟨e6_3, List.forall_mem_cons.mpr ⟨e6_4, List.forall_mem_cons.mpr ⟨e6_5, List.forall_mem_cons.mpr ⟨e6_6, List.forall_mem_cons.mpr ⟨e6_7, List.forall_mem_cons.mpr ⟨e6_8, List.forall_mem_cons.mpr ⟨e6_9, List.forall_mem_cons.mpr ⟨e6_10, List.forall_mem_cons.mpr ⟨e6_11, List.forall_mem_cons.mpr ⟨e6_12, List.forall_mem_cons.mpr ⟨e6_13, List.forall_mem_cons.mpr ⟨e6_14, List.forall_mem_cons.mpr ⟨e6_15, List.forall_mem_cons.mpr ⟨e6_16, List.forall_mem_cons.mpr ⟨e6_17, List.forall_mem_cons.mpr ⟨e6_18, fun _ h => absurd h List.not_mem_nil⟩⟩⟩⟩⟩⟩⟩⟩⟩⟩⟩⟩⟩⟩⟩⟩⟩⟩⟩)) (by decide) ?_
  refine lv_aload_n hx hb dX8_count_163 rfl (lv_at hl 0 rfl) ?_
  refine lv_iconst (v := 1) hx hb dX8_count_164 (by decide) ?_
  refine z_cVi (As := [.int 1]) (rest := []) C0 hZ h1 (fun _ hf => kX8_fail l hk0 hf) mRX8_310 vX8_fail hk0 rfl rfl hl.1 (Nat.le_of_ble_eq_true rfl) ⟨Nat.le_of_ble_eq_true rfl, Nat.le_of_ble_eq_true rfl⟩ dX8_count_165 ⟨Nat.le_of_ble_eq_true rfl, Nat.le_of_ble_eq_true rfl⟩ (fun r_3 σ_2 H locs h1 hZ => ?_)
  rw [hQ]; exact z_iret C0 hr hlk hZ h1 dX8_count_168
noncomputable def FX8_aisle_b25 (k0 : Nat) (σ : zS) : Option (Int32 × zS) := zbd (FX8_fail k0 1 σ) (fun r_2 σ_1 => some (r_2, σ_1))
noncomputable def FX8_aisle_b78 (y0 : Int32) (σ : zS) : Option (Int32 × zS) := some (y0, σ)
noncomputable def FX8_aisle (k0 : Nat) (x1 : Int32) (x2 : Int32) (σ : zS) : Option (Int32 × zS) := zlet (zup σ k0 2 0) (fun σ_3 => zbd (FX8_isAisle k0 x1 σ_3) (fun r_5 σ_4 => if r_5 = 0 then FX8_aisle_b25 k0 σ_4 else zbd (FX8_isIn (Int32.toInt64 x2) 0 3 σ_4) (fun r_7 σ_6 => if r_7 = 0 then FX8_aisle_b25 k0 σ_6 else if x2 = 0 then zin (ln 1 (k0 + 4)) x1 (FX8_aisle_b78 (σ_6 (k0 + 4) (Int32.toNatClampNeg x1)) σ_6) else if x2 = 1 then zin (ln 1 (k0 + 5)) x1 (FX8_aisle_b78 (σ_6 (k0 + 5) (Int32.toNatClampNeg x1)) σ_6) else if x2 = 2 then zin (ln 1 (k0 + 6)) x1 (FX8_aisle_b78 (σ_6 (k0 + 6) (Int32.toNatClampNeg x1)) σ_6) else zin (ln 1 (k0 + 7)) x1 (FX8_aisle_b78 (σ_6 (k0 + 7) (Int32.toNatClampNeg x1)) σ_6))))
set_option maxHeartbeats 4000000 in
set_option maxRecDepth 100000 in
theorem kX8_aisle (l : Launch) {V : zV} {σ : zS} {t0 : Int32 × zS} {k0 : Nat} {x1 : Int32} {x2 : Int32} (hk0 : kd 1 k0 = 8) (h1 : FX8_aisle k0 x1 x2 σ = some t0) : zMi l yX8_aisle cX8_aisle 3 (some .int) 2 46 1 V σ t0 [.ref (zad V k0), .int x1, .int x2] := by
  refine zMi_of (by decide) (Nat.le_of_ble_eq_true rfl) ?_
  intro p e s m below meth c A C0 hr hlk hZ ls hl
  generalize ([.ref (zad V k0), .int x1, .int x2] : List Value).toArray = args at C0 ⊢
  obtain ⟨Q, hQ⟩ : ∃ Q, Q = MQ below (zQi 1 V t0 A) args s 0 0 A := ⟨_, rfl⟩
  rw [← hQ]
  have hx := C0.1
  have hb := C0.2.1
  have hl : lv_has ls 3 [(0, .ref (zad V k0)), (1, .int x1), (2, .int x2)] := hl
  unfold FX8_aisle at h1
  have J25 : ∀  (σ : zS) (H : Heap) (locs : List Loc) (ls : Array Slot), zZ 1 V A σ s H locs → lv_has ls 3 [(0, .ref (zad V k0))] → FX8_aisle_b25 k0 σ = some t0 → W p l e (zrm 2 46) s m args below meth c H locs 0 0 Q (F0 m 25 ls []) := by
    intro  σ H locs ls  hZ hl h1
    unfold FX8_aisle_b25 at h1
    refine lv_aload_n hx hb dX8_aisle_25 rfl (lv_at hl 0 rfl) ?_
    refine lv_iconst (v := 1) hx hb dX8_aisle_26 (by decide) ?_
    refine z_cVi (As := [.int 1]) (rest := []) C0 hZ h1 (fun _ hf => kX8_fail l hk0 hf) mRX8_310 vX8_fail hk0 rfl rfl hl.1 (Nat.le_of_ble_eq_true rfl) ⟨Nat.le_of_ble_eq_true rfl, Nat.le_of_ble_eq_true rfl⟩ dX8_aisle_27 ⟨Nat.le_of_ble_eq_true rfl, Nat.le_of_ble_eq_true rfl⟩ (fun r_2 σ_1 H locs h1 hZ => ?_)
    rw [hQ]; exact z_iret C0 hr hlk hZ h1 dX8_aisle_30
  have J78 : ∀ (y0 : Int32) (σ : zS) (H : Heap) (locs : List Loc) (ls : Array Slot), zZ 1 V A σ s H locs → lv_has ls 3 [] → FX8_aisle_b78 y0 σ = some t0 → W p l e (zrm 2 46) s m args below meth c H locs 0 0 Q (F0 m 78 ls [.int y0]) := by
    intro y0 σ H locs ls  hZ hl h1
    unfold FX8_aisle_b78 at h1
    rw [hQ]; exact z_iret C0 hr hlk hZ h1 dX8_aisle_78
  refine lv_aload_n hx hb dX8_aisle_0 rfl (lv_at hl 0 rfl) ?_
  refine lv_iconst (v := 0) hx hb dX8_aisle_1 (by decide) ?_
  refine z_puti C0 hZ h1 hk0 fRX8_159 rfl tyX8_ok nmX8 rfl rfl rfl dX8_aisle_2 (fun σ_3 H locs h1 hZ => ?_)
  refine lv_aload_n hx hb dX8_aisle_5 rfl (lv_at hl 0 rfl) ?_
  refine lv_iload_n hx hb dX8_aisle_6 rfl (lv_at hl 1 rfl) ?_
  refine z_cVi (As := [.int x1]) (rest := []) C0 hZ h1 (fun _ hf => kX8_isAisle l hk0 hf) mRX8_357 vX8_isAisle hk0 rfl rfl hl.1 (Nat.le_of_ble_eq_true rfl) ⟨Nat.le_of_ble_eq_true rfl, Nat.le_of_ble_eq_true rfl⟩ dX8_aisle_7 ⟨Nat.le_of_ble_eq_true rfl, Nat.le_of_ble_eq_true rfl⟩ (fun r_5 σ_4 H locs h1 hZ => ?_)
  refine z_if_eq (tgt := 25) C0 h1 dX8_aisle_10 (by decide) (fun h1 => ?_) (fun h1 => ?_)
  · exact J25  _ _ _ _  hZ (lv_sub hl [0] rfl) h1
  refine lv_iload_n hx hb dX8_aisle_13 rfl (lv_at hl 2 rfl) ?_
  refine lv_i2l (v := (Int32.toInt64 x2)) hx hb dX8_aisle_14 rfl ?_
  refine lv_lconst (v := 0) hx hb dX8_aisle_15 (by decide) ?_
  refine lv_ldc2 (v := 3) hx hb C0.2.2.2.1 (C0.2.2.2.2 _ (zmem 1819 (by decide +kernel) (by decide +kernel))) dX8_aisle_16 ?_
  refine z_cSi (As := [.long (Int32.toInt64 x2), .long 0, .long 3]) (rest := []) C0 hZ h1 (fun _ hf => kX8_isIn l  hf) mRX8_162 sX8_isIn rfl rfl hl.1 (Nat.le_of_ble_eq_true rfl) ⟨Nat.le_of_ble_eq_true rfl, Nat.le_of_ble_eq_true rfl⟩ dX8_aisle_19 ⟨Nat.le_of_ble_eq_true rfl, Nat.le_of_ble_eq_true rfl⟩ (fun r_7 σ_6 H locs h1 hZ => ?_)
  refine z_if_ne (tgt := 31) C0 h1 dX8_aisle_22 (by decide) (fun h1 => ?_) (fun h1 => ?_)
  · refine lv_iload_n hx hb dX8_aisle_31 rfl (lv_at hl 2 rfl) ?_
    refine z_if_ne (tgt := 44) C0 h1 dX8_aisle_32 (by decide) (fun h1 => ?_) (fun h1 => ?_)
    · refine lv_iload_n hx hb dX8_aisle_44 rfl (lv_at hl 2 rfl) ?_
      refine lv_iconst (v := 1) hx hb dX8_aisle_45 (by decide) ?_
      refine z_ic_ne (tgt := 58) C0 h1 dX8_aisle_46 (by decide) (fun h1 => ?_) (fun h1 => ?_)
      · refine lv_iload_n hx hb dX8_aisle_58 rfl (lv_at hl 2 rfl) ?_
        refine lv_iconst (v := 2) hx hb dX8_aisle_59 (by decide) ?_
        refine z_ic_ne (tgt := 72) C0 h1 dX8_aisle_60 (by decide) (fun h1 => ?_) (fun h1 => ?_)
        · refine lv_aload_n hx hb dX8_aisle_72 rfl (lv_at hl 0 rfl) ?_
          refine z_getr C0 hZ hk0 fRX8_52 rfl dX8_aisle_73 ?_
          refine lv_iload_n hx hb dX8_aisle_76 rfl (lv_at hl 1 rfl) ?_
          refine z_iald C0 hZ h1 (zkt8_7 hk0) dX8_aisle_77 (fun h1 => ?_)
          exact J78 (σ_6 (k0 + 7) (Int32.toNatClampNeg x1)) _ _ _ _  hZ (lv_sub hl [] rfl) h1
        refine lv_aload_n hx hb dX8_aisle_63 rfl (lv_at hl 0 rfl) ?_
        refine z_getr C0 hZ hk0 fRX8_49 rfl dX8_aisle_64 ?_
        refine lv_iload_n hx hb dX8_aisle_67 rfl (lv_at hl 1 rfl) ?_
        refine z_iald C0 hZ h1 (zkt8_6 hk0) dX8_aisle_68 (fun h1 => ?_)
        refine lv_goto (tgt := 78) hx hb dX8_aisle_69 (by decide) ?_
        exact J78 (σ_6 (k0 + 6) (Int32.toNatClampNeg x1)) _ _ _ _  hZ (lv_sub hl [] rfl) h1
      refine lv_aload_n hx hb dX8_aisle_49 rfl (lv_at hl 0 rfl) ?_
      refine z_getr C0 hZ hk0 fRX8_46 rfl dX8_aisle_50 ?_
      refine lv_iload_n hx hb dX8_aisle_53 rfl (lv_at hl 1 rfl) ?_
      refine z_iald C0 hZ h1 (zkt8_5 hk0) dX8_aisle_54 (fun h1 => ?_)
      refine lv_goto (tgt := 78) hx hb dX8_aisle_55 (by decide) ?_
      exact J78 (σ_6 (k0 + 5) (Int32.toNatClampNeg x1)) _ _ _ _  hZ (lv_sub hl [] rfl) h1
    refine lv_aload_n hx hb dX8_aisle_35 rfl (lv_at hl 0 rfl) ?_
    refine z_getr C0 hZ hk0 fRX8_44 rfl dX8_aisle_36 ?_
    refine lv_iload_n hx hb dX8_aisle_39 rfl (lv_at hl 1 rfl) ?_
    refine z_iald C0 hZ h1 (zkt8_4 hk0) dX8_aisle_40 (fun h1 => ?_)
    refine lv_goto (tgt := 78) hx hb dX8_aisle_41 (by decide) ?_
    exact J78 (σ_6 (k0 + 4) (Int32.toNatClampNeg x1)) _ _ _ _  hZ (lv_sub hl [] rfl) h1
  exact J25  _ _ _ _  hZ (lv_sub hl [0] rfl) h1
noncomputable def FX8_person_b25 (k0 : Nat) (σ : zS) : Option (Int32 × zS) := zbd (FX8_fail k0 1 σ) (fun r_2 σ_1 => some (r_2, σ_1))
noncomputable def FX8_person_b92 (y0 : Int32) (σ : zS) : Option (Int32 × zS) := some (y0, σ)
noncomputable def FX8_person (k0 : Nat) (x1 : Int32) (x2 : Int32) (σ : zS) : Option (Int32 × zS) := zlet (zup σ k0 2 0) (fun σ_3 => zbd (FX8_isPerson k0 x1 σ_3) (fun r_5 σ_4 => if r_5 = 0 then FX8_person_b25 k0 σ_4 else zbd (FX8_isIn (Int32.toInt64 x2) 0 4 σ_4) (fun r_7 σ_6 => if r_7 = 0 then FX8_person_b25 k0 σ_6 else if x2 = 0 then zin (ln 1 (k0 + 8)) x1 (FX8_person_b92 (σ_6 (k0 + 8) (Int32.toNatClampNeg x1)) σ_6) else if x2 = 1 then zin (ln 1 (k0 + 9)) x1 (FX8_person_b92 (σ_6 (k0 + 9) (Int32.toNatClampNeg x1)) σ_6) else if x2 = 2 then zin (ln 1 (k0 + 10)) x1 (FX8_person_b92 (σ_6 (k0 + 10) (Int32.toNatClampNeg x1)) σ_6) else if x2 = 3 then zin (ln 1 (k0 + 11)) x1 (FX8_person_b92 (σ_6 (k0 + 11) (Int32.toNatClampNeg x1)) σ_6) else zin (ln 1 (k0 + 12)) x1 (FX8_person_b92 (σ_6 (k0 + 12) (Int32.toNatClampNeg x1)) σ_6))))
set_option maxHeartbeats 4000000 in
set_option maxRecDepth 100000 in
theorem kX8_person (l : Launch) {V : zV} {σ : zS} {t0 : Int32 × zS} {k0 : Nat} {x1 : Int32} {x2 : Int32} (hk0 : kd 1 k0 = 8) (h1 : FX8_person k0 x1 x2 σ = some t0) : zMi l yX8_person cX8_person 3 (some .int) 2 46 1 V σ t0 [.ref (zad V k0), .int x1, .int x2] := by
  refine zMi_of (by decide) (Nat.le_of_ble_eq_true rfl) ?_
  intro p e s m below meth c A C0 hr hlk hZ ls hl
  generalize ([.ref (zad V k0), .int x1, .int x2] : List Value).toArray = args at C0 ⊢
  obtain ⟨Q, hQ⟩ : ∃ Q, Q = MQ below (zQi 1 V t0 A) args s 0 0 A := ⟨_, rfl⟩
  rw [← hQ]
  have hx := C0.1
  have hb := C0.2.1
  have hl : lv_has ls 3 [(0, .ref (zad V k0)), (1, .int x1), (2, .int x2)] := hl
  unfold FX8_person at h1
  have J25 : ∀  (σ : zS) (H : Heap) (locs : List Loc) (ls : Array Slot), zZ 1 V A σ s H locs → lv_has ls 3 [(0, .ref (zad V k0))] → FX8_person_b25 k0 σ = some t0 → W p l e (zrm 2 46) s m args below meth c H locs 0 0 Q (F0 m 25 ls []) := by
    intro  σ H locs ls  hZ hl h1
    unfold FX8_person_b25 at h1
    refine lv_aload_n hx hb dX8_person_25 rfl (lv_at hl 0 rfl) ?_
    refine lv_iconst (v := 1) hx hb dX8_person_26 (by decide) ?_
    refine z_cVi (As := [.int 1]) (rest := []) C0 hZ h1 (fun _ hf => kX8_fail l hk0 hf) mRX8_310 vX8_fail hk0 rfl rfl hl.1 (Nat.le_of_ble_eq_true rfl) ⟨Nat.le_of_ble_eq_true rfl, Nat.le_of_ble_eq_true rfl⟩ dX8_person_27 ⟨Nat.le_of_ble_eq_true rfl, Nat.le_of_ble_eq_true rfl⟩ (fun r_2 σ_1 H locs h1 hZ => ?_)
    rw [hQ]; exact z_iret C0 hr hlk hZ h1 dX8_person_30
  have J92 : ∀ (y0 : Int32) (σ : zS) (H : Heap) (locs : List Loc) (ls : Array Slot), zZ 1 V A σ s H locs → lv_has ls 3 [] → FX8_person_b92 y0 σ = some t0 → W p l e (zrm 2 46) s m args below meth c H locs 0 0 Q (F0 m 92 ls [.int y0]) := by
    intro y0 σ H locs ls  hZ hl h1
    unfold FX8_person_b92 at h1
    rw [hQ]; exact z_iret C0 hr hlk hZ h1 dX8_person_92
  refine lv_aload_n hx hb dX8_person_0 rfl (lv_at hl 0 rfl) ?_
  refine lv_iconst (v := 0) hx hb dX8_person_1 (by decide) ?_
  refine z_puti C0 hZ h1 hk0 fRX8_159 rfl tyX8_ok nmX8 rfl rfl rfl dX8_person_2 (fun σ_3 H locs h1 hZ => ?_)
  refine lv_aload_n hx hb dX8_person_5 rfl (lv_at hl 0 rfl) ?_
  refine lv_iload_n hx hb dX8_person_6 rfl (lv_at hl 1 rfl) ?_
  refine z_cVi (As := [.int x1]) (rest := []) C0 hZ h1 (fun _ hf => kX8_isPerson l hk0 hf) mRX8_448 vX8_isPerson hk0 rfl rfl hl.1 (Nat.le_of_ble_eq_true rfl) ⟨Nat.le_of_ble_eq_true rfl, Nat.le_of_ble_eq_true rfl⟩ dX8_person_7 ⟨Nat.le_of_ble_eq_true rfl, Nat.le_of_ble_eq_true rfl⟩ (fun r_5 σ_4 H locs h1 hZ => ?_)
  refine z_if_eq (tgt := 25) C0 h1 dX8_person_10 (by decide) (fun h1 => ?_) (fun h1 => ?_)
  · exact J25  _ _ _ _  hZ (lv_sub hl [0] rfl) h1
  refine lv_iload_n hx hb dX8_person_13 rfl (lv_at hl 2 rfl) ?_
  refine lv_i2l (v := (Int32.toInt64 x2)) hx hb dX8_person_14 rfl ?_
  refine lv_lconst (v := 0) hx hb dX8_person_15 (by decide) ?_
  refine lv_ldc2 (v := 4) hx hb C0.2.2.2.1 (C0.2.2.2.2 _ (zmem 1828 (by decide +kernel) (by decide +kernel))) dX8_person_16 ?_
  refine z_cSi (As := [.long (Int32.toInt64 x2), .long 0, .long 4]) (rest := []) C0 hZ h1 (fun _ hf => kX8_isIn l  hf) mRX8_162 sX8_isIn rfl rfl hl.1 (Nat.le_of_ble_eq_true rfl) ⟨Nat.le_of_ble_eq_true rfl, Nat.le_of_ble_eq_true rfl⟩ dX8_person_19 ⟨Nat.le_of_ble_eq_true rfl, Nat.le_of_ble_eq_true rfl⟩ (fun r_7 σ_6 H locs h1 hZ => ?_)
  refine z_if_ne (tgt := 31) C0 h1 dX8_person_22 (by decide) (fun h1 => ?_) (fun h1 => ?_)
  · refine lv_iload_n hx hb dX8_person_31 rfl (lv_at hl 2 rfl) ?_
    refine z_if_ne (tgt := 44) C0 h1 dX8_person_32 (by decide) (fun h1 => ?_) (fun h1 => ?_)
    · refine lv_iload_n hx hb dX8_person_44 rfl (lv_at hl 2 rfl) ?_
      refine lv_iconst (v := 1) hx hb dX8_person_45 (by decide) ?_
      refine z_ic_ne (tgt := 58) C0 h1 dX8_person_46 (by decide) (fun h1 => ?_) (fun h1 => ?_)
      · refine lv_iload_n hx hb dX8_person_58 rfl (lv_at hl 2 rfl) ?_
        refine lv_iconst (v := 2) hx hb dX8_person_59 (by decide) ?_
        refine z_ic_ne (tgt := 72) C0 h1 dX8_person_60 (by decide) (fun h1 => ?_) (fun h1 => ?_)
        · refine lv_iload_n hx hb dX8_person_72 rfl (lv_at hl 2 rfl) ?_
          refine lv_iconst (v := 3) hx hb dX8_person_73 (by decide) ?_
          refine z_ic_ne (tgt := 86) C0 h1 dX8_person_74 (by decide) (fun h1 => ?_) (fun h1 => ?_)
          · refine lv_aload_n hx hb dX8_person_86 rfl (lv_at hl 0 rfl) ?_
            refine z_getr C0 hZ hk0 fRX8_66 rfl dX8_person_87 ?_
            refine lv_iload_n hx hb dX8_person_90 rfl (lv_at hl 1 rfl) ?_
            refine z_iald C0 hZ h1 (zkt8_12 hk0) dX8_person_91 (fun h1 => ?_)
            exact J92 (σ_6 (k0 + 12) (Int32.toNatClampNeg x1)) _ _ _ _  hZ (lv_sub hl [] rfl) h1
          refine lv_aload_n hx hb dX8_person_77 rfl (lv_at hl 0 rfl) ?_
          refine z_getr C0 hZ hk0 fRX8_64 rfl dX8_person_78 ?_
          refine lv_iload_n hx hb dX8_person_81 rfl (lv_at hl 1 rfl) ?_
          refine z_iald C0 hZ h1 (zkt8_11 hk0) dX8_person_82 (fun h1 => ?_)
          refine lv_goto (tgt := 92) hx hb dX8_person_83 (by decide) ?_
          exact J92 (σ_6 (k0 + 11) (Int32.toNatClampNeg x1)) _ _ _ _  hZ (lv_sub hl [] rfl) h1
        refine lv_aload_n hx hb dX8_person_63 rfl (lv_at hl 0 rfl) ?_
        refine z_getr C0 hZ hk0 fRX8_61 rfl dX8_person_64 ?_
        refine lv_iload_n hx hb dX8_person_67 rfl (lv_at hl 1 rfl) ?_
        refine z_iald C0 hZ h1 (zkt8_10 hk0) dX8_person_68 (fun h1 => ?_)
        refine lv_goto (tgt := 92) hx hb dX8_person_69 (by decide) ?_
        exact J92 (σ_6 (k0 + 10) (Int32.toNatClampNeg x1)) _ _ _ _  hZ (lv_sub hl [] rfl) h1
      refine lv_aload_n hx hb dX8_person_49 rfl (lv_at hl 0 rfl) ?_
      refine z_getr C0 hZ hk0 fRX8_58 rfl dX8_person_50 ?_
      refine lv_iload_n hx hb dX8_person_53 rfl (lv_at hl 1 rfl) ?_
      refine z_iald C0 hZ h1 (zkt8_9 hk0) dX8_person_54 (fun h1 => ?_)
      refine lv_goto (tgt := 92) hx hb dX8_person_55 (by decide) ?_
      exact J92 (σ_6 (k0 + 9) (Int32.toNatClampNeg x1)) _ _ _ _  hZ (lv_sub hl [] rfl) h1
    refine lv_aload_n hx hb dX8_person_35 rfl (lv_at hl 0 rfl) ?_
    refine z_getr C0 hZ hk0 fRX8_55 rfl dX8_person_36 ?_
    refine lv_iload_n hx hb dX8_person_39 rfl (lv_at hl 1 rfl) ?_
    refine z_iald C0 hZ h1 (zkt8_8 hk0) dX8_person_40 (fun h1 => ?_)
    refine lv_goto (tgt := 92) hx hb dX8_person_41 (by decide) ?_
    exact J92 (σ_6 (k0 + 8) (Int32.toNatClampNeg x1)) _ _ _ _  hZ (lv_sub hl [] rfl) h1
  exact J25  _ _ _ _  hZ (lv_sub hl [0] rfl) h1
