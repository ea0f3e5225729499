noncomputable def FX8_readNot_b113 (G : zGr)  (σ : zS) : Option (Int32 × zS) := some (0, σ)
noncomputable def FX8_readNot_L96 (G : zGr) (k0 : Nat) (x2 : Int32) (x3 : Int32) (σ : zS) : Option ((Int32 × zS) ⊕ (Int32 × zS)) := if x2 ≤ x3 then zinr (FX8_readNot_b113 G  σ) else zbd (FX8_putSign k0 (-28) σ) (fun _ σ_1 => zlet (x3 + 1) (fun x3_3 => some (.inl (x3_3, σ_1))))
noncomputable def FX8_readNot_b94 (G : zGr) (k0 : Nat) (x2 : Int32) (σ : zS) : Option (Int32 × zS) := zlet 0 (fun x3_4 => zlp (fun q => FX8_readNot_L96 G k0 x2 q.1 q.2) (x3_4, σ))
noncomputable def FX8_readNot_b79 (G : zGr) (k0 : Nat) (x1 : Int32) (x2 : Int32) (y0 : Int32) (σ : zS) : Option (Int32 × zS) := zlet y0 (fun x3_5 => zbd (FX8_stepOn k0 σ) (fun _ σ_6 => zbd (G 3 k0 x1 0 σ_6) (fun _ σ_8 => zbd (FX8_putSign k0 x3_5 σ_8) (fun _ σ_10 => FX8_readNot_b94 G k0 x2 σ_10))))
noncomputable def FX8_readNot_b63 (G : zGr) (k0 : Nat) (x1 : Int32) (x2 : Int32) (σ : zS) : Option (Int32 × zS) := zbd (FX8_isMarked k0 60 σ) (fun r_13 σ_12 => if r_13 = 0 then FX8_readNot_b79 G k0 x1 x2 (-25) σ_12 else FX8_readNot_b79 G k0 x1 x2 (-24) σ_12)
noncomputable def FX8_readNot_b40 (G : zGr) (k0 : Nat) (x1 : Int32) (x2 : Int32) (σ : zS) : Option (Int32 × zS) := zbd (G 3 k0 x1 0 σ) (fun _ σ_14 => zbd (FX8_isMarked k0 60 σ_14) (fun r_17 σ_16 => if r_17 = 0 then zbd (FX8_isMarked k0 61 σ_16) (fun r_19 σ_18 => if r_19 = 0 then FX8_readNot_b94 G k0 x2 σ_18 else FX8_readNot_b63 G k0 x1 x2 σ_18) else FX8_readNot_b63 G k0 x1 x2 σ_16))
noncomputable def FX8_readNot_b23 (G : zGr) (k0 : Nat) (x1 : Int32) (x2 : Int32) (σ : zS) : Option ((Int32 × zS) ⊕ (Int32 × zS)) := zlet (x2 + 1) (fun x2_20 => if (σ k0 25) = 0 then zbd (FX8_stepOn k0 σ) (fun _ σ_21 => some (.inl (x2_20, σ_21))) else some (.inl (x2_20, σ)))
noncomputable def FX8_readNot_L2 (G : zGr) (k0 : Nat) (x1 : Int32) (x2 : Int32) (σ : zS) : Option ((Int32 × zS) ⊕ (Int32 × zS)) := zbd (FX8_is k0 13 σ) (fun r_24 σ_23 => if r_24 = 0 then zinr (FX8_readNot_b40 G k0 x1 x2 σ_23) else if x2 = 6 then zbd (FX8_wrong k0 2 σ_23) (fun _ σ_25 => FX8_readNot_b23 G k0 x1 x2 σ_25) else FX8_readNot_b23 G k0 x1 x2 σ_23)
noncomputable def FX8_readNot (G : zGr) (k0 : Nat) (x1 : Int32) (σ : zS) : Option (Int32 × zS) := zlet 0 (fun x2_27 => zlp (fun q => FX8_readNot_L2 G k0 x1 q.1 q.2) (x2_27, σ))
set_option maxHeartbeats 4000000 in
set_option maxRecDepth 100000 in
theorem kX8_readNot (l : Launch) {nd : Nat} {G : zGr} (ih : zPGY l nd G) {V : zV} {σ : zS} {t0 : Int32 × zS} {k0 : Nat} {x1 : Int32} (hk0 : kd 1 k0 = 8) (h1 : FX8_readNot G k0 x1 σ = some t0) : zMv l yX8_readNot cX8_readNot 4 (nd + 1 + 10) ((nd + 1) * 40 + 400) 1 V σ t0 [.ref (zad V k0), .int x1] := by
  refine zMv_of (by decide) (Nat.le_of_ble_eq_true rfl) ?_
  intro p e s m below meth c A C0 hr hlk hZ ls hl
  generalize ([.ref (zad V k0), .int x1] : List Value).toArray = args at C0 ⊢
  obtain ⟨Q, hQ⟩ : ∃ Q, Q = MQ below (zQv 1 V t0 A) args s 0 0 A := ⟨_, rfl⟩
  rw [← hQ]
  have hx := C0.1
  have hb := C0.2.1
  have hl : lv_has ls 4 [(0, .ref (zad V k0)), (1, .int x1)] := hl
  unfold FX8_readNot at h1
  have J113 : ∀  (σ : zS) (H : Heap) (locs : List Loc) (ls : Array Slot), zZ 1 V A σ s H locs → lv_has ls 4 [] → FX8_readNot_b113 G  σ = some t0 → W p l e (zrm (nd + 1 + 10) ((nd + 1) * 40 + 400)) s m args below meth c H locs 0 0 Q (F0 m 113 ls []) := by
    intro  σ H locs ls  hZ hl h1
    unfold FX8_readNot_b113 at h1
    rw [hQ]; exact z_vret C0 hr hlk hZ h1 dX8_readNot_113
  have J96 : ∀ (n : Nat) (x2 : Int32) (x3 : Int32) (σ : zS) (H : Heap) (locs : List Loc) (ls : Array Slot), zZ 1 V A σ s H locs → lv_has ls 4 [(0, .ref (zad V k0)), (2, .int x2), (3, .int x3)] → zit (fun q => FX8_readNot_L96 G k0 x2 q.1 q.2) n (x3, σ) = some t0 → W p l e (zrm (nd + 1 + 10) ((nd + 1) * 40 + 400)) s m args below meth c H locs 0 0 Q (F0 m 96 ls []) := by
    intro n
    induction n with
    | zero => intro x2 x3 σ H locs ls  _ _ h1; cases h1
    | succ n ih96 =>
      intro x2 x3 σ H locs ls  hZ hl h1
      obtain ⟨t1, h1, hz1⟩ := zit_1 h1
      replace h1 : FX8_readNot_L96 G k0 x2 x3 σ = some t1 := h1
      unfold FX8_readNot_L96 at h1
      refine lv_iload_n hx hb dX8_readNot_96 rfl (lv_at hl 2 rfl) ?_
      refine lv_iload_n hx hb dX8_readNot_97 rfl (lv_at hl 1 rfl) ?_
      refine z_ic_ge (tgt := 113) C0 h1 dX8_readNot_98 (by decide) (fun h1 => ?_) (fun h1 => ?_)
      · have h1 := zout h1 hz1
        exact J113  _ _ _ _  hZ (lv_sub hl [] rfl) h1
      refine lv_aload_n hx hb dX8_readNot_101 rfl (lv_at hl 0 rfl) ?_
      refine lv_bipush (v := (-28)) hx hb dX8_readNot_102 (by decide) ?_
      refine z_cVv (As := [.int (-28)]) (rest := []) C0 hZ h1 (fun _ hf => kX8_putSign l hk0 hf) mRX8_244 vX8_putSign hk0 rfl rfl hl.1 (Nat.le_of_ble_eq_true rfl) (zRo (by decide) (by decide)) dX8_readNot_104 ⟨Nat.le_of_ble_eq_true rfl, Nat.le_of_ble_eq_true rfl⟩ (fun _ σ_1 H locs h1 hZ => ?_)
      refine z_iinc (v := 1) C0 h1 hl (fun x3_3 => [(3, .int x3_3), (0, .ref (zad V k0)), (2, .int x2)]) dX8_readNot_107 (k := 2) rfl (by decide) (by decide) (fun _ => rfl) (fun x3_3 ls h1 hl => ?_)
      refine lv_goto (tgt := 96) hx hb dX8_readNot_110 (by decide) ?_
      exact ih96 x2 x3_3 _ _ _ _  hZ (lv_sub hl [1, 2, 0] rfl) (zback h1 hz1)
  have J94 : ∀ (x2 : Int32) (σ : zS) (H : Heap) (locs : List Loc) (ls : Array Slot), zZ 1 V A σ s H locs → lv_has ls 4 [(0, .ref (zad V k0)), (2, .int x2)] → FX8_readNot_b94 G k0 x2 σ = some t0 → W p l e (zrm (nd + 1 + 10) ((nd + 1) * 40 + 400)) s m args below meth c H locs 0 0 Q (F0 m 94 ls []) := by
    intro x2 σ H locs ls  hZ hl h1
    unfold FX8_readNot_b94 at h1
    refine lv_iconst (v := 0) hx hb dX8_readNot_94 (by decide) ?_
    refine z_istore_n C0 h1 hl (fun x3_4 => [(3, .int x3_4), (0, .ref (zad V k0)), (2, .int x2)]) dX8_readNot_95 rfl (by decide) (fun _ => rfl) (fun x3_4 ls h1 hl => ?_)
    obtain ⟨n, h1⟩ := zlp_iff.mp h1
    exact J96 n x2 x3_4 _ _ _ _  hZ (lv_sub hl [1, 2, 0] rfl) h1
  have J79 : ∀ (x2 : Int32) (y0 : Int32) (σ : zS) (H : Heap) (locs : List Loc) (ls : Array Slot), zZ 1 V A σ s H locs → lv_has ls 4 [(0, .ref (zad V k0)), (1, .int x1), (2, .int x2)] → FX8_readNot_b79 G k0 x1 x2 y0 σ = some t0 → W p l e (zrm (nd + 1 + 10) ((nd + 1) * 40 + 400)) s m args below meth c H locs 0 0 Q (F0 m 79 ls [.int y0]) := by
    intro x2 y0 σ H locs ls  hZ hl h1
    unfold FX8_readNot_b79 at h1
    refine z_istore_n C0 h1 hl (fun x3_5 => [(3, .int x3_5), (0, .ref (zad V k0)), (1, .int x1), (2, .int x2)]) dX8_readNot_79 rfl (by decide) (fun _ => rfl) (fun x3_5 ls h1 hl => ?_)
    refine lv_aload_n hx hb dX8_readNot_80 rfl (lv_at hl 1 rfl) ?_
    refine z_cVv (As := []) (rest := []) C0 hZ h1 (fun _ hf => kX8_stepOn l hk0 hf) mRX8_235 vX8_stepOn hk0 rfl rfl hl.1 (Nat.le_of_ble_eq_true rfl) (zRo (by decide) (by decide)) dX8_readNot_81 ⟨Nat.le_of_ble_eq_true rfl, Nat.le_of_ble_eq_true rfl⟩ (fun _ σ_6 H locs h1 hZ => ?_)
    refine lv_aload_n hx hb dX8_readNot_84 rfl (lv_at hl 1 rfl) ?_
    refine lv_iload_n hx hb dX8_readNot_85 rfl (lv_at hl 2 rfl) ?_
    refine z_cVv (As := [.int x1]) (rest := []) C0 hZ h1 (fun _ hf => zGGY_3 ih hk0 hf) mRX8_265 vX8_readSum hk0 rfl rfl hl.1 (Nat.le_of_ble_eq_true rfl) (zRs (by decide)) dX8_readNot_86 ⟨Nat.le_of_ble_eq_true rfl, Nat.le_of_ble_eq_true rfl⟩ (fun _ σ_8 H locs h1 hZ => ?_)
    refine lv_aload_n hx hb dX8_readNot_89 rfl (lv_at hl 1 rfl) ?_
    refine lv_iload_n hx hb dX8_readNot_90 rfl (lv_at hl 0 rfl) ?_
    refine z_cVv (As := [.int x3_5]) (rest := []) C0 hZ h1 (fun _ hf => kX8_putSign l hk0 hf) mRX8_244 vX8_putSign hk0 rfl rfl hl.1 (Nat.le_of_ble_eq_true rfl) (zRo (by decide) (by decide)) dX8_readNot_91 ⟨Nat.le_of_ble_eq_true rfl, Nat.le_of_ble_eq_true rfl⟩ (fun _ σ_10 H locs h1 hZ => ?_)
    exact J94 x2 _ _ _ _  hZ (lv_sub hl [1, 3] rfl) h1
  have J63 : ∀ (x2 : Int32) (σ : zS) (H : Heap) (locs : List Loc) (ls : Array Slot), zZ 1 V A σ s H locs → lv_has ls 4 [(0, .ref (zad V k0)), (1, .int x1), (2, .int x2)] → FX8_readNot_b63 G k0 x1 x2 σ = some t0 → W p l e (zrm (nd + 1 + 10) ((nd + 1) * 40 + 400)) s m args below meth c H locs 0 0 Q (F0 m 63 ls []) := by
    intro x2 σ H locs ls  hZ hl h1
    unfold FX8_readNot_b63 at h1
    refine lv_aload_n hx hb dX8_readNot_63 rfl (lv_at hl 0 rfl) ?_
    refine lv_bipush (v := 60) hx hb dX8_readNot_64 (by decide) ?_
    refine z_cVi (As := [.int 60]) (rest := []) C0 hZ h1 (fun _ hf => kX8_isMarked l hk0 hf) mRX8_228 vX8_isMarked hk0 rfl rfl hl.1 (Nat.le_of_ble_eq_true rfl) (zRo (by decide) (by decide)) dX8_readNot_66 ⟨Nat.le_of_ble_eq_true rfl, Nat.le_of_ble_eq_true rfl⟩ (fun r_13 σ_12 H locs h1 hZ => ?_)
    refine z_if_eq (tgt := 77) C0 h1 dX8_readNot_69 (by decide) (fun h1 => ?_) (fun h1 => ?_)
    · refine lv_bipush (v := (-25)) hx hb dX8_readNot_77 (by decide) ?_
      exact J79 x2 (-25) _ _ _ _  hZ (lv_sub hl [0, 1, 2] rfl) h1
    refine lv_bipush (v := (-24)) hx hb dX8_readNot_72 (by decide) ?_
    refine lv_goto (tgt := 79) hx hb dX8_readNot_74 (by decide) ?_
    exact J79 x2 (-24) _ _ _ _  hZ (lv_sub hl [0, 1, 2] rfl) h1
  have J40 : ∀ (x2 : Int32) (σ : zS) (H : Heap) (locs : List Loc) (ls : Array Slot), zZ 1 V A σ s H locs → lv_has ls 4 [(0, .ref (zad V k0)), (1, .int x1), (2, .int x2)] → FX8_readNot_b40 G k0 x1 x2 σ = some t0 → W p l e (zrm (nd + 1 + 10) ((nd + 1) * 40 + 400)) s m args below meth c H locs 0 0 Q (F0 m 40 ls []) := by
    intro x2 σ H locs ls  hZ hl h1
    unfold FX8_readNot_b40 at h1
    refine lv_aload_n hx hb dX8_readNot_40 rfl (lv_at hl 0 rfl) ?_
    refine lv_iload_n hx hb dX8_readNot_41 rfl (lv_at hl 1 rfl) ?_
    refine z_cVv (As := [.int x1]) (rest := []) C0 hZ h1 (fun _ hf => zGGY_3 ih hk0 hf) mRX8_265 vX8_readSum hk0 rfl rfl hl.1 (Nat.le_of_ble_eq_true rfl) (zRs (by decide)) dX8_readNot_42 ⟨Nat.le_of_ble_eq_true rfl, Nat.le_of_ble_eq_true rfl⟩ (fun _ σ_14 H locs h1 hZ => ?_)
    refine lv_aload_n hx hb dX8_readNot_45 rfl (lv_at hl 0 rfl) ?_
    refine lv_bipush (v := 60) hx hb dX8_readNot_46 (by decide) ?_
    refine z_cVi (As := [.int 60]) (rest := []) C0 hZ h1 (fun _ hf => kX8_isMarked l hk0 hf) mRX8_228 vX8_isMarked hk0 rfl rfl hl.1 (Nat.le_of_ble_eq_true rfl) (zRo (by decide) (by decide)) dX8_readNot_48 ⟨Nat.le_of_ble_eq_true rfl, Nat.le_of_ble_eq_true rfl⟩ (fun r_17 σ_16 H locs h1 hZ => ?_)
    refine z_if_ne (tgt := 63) C0 h1 dX8_readNot_51 (by decide) (fun h1 => ?_) (fun h1 => ?_)
    · exact J63 x2 _ _ _ _  hZ (lv_sub hl [0, 1, 2] rfl) h1
    refine lv_aload_n hx hb dX8_readNot_54 rfl (lv_at hl 0 rfl) ?_
    refine lv_bipush (v := 61) hx hb dX8_readNot_55 (by decide) ?_
    refine z_cVi (As := [.int 61]) (rest := []) C0 hZ h1 (fun _ hf => kX8_isMarked l hk0 hf) mRX8_228 vX8_isMarked hk0 rfl rfl hl.1 (Nat.le_of_ble_eq_true rfl) (zRo (by decide) (by decide)) dX8_readNot_57 ⟨Nat.le_of_ble_eq_true rfl, Nat.le_of_ble_eq_true rfl⟩ (fun r_19 σ_18 H locs h1 hZ => ?_)
    refine z_if_eq (tgt := 94) C0 h1 dX8_readNot_60 (by decide) (fun h1 => ?_) (fun h1 => ?_)
    · exact J94 x2 _ _ _ _  hZ (lv_sub hl [0, 2] rfl) h1
    exact J63 x2 _ _ _ _  hZ (lv_sub hl [0, 1, 2] rfl) h1
  have J2 : ∀ (n : Nat) (x2 : Int32) (σ : zS) (H : Heap) (locs : List Loc) (ls : Array Slot), zZ 1 V A σ s H locs → lv_has ls 4 [(0, .ref (zad V k0)), (1, .int x1), (2, .int x2)] → zit (fun q => FX8_readNot_L2 G k0 x1 q.1 q.2) n (x2, σ) = some t0 → W p l e (zrm (nd + 1 + 10) ((nd + 1) * 40 + 400)) s m args below meth c H locs 0 0 Q (F0 m 2 ls []) := by
    intro n
    induction n with
    | zero => intro x2 σ H locs ls  _ _ h1; cases h1
    | succ n ih2 =>
      intro x2 σ H locs ls  hZ hl h1
      obtain ⟨t1, h1, hz1⟩ := zit_1 h1
      have J23 : ∀ (x2 : Int32) (σ : zS) (H : Heap) (locs : List Loc) (ls : Array Slot), zZ 1 V A σ s H locs → lv_has ls 4 [(0, .ref (zad V k0)), (1, .int x1), (2, .int x2)] → FX8_readNot_b23 G k0 x1 x2 σ = some t1 → W p l e (zrm (nd + 1 + 10) ((nd + 1) * 40 + 400)) s m args below meth c H locs 0 0 Q (F0 m 23 ls []) := by
        intro x2 σ H locs ls  hZ hl h1
        unfold FX8_readNot_b23 at h1
        refine z_iinc (v := 1) C0 h1 hl (fun x2_20 => [(2, .int x2_20), (0, .ref (zad V k0)), (1, .int x1)]) dX8_readNot_23 (k := 2) rfl (by decide) (by decide) (fun _ => rfl) (fun x2_20 ls h1 hl => ?_)
        refine lv_aload_n hx hb dX8_readNot_26 rfl (lv_at hl 1 rfl) ?_
        refine z_geti C0 hZ hk0 fRX8_210 rfl dX8_readNot_27 ?_
        refine z_if_ne (tgt := 2) C0 h1 dX8_readNot_30 (by decide) (fun h1 => ?_) (fun h1 => ?_)
        · exact ih2 x2_20 _ _ _ _  hZ (lv_sub hl [1, 2, 0] rfl) (zback h1 hz1)
        refine lv_aload_n hx hb dX8_readNot_33 rfl (lv_at hl 1 rfl) ?_
        refine z_cVv (As := []) (rest := []) C0 hZ h1 (fun _ hf => kX8_stepOn l hk0 hf) mRX8_235 vX8_stepOn hk0 rfl rfl hl.1 (Nat.le_of_ble_eq_true rfl) (zRo (by decide) (by decide)) dX8_readNot_34 ⟨Nat.le_of_ble_eq_true rfl, Nat.le_of_ble_eq_true rfl⟩ (fun _ σ_21 H locs h1 hZ => ?_)
        refine lv_goto (tgt := 2) hx hb dX8_readNot_37 (by decide) ?_
        exact ih2 x2_20 _ _ _ _  hZ (lv_sub hl [1, 2, 0] rfl) (zback h1 hz1)
      replace h1 : FX8_readNot_L2 G k0 x1 x2 σ = some t1 := h1
      unfold FX8_readNot_L2 at h1
      refine lv_aload_n hx hb dX8_readNot_2 rfl (lv_at hl 0 rfl) ?_
      refine z_ldcSw (i := 13) (tx := "not") C0 hZ (by decide +kernel) dX8_readNot_3 ?_
      refine z_cVi (As := [.ref (V.2.2.2.1 13)]) (rest := []) C0 hZ h1 (fun _ hf => kX8_is l hk0 (by decide) hf) mRX8_224 vX8_is hk0 rfl rfl hl.1 (Nat.le_of_ble_eq_true rfl) (zRo (by decide) (by decide)) dX8_readNot_6 ⟨Nat.le_of_ble_eq_true rfl, Nat.le_of_ble_eq_true rfl⟩ (fun r_24 σ_23 H locs h1 hZ => ?_)
      refine z_if_eq (tgt := 40) C0 h1 dX8_readNot_9 (by decide) (fun h1 => ?_) (fun h1 => ?_)
      · have h1 := zout h1 hz1
        exact J40 x2 _ _ _ _  hZ (lv_sub hl [0, 1, 2] rfl) h1
      refine lv_iload_n hx hb dX8_readNot_12 rfl (lv_at hl 2 rfl) ?_
      refine lv_bipush (v := 6) hx hb dX8_readNot_13 (by decide) ?_
      refine z_ic_ne (tgt := 23) C0 h1 dX8_readNot_15 (by decide) (fun h1 => ?_) (fun h1 => ?_)
      · exact J23 x2 _ _ _ _  hZ (lv_sub hl [0, 1, 2] rfl) h1
      refine lv_aload_n hx hb dX8_readNot_18 rfl (lv_at hl 0 rfl) ?_
      refine lv_iconst (v := 2) hx hb dX8_readNot_19 (by decide) ?_
      refine z_cVv (As := [.int 2]) (rest := []) C0 hZ h1 (fun _ hf => kX8_wrong l hk0 hf) mRX8_231 vX8_wrong hk0 rfl rfl hl.1 (Nat.le_of_ble_eq_true rfl) (zRo (by decide) (by decide)) dX8_readNot_20 ⟨Nat.le_of_ble_eq_true rfl, Nat.le_of_ble_eq_true rfl⟩ (fun _ σ_25 H locs h1 hZ => ?_)
      exact J23 x2 _ _ _ _  hZ (lv_sub hl [0, 1, 2] rfl) h1
  refine lv_iconst (v := 0) hx hb dX8_readNot_0 (by decide) ?_
  refine z_istore_n C0 h1 hl (fun x2_27 => [(2, .int x2_27), (0, .ref (zad V k0)), (1, .int x1)]) dX8_readNot_1 rfl (by decide) (fun _ => rfl) (fun x2_27 ls h1 hl => ?_)
  obtain ⟨n, h1⟩ := zlp_iff.mp h1
  exact J2 n x2_27 _ _ _ _  hZ (lv_sub hl [1, 2, 0] rfl) h1
