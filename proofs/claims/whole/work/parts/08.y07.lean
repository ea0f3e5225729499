noncomputable def FX8_readProduct_b57 (G : zGr)  (σ : zS) : Option (Int32 × zS) := some (0, σ)
noncomputable def FX8_readProduct_b39 (G : zGr) (k0 : Nat) (x1 : Int32) (y0 : Int32) (σ : zS) : Option ((zS) ⊕ (Int32 × zS)) := zlet y0 (fun x2_1 => zbd (FX8_stepOn k0 σ) (fun _ σ_2 => zbd (G 5 k0 x1 0 σ_2) (fun _ σ_4 => zbd (FX8_putSign k0 x2_1 σ_4) (fun _ σ_6 => some (.inl (σ_6))))))
noncomputable def FX8_readProduct_b23 (G : zGr) (k0 : Nat) (x1 : Int32) (σ : zS) : Option ((zS) ⊕ (Int32 × zS)) := zbd (FX8_isMarked k0 42 σ) (fun r_9 σ_8 => if r_9 = 0 then FX8_readProduct_b39 G k0 x1 (-23) σ_8 else FX8_readProduct_b39 G k0 x1 (-22) σ_8)
noncomputable def FX8_readProduct_L5 (G : zGr) (k0 : Nat) (x1 : Int32) (σ : zS) : Option ((zS) ⊕ (Int32 × zS)) := zbd (FX8_isMarked k0 42 σ) (fun r_11 σ_10 => if r_11 = 0 then zbd (FX8_isMarked k0 47 σ_10) (fun r_13 σ_12 => if r_13 = 0 then zinr (FX8_readProduct_b57 G  σ_12) else FX8_readProduct_b23 G k0 x1 σ_12) else FX8_readProduct_b23 G k0 x1 σ_10)
noncomputable def FX8_readProduct (G : zGr) (k0 : Nat) (x1 : Int32) (σ : zS) : Option (Int32 × zS) := zbd (G 5 k0 x1 0 σ) (fun _ σ_14 => zlp (fun q => FX8_readProduct_L5 G k0 x1 q) (σ_14))
set_option maxHeartbeats 4000000 in
set_option maxRecDepth 100000 in
theorem kX8_readProduct (l : Launch) {nd : Nat} {G : zGr} (ih : zPGY l nd G) {V : zV} {σ : zS} {t0 : Int32 × zS} {k0 : Nat} {x1 : Int32} (hk0 : kd 1 k0 = 8) (h1 : FX8_readProduct G k0 x1 σ = some t0) : zMv l yX8_readProduct cX8_readProduct 3 (nd + 1 + 10) ((nd + 1) * 40 + 400) 1 V σ t0 [.ref (zad V k0), .int x1] := by
  refine zMv_of (by decide) (Nat.le_of_ble_eq_true rfl) ?_
  intro p e s m below meth c A C0 hr hlk hZ ls hl
  generalize ([.ref (zad V k0), .int x1] : List Value).toArray = args at C0 ⊢
  obtain ⟨Q, hQ⟩ : ∃ Q, Q = MQ below (zQv 1 V t0 A) args s 0 0 A := ⟨_, rfl⟩
  rw [← hQ]
  have hx := C0.1
  have hb := C0.2.1
  have hl : lv_has ls 3 [(0, .ref (zad V k0)), (1, .int x1)] := hl
  unfold FX8_readProduct at h1
  have J57 : ∀  (σ : zS) (H : Heap) (locs : List Loc) (ls : Array Slot), zZ 1 V A σ s H locs → lv_has ls 3 [] → FX8_readProduct_b57 G  σ = some t0 → W p l e (zrm (nd + 1 + 10) ((nd + 1) * 40 + 400)) s m args below meth c H locs 0 0 Q (F0 m 57 ls []) := by
    intro  σ H locs ls  hZ hl h1
    unfold FX8_readProduct_b57 at h1
    rw [hQ]; exact z_vret C0 hr hlk hZ h1 dX8_readProduct_57
  have J5 : ∀ (n : Nat)  (σ : zS) (H : Heap) (locs : List Loc) (ls : Array Slot), zZ 1 V A σ s H locs → lv_has ls 3 [(0, .ref (zad V k0)), (1, .int x1)] → zit (fun q => FX8_readProduct_L5 G k0 x1 q) n (σ) = some t0 → W p l e (zrm (nd + 1 + 10) ((nd + 1) * 40 + 400)) s m args below meth c H locs 0 0 Q (F0 m 5 ls []) := by
    intro n
    induction n with
    | zero => intro  σ H locs ls  _ _ h1; cases h1
    | succ n ih5 =>
      intro  σ H locs ls  hZ hl h1
      obtain ⟨t1, h1, hz1⟩ := zit_1 h1
      have J39 : ∀ (y0 : Int32) (σ : zS) (H : Heap) (locs : List Loc) (ls : Array Slot), zZ 1 V A σ s H locs → lv_has ls 3 [(0, .ref (zad V k0)), (1, .int x1)] → FX8_readProduct_b39 G k0 x1 y0 σ = some t1 → W p l e (zrm (nd + 1 + 10) ((nd + 1) * 40 + 400)) s m args below meth c H locs 0 0 Q (F0 m 39 ls [.int y0]) := by
        intro y0 σ H locs ls  hZ hl h1
        unfold FX8_readProduct_b39 at h1
        refine z_istore_n C0 h1 hl (fun x2_1 => [(2, .int x2_1), (0, .ref (zad V k0)), (1, .int x1)]) dX8_readProduct_39 rfl (by decide) (fun _ => rfl) (fun x2_1 ls h1 hl => ?_)
        refine lv_aload_n hx hb dX8_readProduct_40 rfl (lv_at hl 1 rfl) ?_
        refine z_cVv (As := []) (rest := []) C0 hZ h1 (fun _ hf => kX8_stepOn l hk0 hf) mRX8_235 vX8_stepOn hk0 rfl rfl hl.1 (Nat.le_of_ble_eq_true rfl) (zRo (by decide) (by decide)) dX8_readProduct_41 ⟨Nat.le_of_ble_eq_true rfl, Nat.le_of_ble_eq_true rfl⟩ (fun _ σ_2 H locs h1 hZ => ?_)
        refine lv_aload_n hx hb dX8_readProduct_44 rfl (lv_at hl 1 rfl) ?_
        refine lv_iload_n hx hb dX8_readProduct_45 rfl (lv_at hl 2 rfl) ?_
        refine z_cVv (As := [.int x1]) (rest := []) C0 hZ h1 (fun _ hf => zGGY_5 ih hk0 hf) mRX8_257 vX8_readPart hk0 rfl rfl hl.1 (Nat.le_of_ble_eq_true rfl) (zRs (by decide)) dX8_readProduct_46 ⟨Nat.le_of_ble_eq_true rfl, Nat.le_of_ble_eq_true rfl⟩ (fun _ σ_4 H locs h1 hZ => ?_)
        refine lv_aload_n hx hb dX8_readProduct_49 rfl (lv_at hl 1 rfl) ?_
        refine lv_iload_n hx hb dX8_readProduct_50 rfl (lv_at hl 0 rfl) ?_
        refine z_cVv (As := [.int x2_1]) (rest := []) C0 hZ h1 (fun _ hf => kX8_putSign l hk0 hf) mRX8_244 vX8_putSign hk0 rfl rfl hl.1 (Nat.le_of_ble_eq_true rfl) (zRo (by decide) (by decide)) dX8_readProduct_51 ⟨Nat.le_of_ble_eq_true rfl, Nat.le_of_ble_eq_true rfl⟩ (fun _ σ_6 H locs h1 hZ => ?_)
        refine lv_goto (tgt := 5) hx hb dX8_readProduct_54 (by decide) ?_
        exact ih5  _ _ _ _  hZ (lv_sub hl [1, 2] rfl) (zback h1 hz1)
      have J23 : ∀  (σ : zS) (H : Heap) (locs : List Loc) (ls : Array Slot), zZ 1 V A σ s H locs → lv_has ls 3 [(0, .ref (zad V k0)), (1, .int x1)] → FX8_readProduct_b23 G k0 x1 σ = some t1 → W p l e (zrm (nd + 1 + 10) ((nd + 1) * 40 + 400)) s m args below meth c H locs 0 0 Q (F0 m 23 ls []) := by
        intro  σ H locs ls  hZ hl h1
        unfold FX8_readProduct_b23 at h1
        refine lv_aload_n hx hb dX8_readProduct_23 rfl (lv_at hl 0 rfl) ?_
        refine lv_bipush (v := 42) hx hb dX8_readProduct_24 (by decide) ?_
        refine z_cVi (As := [.int 42]) (rest := []) C0 hZ h1 (fun _ hf => kX8_isMarked l hk0 hf) mRX8_228 vX8_isMarked hk0 rfl rfl hl.1 (Nat.le_of_ble_eq_true rfl) (zRo (by decide) (by decide)) dX8_readProduct_26 ⟨Nat.le_of_ble_eq_true rfl, Nat.le_of_ble_eq_true rfl⟩ (fun r_9 σ_8 H locs h1 hZ => ?_)
        refine z_if_eq (tgt := 37) C0 h1 dX8_readProduct_29 (by decide) (fun h1 => ?_) (fun h1 => ?_)
        · refine lv_bipush (v := (-23)) hx hb dX8_readProduct_37 (by decide) ?_
          exact J39 (-23) _ _ _ _  hZ (lv_sub hl [0, 1] rfl) h1
        refine lv_bipush (v := (-22)) hx hb dX8_readProduct_32 (by decide) ?_
        refine lv_goto (tgt := 39) hx hb dX8_readProduct_34 (by decide) ?_
        exact J39 (-22) _ _ _ _  hZ (lv_sub hl [0, 1] rfl) h1
      replace h1 : FX8_readProduct_L5 G k0 x1 σ = some t1 := h1
      unfold FX8_readProduct_L5 at h1
      refine lv_aload_n hx hb dX8_readProduct_5 rfl (lv_at hl 0 rfl) ?_
      refine lv_bipush (v := 42) hx hb dX8_readProduct_6 (by decide) ?_
      refine z_cVi (As := [.int 42]) (rest := []) C0 hZ h1 (fun _ hf => kX8_isMarked l hk0 hf) mRX8_228 vX8_isMarked hk0 rfl rfl hl.1 (Nat.le_of_ble_eq_true rfl) (zRo (by decide) (by decide)) dX8_readProduct_8 ⟨Nat.le_of_ble_eq_true rfl, Nat.le_of_ble_eq_true rfl⟩ (fun r_11 σ_10 H locs h1 hZ => ?_)
      refine z_if_ne (tgt := 23) C0 h1 dX8_readProduct_11 (by decide) (fun h1 => ?_) (fun h1 => ?_)
      · exact J23  _ _ _ _  hZ (lv_sub hl [0, 1] rfl) h1
      refine lv_aload_n hx hb dX8_readProduct_14 rfl (lv_at hl 0 rfl) ?_
      refine lv_bipush (v := 47) hx hb dX8_readProduct_15 (by decide) ?_
      refine z_cVi (As := [.int 47]) (rest := []) C0 hZ h1 (fun _ hf => kX8_isMarked l hk0 hf) mRX8_228 vX8_isMarked hk0 rfl rfl hl.1 (Nat.le_of_ble_eq_true rfl) (zRo (by decide) (by decide)) dX8_readProduct_17 ⟨Nat.le_of_ble_eq_true rfl, Nat.le_of_ble_eq_true rfl⟩ (fun r_13 σ_12 H locs h1 hZ => ?_)
      refine z_if_eq (tgt := 57) C0 h1 dX8_readProduct_20 (by decide) (fun h1 => ?_) (fun h1 => ?_)
      · have h1 := zout h1 hz1
        exact J57  _ _ _ _  hZ (lv_sub hl [] rfl) h1
      exact J23  _ _ _ _  hZ (lv_sub hl [0, 1] rfl) h1
  refine lv_aload_n hx hb dX8_readProduct_0 rfl (lv_at hl 0 rfl) ?_
  refine lv_iload_n hx hb dX8_readProduct_1 rfl (lv_at hl 1 rfl) ?_
  refine z_cVv (As := [.int x1]) (rest := []) C0 hZ h1 (fun _ hf => zGGY_5 ih hk0 hf) mRX8_257 vX8_readPart hk0 rfl rfl hl.1 (Nat.le_of_ble_eq_true rfl) (zRs (by decide)) dX8_readProduct_2 ⟨Nat.le_of_ble_eq_true rfl, Nat.le_of_ble_eq_true rfl⟩ (fun _ σ_14 H locs h1 hZ => ?_)
  obtain ⟨n, h1⟩ := zlp_iff.mp h1
  exact J5 n  _ _ _ _  hZ (lv_sub hl [0, 1] rfl) h1
