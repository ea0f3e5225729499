noncomputable def FX8_readAnd_b33 (G : zGr)  (σ : zS) : Option (Int32 × zS) := some (0, σ)
noncomputable def FX8_readAnd_L5 (G : zGr) (k0 : Nat) (x1 : Int32) (σ : zS) : Option ((zS) ⊕ (Int32 × zS)) := zbd (FX8_is k0 12 σ) (fun r_2 σ_1 => if r_2 = 0 then zinr (FX8_readAnd_b33 G  σ_1) else zbd (FX8_stepOn k0 σ_1) (fun _ σ_3 => zbd (G 2 k0 x1 0 σ_3) (fun _ σ_5 => zbd (FX8_putSign k0 (-26) σ_5) (fun _ σ_7 => some (.inl (σ_7))))))
noncomputable def FX8_readAnd (G : zGr) (k0 : Nat) (x1 : Int32) (σ : zS) : Option (Int32 × zS) := zbd (G 2 k0 x1 0 σ) (fun _ σ_9 => zlp (fun q => FX8_readAnd_L5 G k0 x1 q) (σ_9))
set_option maxHeartbeats 4000000 in
set_option maxRecDepth 100000 in
theorem kX8_readAnd (l : Launch) {nd : Nat} {G : zGr} (ih : zPGY l nd G) {V : zV} {σ : zS} {t0 : Int32 × zS} {k0 : Nat} {x1 : Int32} (hk0 : kd 1 k0 = 8) (h1 : FX8_readAnd G k0 x1 σ = some t0) : zMv l yX8_readAnd cX8_readAnd 2 (nd + 1 + 10) ((nd + 1) * 40 + 400) 1 V σ t0 [.ref (zad V k0), .int x1] := by
  refine zMv_of (by decide) (Nat.le_of_ble_eq_true rfl) ?_
  intro p e s m below meth c A C0 hr hlk hZ ls hl
  generalize ([.ref (zad V k0), .int x1] : List Value).toArray = args at C0 ⊢
  obtain ⟨Q, hQ⟩ : ∃ Q, Q = MQ below (zQv 1 V t0 A) args s 0 0 A := ⟨_, rfl⟩
  rw [← hQ]
  have hx := C0.1
  have hb := C0.2.1
  have hl : lv_has ls 2 [(0, .ref (zad V k0)), (1, .int x1)] := hl
  unfold FX8_readAnd at h1
  have J33 : ∀  (σ : zS) (H : Heap) (locs : List Loc) (ls : Array Slot), zZ 1 V A σ s H locs → lv_has ls 2 [] → FX8_readAnd_b33 G  σ = some t0 → W p l e (zrm (nd + 1 + 10) ((nd + 1) * 40 + 400)) s m args below meth c H locs 0 0 Q (F0 m 33 ls []) := by
    intro  σ H locs ls  hZ hl h1
    unfold FX8_readAnd_b33 at h1
    rw [hQ]; exact z_vret C0 hr hlk hZ h1 dX8_readAnd_33
  have J5 : ∀ (n : Nat)  (σ : zS) (H : Heap) (locs : List Loc) (ls : Array Slot), zZ 1 V A σ s H locs → lv_has ls 2 [(0, .ref (zad V k0)), (1, .int x1)] → zit (fun q => FX8_readAnd_L5 G k0 x1 q) n (σ) = some t0 → W p l e (zrm (nd + 1 + 10) ((nd + 1) * 40 + 400)) s m args below meth c H locs 0 0 Q (F0 m 5 ls []) := by
    intro n
    induction n with
    | zero => intro  σ H locs ls  _ _ h1; cases h1
    | succ n ih5 =>
      intro  σ H locs ls  hZ hl h1
      obtain ⟨t1, h1, hz1⟩ := zit_1 h1
      replace h1 : FX8_readAnd_L5 G k0 x1 σ = some t1 := h1
      unfold FX8_readAnd_L5 at h1
      refine lv_aload_n hx hb dX8_readAnd_5 rfl (lv_at hl 0 rfl) ?_
      refine z_ldcSw (i := 12) (tx := "and") C0 hZ (by decide +kernel) dX8_readAnd_6 ?_
      refine z_cVi (As := [.ref (V.2.2.2.1 12)]) (rest := []) C0 hZ h1 (fun _ hf => kX8_is l hk0 (by decide) hf) mRX8_224 vX8_is hk0 rfl rfl hl.1 (Nat.le_of_ble_eq_true rfl) (zRo (by decide) (by decide)) dX8_readAnd_9 ⟨Nat.le_of_ble_eq_true rfl, Nat.le_of_ble_eq_true rfl⟩ (fun r_2 σ_1 H locs h1 hZ => ?_)
      refine z_if_eq (tgt := 33) C0 h1 dX8_readAnd_12 (by decide) (fun h1 => ?_) (fun h1 => ?_)
      · have h1 := zout h1 hz1
        exact J33  _ _ _ _  hZ (lv_sub hl [] rfl) h1
      refine lv_aload_n hx hb dX8_readAnd_15 rfl (lv_at hl 0 rfl) ?_
      refine z_cVv (As := []) (rest := []) C0 hZ h1 (fun _ hf => kX8_stepOn l hk0 hf) mRX8_235 vX8_stepOn hk0 rfl rfl hl.1 (Nat.le_of_ble_eq_true rfl) (zRo (by decide) (by decide)) dX8_readAnd_16 ⟨Nat.le_of_ble_eq_true rfl, Nat.le_of_ble_eq_true rfl⟩ (fun _ σ_3 H locs h1 hZ => ?_)
      refine lv_aload_n hx hb dX8_readAnd_19 rfl (lv_at hl 0 rfl) ?_
      refine lv_iload_n hx hb dX8_readAnd_20 rfl (lv_at hl 1 rfl) ?_
      refine z_cVv (As := [.int x1]) (rest := []) C0 hZ h1 (fun _ hf => zGGY_2 ih hk0 hf) mRX8_268 vX8_readNot hk0 rfl rfl hl.1 (Nat.le_of_ble_eq_true rfl) (zRs (by decide)) dX8_readAnd_21 ⟨Nat.le_of_ble_eq_true rfl, Nat.le_of_ble_eq_true rfl⟩ (fun _ σ_5 H locs h1 hZ => ?_)
      refine lv_aload_n hx hb dX8_readAnd_24 rfl (lv_at hl 0 rfl) ?_
      refine lv_bipush (v := (-26)) hx hb dX8_readAnd_25 (by decide) ?_
      refine z_cVv (As := [.int (-26)]) (rest := []) C0 hZ h1 (fun _ hf => kX8_putSign l hk0 hf) mRX8_244 vX8_putSign hk0 rfl rfl hl.1 (Nat.le_of_ble_eq_true rfl) (zRo (by decide) (by decide)) dX8_readAnd_27 ⟨Nat.le_of_ble_eq_true rfl, Nat.le_of_ble_eq_true rfl⟩ (fun _ σ_7 H locs h1 hZ => ?_)
      refine lv_goto (tgt := 5) hx hb dX8_readAnd_30 (by decide) ?_
      exact ih5  _ _ _ _  hZ (lv_sub hl [0, 1] rfl) (zback h1 hz1)
  refine lv_aload_n hx hb dX8_readAnd_0 rfl (lv_at hl 0 rfl) ?_
  refine lv_iload_n hx hb dX8_readAnd_1 rfl (lv_at hl 1 rfl) ?_
  refine z_cVv (As := [.int x1]) (rest := []) C0 hZ h1 (fun _ hf => zGGY_2 ih hk0 hf) mRX8_268 vX8_readNot hk0 rfl rfl hl.1 (Nat.le_of_ble_eq_true rfl) (zRs (by decide)) dX8_readAnd_2 ⟨Nat.le_of_ble_eq_true rfl, Nat.le_of_ble_eq_true rfl⟩ (fun _ σ_9 H locs h1 hZ => ?_)
  obtain ⟨n, h1⟩ := zlp_iff.mp h1
  exact J5 n  _ _ _ _  hZ (lv_sub hl [0, 1] rfl) h1
