noncomputable def FX8_crowdAt_b45 (x2 : Int32) (σ : zS) : Option (Int32 × zS) := some (x2, σ)
noncomputable def FX8_crowdAt_b37 (k0 : Nat) (x1 : Int32) (x3 : Int32) (y0 : Int32) (y1 : Int32) (σ : zS) : Option ((Int32 × Int32 × zS) ⊕ (Int32 × zS)) := zlet (y0 + y1) (fun x2_1 => zlet (x3 + 1) (fun x3_2 => some (.inl (x2_1, x3_2, σ))))
noncomputable def FX8_crowdAt_b36 (k0 : Nat) (x1 : Int32) (x3 : Int32) (y0 : Int32) (σ : zS) : Option ((Int32 × Int32 × zS) ⊕ (Int32 × zS)) := FX8_crowdAt_b37 k0 x1 x3 y0 0 σ
noncomputable def FX8_crowdAt_L4 (k0 : Nat) (x1 : Int32) (x2 : Int32) (x3 : Int32) (σ : zS) : Option ((Int32 × Int32 × zS) ⊕ (Int32 × zS)) := zin (ln 1 (k0 + 3)) 3 (if (σ (k0 + 3) (Int32.toNatClampNeg 3)) ≤ x3 then zinr (FX8_crowdAt_b45 x2 σ) else zbd (FX8_isInside k0 x3 σ) (fun r_4 σ_3 => if r_4 = 0 then FX8_crowdAt_b36 k0 x1 x3 x2 σ_3 else zbd (FX8_aisleOf k0 x3 σ_3) (fun r_6 σ_5 => if r_6 = x1 then FX8_crowdAt_b37 k0 x1 x3 x2 1 σ_5 else FX8_crowdAt_b36 k0 x1 x3 x2 σ_5)))
noncomputable def FX8_crowdAt (k0 : Nat) (x1 : Int32) (σ : zS) : Option (Int32 × zS) := zlet 0 (fun x2_7 => zlet 0 (fun x3_8 => zlp (fun q => FX8_crowdAt_L4 k0 x1 q.1 q.2.1 q.2.2) (x2_7, x3_8, σ)))
set_option maxHeartbeats 4000000 in
set_option maxRecDepth 100000 in
theorem kX8_crowdAt (l : Launch) {V : zV} {σ : zS} {t0 : Int32 × zS} {k0 : Nat} {x1 : Int32} (hk0 : kd 1 k0 = 8) (h1 : FX8_crowdAt k0 x1 σ = some t0) : zMi l yX8_crowdAt cX8_crowdAt 4 (some .int) 1 21 1 V σ t0 [.ref (zad V k0), .int x1] := by
  refine zMi_of (by decide) (Nat.le_of_ble_eq_true rfl) ?_
  intro p e s m below meth c A C0 hr hlk hZ ls hl
  generalize ([.ref (zad V k0), .int x1] : List Value).toArray = args at C0 ⊢
  obtain ⟨Q, hQ⟩ : ∃ Q, Q = MQ below (zQi 1 V t0 A) args s 0 0 A := ⟨_, rfl⟩
  rw [← hQ]
  have hx := C0.1
  have hb := C0.2.1
  have hl : lv_has ls 4 [(0, .ref (zad V k0)), (1, .int x1)] := hl
  unfold FX8_crowdAt at h1
  have J45 : ∀ (x2 : Int32) (σ : zS) (H : Heap) (locs : List Loc) (ls : Array Slot), zZ 1 V A σ s H locs → lv_has ls 4 [(2, .int x2)] → FX8_crowdAt_b45 x2 σ = some t0 → W p l e (zrm 1 21) s m args below meth c H locs 0 0 Q (F0 m 45 ls []) := by
    intro x2 σ H locs ls  hZ hl h1
    unfold FX8_crowdAt_b45 at h1
    refine lv_iload_n hx hb dX8_crowdAt_45 rfl (lv_at hl 0 rfl) ?_
    rw [hQ]; exact z_iret C0 hr hlk hZ h1 dX8_crowdAt_46
  have J4 : ∀ (n : Nat) (x2 : Int32) (x3 : Int32) (σ : zS) (H : Heap) (locs : List Loc) (ls : Array Slot), zZ 1 V A σ s H locs → lv_has ls 4 [(0, .ref (zad V k0)), (1, .int x1), (2, .int x2), (3, .int x3)] → zit (fun q => FX8_crowdAt_L4 k0 x1 q.1 q.2.1 q.2.2) n (x2, x3, σ) = some t0 → W p l e (zrm 1 21) s m args below meth c H locs 0 0 Q (F0 m 4 ls []) := by
    intro n
    induction n with
    | zero => intro x2 x3 σ H locs ls  _ _ h1; cases h1
    | succ n ih4 =>
      intro x2 x3 σ H locs ls  hZ hl h1
      obtain ⟨t1, h1, hz1⟩ := zit_1 h1
      have J37 : ∀ (x3 : Int32) (y0 : Int32) (y1 : Int32) (σ : zS) (H : Heap) (locs : List Loc) (ls : Array Slot), zZ 1 V A σ s H locs → lv_has ls 4 [(0, .ref (zad V k0)), (1, .int x1), (3, .int x3)] → FX8_crowdAt_b37 k0 x1 x3 y0 y1 σ = some t1 → W p l e (zrm 1 21) s m args below meth c H locs 0 0 Q (F0 m 37 ls [.int y1, .int y0]) := by
        intro x3 y0 y1 σ H locs ls  hZ hl h1
        unfold FX8_crowdAt_b37 at h1
        refine lv_iadd hx hb dX8_crowdAt_37 ?_
        refine z_istore_n C0 h1 hl (fun x2_1 => [(2, .int x2_1), (0, .ref (zad V k0)), (1, .int x1), (3, .int x3)]) dX8_crowdAt_38 rfl (by decide) (fun _ => rfl) (fun x2_1 ls h1 hl => ?_)
        refine z_iinc (v := 1) C0 h1 hl (fun x3_2 => [(3, .int x3_2), (2, .int x2_1), (0, .ref (zad V k0)), (1, .int x1)]) dX8_crowdAt_39 (k := 3) rfl (by decide) (by decide) (fun _ => rfl) (fun x3_2 ls h1 hl => ?_)
        refine lv_goto (tgt := 4) hx hb dX8_crowdAt_42 (by decide) ?_
        exact ih4 x2_1 x3_2 _ _ _ _  hZ (lv_sub hl [2, 3, 1, 0] rfl) (zback h1 hz1)
      have J36 : ∀ (x3 : Int32) (y0 : Int32) (σ : zS) (H : Heap) (locs : List Loc) (ls : Array Slot), zZ 1 V A σ s H locs → lv_has ls 4 [(0, .ref (zad V k0)), (1, .int x1), (3, .int x3)] → FX8_crowdAt_b36 k0 x1 x3 y0 σ = some t1 → W p l e (zrm 1 21) s m args below meth c H locs 0 0 Q (F0 m 36 ls [.int y0]) := by
        intro x3 y0 σ H locs ls  hZ hl h1
        unfold FX8_crowdAt_b36 at h1
        refine lv_iconst (v := 0) hx hb dX8_crowdAt_36 (by decide) ?_
        exact J37 x3 y0 0 _ _ _ _  hZ (lv_sub hl [0, 1, 2] rfl) h1
      replace h1 : FX8_crowdAt_L4 k0 x1 x2 x3 σ = some t1 := h1
      unfold FX8_crowdAt_L4 at h1
      refine lv_iload_n hx hb dX8_crowdAt_4 rfl (lv_at hl 3 rfl) ?_
      refine lv_aload_n hx hb dX8_crowdAt_5 rfl (lv_at hl 0 rfl) ?_
      refine z_getr C0 hZ hk0 fRX8_40 rfl dX8_crowdAt_6 ?_
      refine lv_iconst (v := 3) hx hb dX8_crowdAt_9 (by decide) ?_
      refine z_iald C0 hZ h1 (zkt8_3 hk0) dX8_crowdAt_10 (fun h1 => ?_)
      refine z_ic_ge (tgt := 45) C0 h1 dX8_crowdAt_11 (by decide) (fun h1 => ?_) (fun h1 => ?_)
      · have h1 := zout h1 hz1
        exact J45 x2 _ _ _ _  hZ (lv_sub hl [2] rfl) h1
      refine lv_iload_n hx hb dX8_crowdAt_14 rfl (lv_at hl 2 rfl) ?_
      refine lv_aload_n hx hb dX8_crowdAt_15 rfl (lv_at hl 0 rfl) ?_
      refine lv_iload_n hx hb dX8_crowdAt_16 rfl (lv_at hl 3 rfl) ?_
      refine z_cVi (As := [.int x3]) (rest := [.int x2]) C0 hZ h1 (fun _ hf => kX8_isInside l hk0 hf) mRX8_404 vX8_isInside hk0 rfl rfl hl.1 (Nat.le_of_ble_eq_true rfl) ⟨Nat.le_of_ble_eq_true rfl, Nat.le_of_ble_eq_true rfl⟩ dX8_crowdAt_17 ⟨Nat.le_of_ble_eq_true rfl, Nat.le_of_ble_eq_true rfl⟩ (fun r_4 σ_3 H locs h1 hZ => ?_)
      refine z_if_eq (tgt := 36) C0 h1 dX8_crowdAt_20 (by decide) (fun h1 => ?_) (fun h1 => ?_)
      · exact J36 x3 x2 _ _ _ _  hZ (lv_sub hl [0, 1, 3] rfl) h1
      refine lv_aload_n hx hb dX8_crowdAt_23 rfl (lv_at hl 0 rfl) ?_
      refine lv_iload_n hx hb dX8_crowdAt_24 rfl (lv_at hl 3 rfl) ?_
      refine z_cVi (As := [.int x3]) (rest := [.int x2]) C0 hZ h1 (fun _ hf => kX8_aisleOf l hk0 hf) mRX8_407 vX8_aisleOf hk0 rfl rfl hl.1 (Nat.le_of_ble_eq_true rfl) ⟨Nat.le_of_ble_eq_true rfl, Nat.le_of_ble_eq_true rfl⟩ dX8_crowdAt_25 ⟨Nat.le_of_ble_eq_true rfl, Nat.le_of_ble_eq_true rfl⟩ (fun r_6 σ_5 H locs h1 hZ => ?_)
      refine lv_iload_n hx hb dX8_crowdAt_28 rfl (lv_at hl 1 rfl) ?_
      refine z_ic_ne (tgt := 36) C0 h1 dX8_crowdAt_29 (by decide) (fun h1 => ?_) (fun h1 => ?_)
      · exact J36 x3 x2 _ _ _ _  hZ (lv_sub hl [0, 1, 3] rfl) h1
      refine lv_iconst (v := 1) hx hb dX8_crowdAt_32 (by decide) ?_
      refine lv_goto (tgt := 37) hx hb dX8_crowdAt_33 (by decide) ?_
      exact J37 x3 x2 1 _ _ _ _  hZ (lv_sub hl [0, 1, 3] rfl) h1
  refine lv_iconst (v := 0) hx hb dX8_crowdAt_0 (by decide) ?_
  refine z_istore_n C0 h1 hl (fun x2_7 => [(2, .int x2_7), (0, .ref (zad V k0)), (1, .int x1)]) dX8_crowdAt_1 rfl (by decide) (fun _ => rfl) (fun x2_7 ls h1 hl => ?_)
  refine lv_iconst (v := 0) hx hb dX8_crowdAt_2 (by decide) ?_
  refine z_istore_n C0 h1 hl (fun x3_8 => [(3, .int x3_8), (2, .int x2_7), (0, .ref (zad V k0)), (1, .int x1)]) dX8_crowdAt_3 rfl (by decide) (fun _ => rfl) (fun x3_8 ls h1 hl => ?_)
  obtain ⟨n, h1⟩ := zlp_iff.mp h1
  exact J4 n x2_7 x3_8 _ _ _ _  hZ (lv_sub hl [2, 3, 1, 0] rfl) h1
noncomputable def FX8_followed_b245 (x2 : Int32) (σ : zS) : Option (Int32 × zS) := some (x2, σ)
noncomputable def FX8_followed_b239 (k0 : Nat) (x1 : Int32) (x2 : Int32) (x3 : Int32) (x4 : Int32) (σ : zS) : Option ((Int32 × Int32 × Int32 × zS) ⊕ (Int32 × zS)) := zlet (x4 + 1) (fun x4_1 => some (.inl (x2, x3, x4_1, σ)))
noncomputable def FX8_followed_b178 (k0 : Nat) (x1 : Int32) (x2 : Int32) (x3 : Int32) (x4 : Int32) (x5 : Int32) (q0 : Nat) (y1 : Int32) (y2 : Int32) (σ : zS) : Option ((Int32 × Int32 × Int32 × zS) ⊕ (Int32 × zS)) := zin (ln 1 q0) y1 (zlet (zup σ q0 (Int32.toNatClampNeg y1) y2) (fun σ_2 => zin (ln 1 (k0 + 22)) x5 (zin (ln 1 (k0 + 20)) 4 (zlet (zup σ_2 (k0 + 20) (Int32.toNatClampNeg 4) (σ_2 (k0 + 22) (Int32.toNatClampNeg x5))) (fun σ_3 => zbd (FX8_crowdAt k0 x5 σ_3) (fun r_5 σ_4 => zin (ln 1 (k0 + 20)) 5 (zlet (zup σ_4 (k0 + 20) (Int32.toNatClampNeg 5) (r_5 - 1)) (fun σ_6 => zin (ln 1 (k0 + 20)) 6 (zlet (zup σ_6 (k0 + 20) (Int32.toNatClampNeg 6) x1) (fun σ_7 => zbd (FX8_valueBy k0 (σ_7 k0 47) σ_7) (fun r_9 σ_8 => zlet r_9 (fun x6_10 => if x3 < x6_10 then zlet x4 (fun x2_11 => zlet x6_10 (fun x3_12 => FX8_followed_b239 k0 x1 x2_11 x3_12 x4 σ_8)) else FX8_followed_b239 k0 x1 x2 x3 x4 σ_8))))))))))))
noncomputable def FX8_followed_b133 (k0 : Nat) (x1 : Int32) (x2 : Int32) (x3 : Int32) (x4 : Int32) (x5 : Int32) (q0 : Nat) (y1 : Int32) (y2 : Int32) (σ : zS) : Option ((Int32 × Int32 × Int32 × zS) ⊕ (Int32 × zS)) := zin (ln 1 q0) y1 (zlet (zup σ q0 (Int32.toNatClampNeg y1) y2) (fun σ_13 => zin (ln 1 (k0 + 18)) ((10 * (σ_13 k0 51)) + x5) (if (σ_13 (k0 + 18) (Int32.toNatClampNeg ((10 * (σ_13 k0 51)) + x5))) = (-1) then FX8_followed_b178 k0 x1 x2 x3 x4 x5 (k0 + 20) 3 99 σ_13 else zin (ln 1 (k0 + 18)) ((10 * (σ_13 k0 51)) + x5) (FX8_followed_b178 k0 x1 x2 x3 x4 x5 (k0 + 20) 3 (σ_13 (k0 + 18) (Int32.toNatClampNeg ((10 * (σ_13 k0 51)) + x5))) σ_13))))
noncomputable def FX8_followed_L35 (k0 : Nat) (x1 : Int32) (x2 : Int32) (x3 : Int32) (x4 : Int32) (σ : zS) : Option ((Int32 × Int32 × Int32 × zS) ⊕ (Int32 × zS)) := zin (ln 1 (k0 + 3)) 3 (if (σ (k0 + 3) (Int32.toNatClampNeg 3)) ≤ x4 then zinr (FX8_followed_b245 x2 σ) else if (σ k0 46) = 1 then zbd (FX8_isInside k0 x4 σ) (fun r_15 σ_14 => if r_15 = 0 then FX8_followed_b239 k0 x1 x2 x3 x4 σ_14 else zin (ln 1 (k0 + 8)) x4 (if (σ_14 (k0 + 8) (Int32.toNatClampNeg x4)) = 3 then FX8_followed_b239 k0 x1 x2 x3 x4 σ_14 else zbd (FX8_aisleOf k0 x4 σ_14) (fun r_17 σ_16 => zlet r_17 (fun x5_18 => zin (ln 1 (k0 + 11)) x4 (zin (ln 1 (k0 + 20)) 0 (zlet (zup σ_16 (k0 + 20) (Int32.toNatClampNeg 0) (σ_16 (k0 + 11) (Int32.toNatClampNeg x4))) (fun σ_19 => zbd (FX8_seconds k0 x4 x1 σ_19) (fun r_21 σ_20 => zin (ln 1 (k0 + 20)) 1 (zlet (zup σ_20 (k0 + 20) (Int32.toNatClampNeg 1) r_21) (fun σ_22 => zbd (FX8_isOf (σ_22 k0 52) x4 σ_22) (fun r_24 σ_23 => if r_24 = 0 then FX8_followed_b133 k0 x1 x2 x3 x4 x5_18 (k0 + 20) 2 0 σ_23 else FX8_followed_b133 k0 x1 x2 x3 x4 x5_18 (k0 + 20) 2 1 σ_23))))))))))) else zinr (FX8_followed_b245 x2 σ))
noncomputable def FX8_followed_b27 (y0 : Int32) (σ : zS) : Option (Int32 × zS) := some (y0, σ)
noncomputable def FX8_followed (k0 : Nat) (x1 : Int32) (σ : zS) : Option (Int32 × zS) := if (σ k0 46) = 2 then zbd (FX8_isInside k0 (σ k0 47) σ) (fun r_29 σ_28 => if r_29 = 0 then FX8_followed_b27 (-1) σ_28 else FX8_followed_b27 (σ_28 k0 47) σ_28) else zlet (-1) (fun x2_25 => zlet 0 (fun x3_26 => zlet 0 (fun x4_27 => zlp (fun q => FX8_followed_L35 k0 x1 q.1 q.2.1 q.2.2.1 q.2.2.2) (x2_25, x3_26, x4_27, σ))))
set_option maxHeartbeats 4000000 in
set_option maxRecDepth 100000 in
theorem kX8_followed (l : Launch) {V : zV} {σ : zS} {t0 : Int32 × zS} {k0 : Nat} {x1 : Int32} (hk0 : kd 1 k0 = 8) (h1 : FX8_followed k0 x1 σ = some t0) : zMi l yX8_followed cX8_followed 7 (some .int) 2 46 1 V σ t0 [.ref (zad V k0), .int x1] := by
  refine zMi_of (by decide) (Nat.le_of_ble_eq_true rfl) ?_
  intro p e s m below meth c A C0 hr hlk hZ ls hl
  generalize ([.ref (zad V k0), .int x1] : List Value).toArray = args at C0 ⊢
  obtain ⟨Q, hQ⟩ : ∃ Q, Q = MQ below (zQi 1 V t0 A) args s 0 0 A := ⟨_, rfl⟩
  rw [← hQ]
  have hx := C0.1
  have hb := C0.2.1
  have hl : lv_has ls 7 [(0, .ref (zad V k0)), (1, .int x1)] := hl
  unfold FX8_followed at h1
  have J245 : ∀ (x2 : Int32) (σ : zS) (H : Heap) (locs : List Loc) (ls : Array Slot), zZ 1 V A σ s H locs → lv_has ls 7 [(2, .int x2)] → FX8_followed_b245 x2 σ = some t0 → W p l e (zrm 2 46) s m args below meth c H locs 0 0 Q (F0 m 245 ls []) := by
    intro x2 σ H locs ls  hZ hl h1
    unfold FX8_followed_b245 at h1
    refine lv_iload_n hx hb dX8_followed_245 rfl (lv_at hl 0 rfl) ?_
    rw [hQ]; exact z_iret C0 hr hlk hZ h1 dX8_followed_246
  have J35 : ∀ (n : Nat) (x2 : Int32) (x3 : Int32) (x4 : Int32) (σ : zS) (H : Heap) (locs : List Loc) (ls : Array Slot), zZ 1 V A σ s H locs → lv_has ls 7 [(0, .ref (zad V k0)), (1, .int x1), (2, .int x2), (3, .int x3), (4, .int x4)] → zit (fun q => FX8_followed_L35 k0 x1 q.1 q.2.1 q.2.2.1 q.2.2.2) n (x2, x3, x4, σ) = some t0 → W p l e (zrm 2 46) s m args below meth c H locs 0 0 Q (F0 m 35 ls []) := by
    intro n
    induction n with
    | zero => intro x2 x3 x4 σ H locs ls  _ _ h1; cases h1
    | succ n ih35 =>
      intro x2 x3 x4 σ H locs ls  hZ hl h1
      obtain ⟨t1, h1, hz1⟩ := zit_1 h1
      have J239 : ∀ (x2 : Int32) (x3 : Int32) (x4 : Int32) (σ : zS) (H : Heap) (locs : List Loc) (ls : Array Slot), zZ 1 V A σ s H locs → lv_has ls 7 [(0, .ref (zad V k0)), (1, .int x1), (2, .int x2), (3, .int x3), (4, .int x4)] → FX8_followed_b239 k0 x1 x2 x3 x4 σ = some t1 → W p l e (zrm 2 46) s m args below meth c H locs 0 0 Q (F0 m 239 ls []) := by
        intro x2 x3 x4 σ H locs ls  hZ hl h1
        unfold FX8_followed_b239 at h1
        refine z_iinc (v := 1) C0 h1 hl (fun x4_1 => [(4, .int x4_1), (0, .ref (zad V k0)), (1, .int x1), (2, .int x2), (3, .int x3)]) dX8_followed_239 (k := 4) rfl (by decide) (by decide) (fun _ => rfl) (fun x4_1 ls h1 hl => ?_)
        refine lv_goto (tgt := 35) hx hb dX8_followed_242 (by decide) ?_
        exact ih35 x2 x3 x4_1 _ _ _ _  hZ (lv_sub hl [1, 2, 3, 4, 0] rfl) (zback h1 hz1)
      have J178 : ∀ (x2 : Int32) (x3 : Int32) (x4 : Int32) (x5 : Int32) (q0 : Nat) (y1 : Int32) (y2 : Int32) (σ : zS) (H : Heap) (locs : List Loc) (ls : Array Slot), kd 1 q0 = 100 → zZ 1 V A σ s H locs → lv_has ls 7 [(0, .ref (zad V k0)), (1, .int x1), (2, .int x2), (3, .int x3), (4, .int x4), (5, .int x5)] → FX8_followed_b178 k0 x1 x2 x3 x4 x5 q0 y1 y2 σ = some t1 → W p l e (zrm 2 46) s m args below meth c H locs 0 0 Q (F0 m 178 ls [.int y2, .int y1, .ref (zad V q0)]) := by
        intro x2 x3 x4 x5 q0 y1 y2 σ H locs ls hq0 hZ hl h1
        unfold FX8_followed_b178 at h1
        refine z_iast C0 hZ h1 hq0 dX8_followed_178 (fun σ_2 H locs h1 hZ => ?_)
        refine lv_aload_n hx hb dX8_followed_179 rfl (lv_at hl 0 rfl) ?_
        refine z_getr C0 hZ hk0 fRX8_96 rfl dX8_followed_180 ?_
        refine lv_iconst (v := 4) hx hb dX8_followed_183 (by decide) ?_
        refine lv_aload_n hx hb dX8_followed_184 rfl (lv_at hl 0 rfl) ?_
        refine z_getr C0 hZ hk0 fRX8_102 rfl dX8_followed_185 ?_
        refine lv_iload hx hb dX8_followed_188 (lv_at hl 5 rfl) ?_
        refine z_iald C0 hZ h1 (zkt8_41 hk0) dX8_followed_190 (fun h1 => ?_)
        refine z_iast C0 hZ h1 (zkt8_39 hk0) dX8_followed_191 (fun σ_3 H locs h1 hZ => ?_)
        refine lv_aload_n hx hb dX8_followed_192 rfl (lv_at hl 0 rfl) ?_
        refine z_getr C0 hZ hk0 fRX8_96 rfl dX8_followed_193 ?_
        refine lv_iconst (v := 5) hx hb dX8_followed_196 (by decide) ?_
        refine lv_aload_n hx hb dX8_followed_197 rfl (lv_at hl 0 rfl) ?_
        refine lv_iload hx hb dX8_followed_198 (lv_at hl 5 rfl) ?_
        refine z_cVi (As := [.int x5]) (rest := [.int 5, .ref (zad V (k0 + 20))]) C0 hZ h1 (fun _ hf => kX8_crowdAt l hk0 hf) mRX8_413 vX8_crowdAt hk0 rfl rfl hl.1 (Nat.le_of_ble_eq_true rfl) ⟨Nat.le_of_ble_eq_true rfl, Nat.le_of_ble_eq_true rfl⟩ dX8_followed_200 ⟨Nat.le_of_ble_eq_true rfl, Nat.le_of_ble_eq_true rfl⟩ (fun r_5 σ_4 H locs h1 hZ => ?_)
        refine lv_iconst (v := 1) hx hb dX8_followed_203 (by decide) ?_
        refine lv_isub hx hb dX8_followed_204 ?_
        refine z_iast C0 hZ h1 (zkt8_39 hk0) dX8_followed_205 (fun σ_6 H locs h1 hZ => ?_)
        refine lv_aload_n hx hb dX8_followed_206 rfl (lv_at hl 0 rfl) ?_
        refine z_getr C0 hZ hk0 fRX8_96 rfl dX8_followed_207 ?_
        refine lv_bipush (v := 6) hx hb dX8_followed_210 (by decide) ?_
        refine lv_iload_n hx hb dX8_followed_212 rfl (lv_at hl 1 rfl) ?_
        refine z_iast C0 hZ h1 (zkt8_39 hk0) dX8_followed_213 (fun σ_7 H locs h1 hZ => ?_)
        refine lv_aload_n hx hb dX8_followed_214 rfl (lv_at hl 0 rfl) ?_
        refine lv_aload_n hx hb dX8_followed_215 rfl (lv_at hl 0 rfl) ?_
        refine z_geti C0 hZ hk0 fRX8_367 rfl dX8_followed_216 ?_
        refine z_cVi (As := [.int (σ_7 k0 47)]) (rest := []) C0 hZ h1 (fun _ hf => kX8_valueBy l hk0 hf) mRX8_416 vX8_valueBy hk0 rfl rfl hl.1 (Nat.le_of_ble_eq_true rfl) ⟨Nat.le_of_ble_eq_true rfl, Nat.le_of_ble_eq_true rfl⟩ dX8_followed_219 ⟨Nat.le_of_ble_eq_true rfl, Nat.le_of_ble_eq_true rfl⟩ (fun r_9 σ_8 H locs h1 hZ => ?_)
        refine z_istore C0 h1 hl (fun x6_10 => [(6, .int x6_10), (0, .ref (zad V k0)), (1, .int x1), (2, .int x2), (3, .int x3), (4, .int x4), (5, .int x5)]) dX8_followed_222 (by decide) (fun _ => rfl) (fun x6_10 ls h1 hl => ?_)
        refine lv_iload hx hb dX8_followed_224 (lv_at hl 0 rfl) ?_
        refine lv_iload_n hx hb dX8_followed_226 rfl (lv_at hl 4 rfl) ?_
        refine z_ic_gt (tgt := 233) C0 h1 dX8_followed_227 (by decide) (fun h1 => ?_) (fun h1 => ?_)
        · refine lv_iload hx hb dX8_followed_233 (lv_at hl 5 rfl) ?_
          refine z_istore_n C0 h1 hl (fun x2_11 => [(2, .int x2_11), (6, .int x6_10), (0, .ref (zad V k0)), (1, .int x1), (3, .int x3), (4, .int x4), (5, .int x5)]) dX8_followed_235 rfl (by decide) (fun _ => rfl) (fun x2_11 ls h1 hl => ?_)
          refine lv_iload hx hb dX8_followed_236 (lv_at hl 1 rfl) ?_
          refine z_istore_n C0 h1 hl (fun x3_12 => [(3, .int x3_12), (2, .int x2_11), (6, .int x6_10), (0, .ref (zad V k0)), (1, .int x1), (4, .int x4), (5, .int x5)]) dX8_followed_238 rfl (by decide) (fun _ => rfl) (fun x3_12 ls h1 hl => ?_)
          exact J239 x2_11 x3_12 x4 _ _ _ _  hZ (lv_sub hl [3, 4, 1, 0, 5] rfl) h1
        refine lv_goto (tgt := 239) hx hb dX8_followed_230 (by decide) ?_
        exact J239 x2 x3 x4 _ _ _ _  hZ (lv_sub hl [1, 2, 3, 4, 5] rfl) h1
      have J133 : ∀ (x2 : Int32) (x3 : Int32) (x4 : Int32) (x5 : Int32) (q0 : Nat) (y1 : Int32) (y2 : Int32) (σ : zS) (H : Heap) (locs : List Loc) (ls : Array Slot), kd 1 q0 = 100 → zZ 1 V A σ s H locs → lv_has ls 7 [(0, .ref (zad V k0)), (1, .int x1), (2, .int x2), (3, .int x3), (4, .int x4), (5, .int x5)] → FX8_followed_b133 k0 x1 x2 x3 x4 x5 q0 y1 y2 σ = some t1 → W p l e (zrm 2 46) s m args below meth c H locs 0 0 Q (F0 m 133 ls [.int y2, .int y1, .ref (zad V q0)]) := by
        intro x2 x3 x4 x5 q0 y1 y2 σ H locs ls hq0 hZ hl h1
        unfold FX8_followed_b133 at h1
        refine z_iast C0 hZ h1 hq0 dX8_followed_133 (fun σ_13 H locs h1 hZ => ?_)
        refine lv_aload_n hx hb dX8_followed_134 rfl (lv_at hl 0 rfl) ?_
        refine z_getr C0 hZ hk0 fRX8_96 rfl dX8_followed_135 ?_
        refine lv_iconst (v := 3) hx hb dX8_followed_138 (by decide) ?_
        refine lv_aload_n hx hb dX8_followed_139 rfl (lv_at hl 0 rfl) ?_
        refine z_getr C0 hZ hk0 fRX8_88 rfl dX8_followed_140 ?_
        refine lv_bipush (v := 10) hx hb dX8_followed_143 (by decide) ?_
        refine lv_aload_n hx hb dX8_followed_145 rfl (lv_at hl 0 rfl) ?_
        refine z_geti C0 hZ hk0 fRX8_378 rfl dX8_followed_146 ?_
        refine lv_imul hx hb dX8_followed_149 ?_
        refine lv_iload hx hb dX8_followed_150 (lv_at hl 5 rfl) ?_
        refine lv_iadd hx hb dX8_followed_152 ?_
        refine z_iald C0 hZ h1 (zkt8_28 hk0) dX8_followed_153 (fun h1 => ?_)
        refine lv_iconst (v := (-1)) hx hb dX8_followed_154 (by decide) ?_
        refine z_ic_ne (tgt := 163) C0 h1 dX8_followed_155 (by decide) (fun h1 => ?_) (fun h1 => ?_)
        · refine lv_aload_n hx hb dX8_followed_163 rfl (lv_at hl 0 rfl) ?_
          refine z_getr C0 hZ hk0 fRX8_88 rfl dX8_followed_164 ?_
          refine lv_bipush (v := 10) hx hb dX8_followed_167 (by decide) ?_
          refine lv_aload_n hx hb dX8_followed_169 rfl (lv_at hl 0 rfl) ?_
          refine z_geti C0 hZ hk0 fRX8_378 rfl dX8_followed_170 ?_
          refine lv_imul hx hb dX8_followed_173 ?_
          refine lv_iload hx hb dX8_followed_174 (lv_at hl 5 rfl) ?_
          refine lv_iadd hx hb dX8_followed_176 ?_
          refine z_iald C0 hZ h1 (zkt8_28 hk0) dX8_followed_177 (fun h1 => ?_)
          exact J178 x2 x3 x4 x5 (k0 + 20) 3 (σ_13 (k0 + 18) (Int32.toNatClampNeg ((10 * (σ_13 k0 51)) + x5))) _ _ _ _ (zkt8_39 hk0) hZ (lv_sub hl [0, 1, 2, 3, 4, 5] rfl) h1
        refine lv_bipush (v := 99) hx hb dX8_followed_158 (by decide) ?_
        refine lv_goto (tgt := 178) hx hb dX8_followed_160 (by decide) ?_
        exact J178 x2 x3 x4 x5 (k0 + 20) 3 99 _ _ _ _ (zkt8_39 hk0) hZ (lv_sub hl [0, 1, 2, 3, 4, 5] rfl) h1
      replace h1 : FX8_followed_L35 k0 x1 x2 x3 x4 σ = some t1 := h1
      unfold FX8_followed_L35 at h1
      refine lv_iload hx hb dX8_followed_35 (lv_at hl 4 rfl) ?_
      refine lv_aload_n hx hb dX8_followed_37 rfl (lv_at hl 0 rfl) ?_
      refine z_getr C0 hZ hk0 fRX8_40 rfl dX8_followed_38 ?_
      refine lv_iconst (v := 3) hx hb dX8_followed_41 (by decide) ?_
      refine z_iald C0 hZ h1 (zkt8_3 hk0) dX8_followed_42 (fun h1 => ?_)
      refine z_ic_ge (tgt := 245) C0 h1 dX8_followed_43 (by decide) (fun h1 => ?_) (fun h1 => ?_)
      · have h1 := zout h1 hz1
        exact J245 x2 _ _ _ _  hZ (lv_sub hl [2] rfl) h1
      refine lv_aload_n hx hb dX8_followed_46 rfl (lv_at hl 0 rfl) ?_
      refine z_geti C0 hZ hk0 fRX8_364 rfl dX8_followed_47 ?_
      refine lv_iconst (v := 1) hx hb dX8_followed_50 (by decide) ?_
      refine z_ic_ne (tgt := 245) C0 h1 dX8_followed_51 (by decide) (fun h1 => ?_) (fun h1 => ?_)
      · have h1 := zout h1 hz1
        exact J245 x2 _ _ _ _  hZ (lv_sub hl [2] rfl) h1
      refine lv_aload_n hx hb dX8_followed_54 rfl (lv_at hl 0 rfl) ?_
      refine lv_iload hx hb dX8_followed_55 (lv_at hl 4 rfl) ?_
      refine z_cVi (As := [.int x4]) (rest := []) C0 hZ h1 (fun _ hf => kX8_isInside l hk0 hf) mRX8_404 vX8_isInside hk0 rfl rfl hl.1 (Nat.le_of_ble_eq_true rfl) ⟨Nat.le_of_ble_eq_true rfl, Nat.le_of_ble_eq_true rfl⟩ dX8_followed_57 ⟨Nat.le_of_ble_eq_true rfl, Nat.le_of_ble_eq_true rfl⟩ (fun r_15 σ_14 H locs h1 hZ => ?_)
      refine z_if_eq (tgt := 239) C0 h1 dX8_followed_60 (by decide) (fun h1 => ?_) (fun h1 => ?_)
      · exact J239 x2 x3 x4 _ _ _ _  hZ (lv_sub hl [0, 1, 2, 3, 4] rfl) h1
      refine lv_aload_n hx hb dX8_followed_63 rfl (lv_at hl 0 rfl) ?_
      refine z_getr C0 hZ hk0 fRX8_55 rfl dX8_followed_64 ?_
      refine lv_iload hx hb dX8_followed_67 (lv_at hl 4 rfl) ?_
      refine z_iald C0 hZ h1 (zkt8_8 hk0) dX8_followed_69 (fun h1 => ?_)
      refine lv_iconst (v := 3) hx hb dX8_followed_70 (by decide) ?_
      refine z_ic_ne (tgt := 77) C0 h1 dX8_followed_71 (by decide) (fun h1 => ?_) (fun h1 => ?_)
      · refine lv_aload_n hx hb dX8_followed_77 rfl (lv_at hl 0 rfl) ?_
        refine lv_iload hx hb dX8_followed_78 (lv_at hl 4 rfl) ?_
        refine z_cVi (As := [.int x4]) (rest := []) C0 hZ h1 (fun _ hf => kX8_aisleOf l hk0 hf) mRX8_407 vX8_aisleOf hk0 rfl rfl hl.1 (Nat.le_of_ble_eq_true rfl) ⟨Nat.le_of_ble_eq_true rfl, Nat.le_of_ble_eq_true rfl⟩ dX8_followed_80 ⟨Nat.le_of_ble_eq_true rfl, Nat.le_of_ble_eq_true rfl⟩ (fun r_17 σ_16 H locs h1 hZ => ?_)
        refine z_istore C0 h1 hl (fun x5_18 => [(5, .int x5_18), (0, .ref (zad V k0)), (1, .int x1), (2, .int x2), (3, .int x3), (4, .int x4)]) dX8_followed_83 (by decide) (fun _ => rfl) (fun x5_18 ls h1 hl => ?_)
        refine lv_aload_n hx hb dX8_followed_85 rfl (lv_at hl 1 rfl) ?_
        refine z_getr C0 hZ hk0 fRX8_96 rfl dX8_followed_86 ?_
        refine lv_iconst (v := 0) hx hb dX8_followed_89 (by decide) ?_
        refine lv_aload_n hx hb dX8_followed_90 rfl (lv_at hl 1 rfl) ?_
        refine z_getr C0 hZ hk0 fRX8_64 rfl dX8_followed_91 ?_
        refine lv_iload hx hb dX8_followed_94 (lv_at hl 5 rfl) ?_
        refine z_iald C0 hZ h1 (zkt8_11 hk0) dX8_followed_96 (fun h1 => ?_)
        refine z_iast C0 hZ h1 (zkt8_39 hk0) dX8_followed_97 (fun σ_19 H locs h1 hZ => ?_)
        refine lv_aload_n hx hb dX8_followed_98 rfl (lv_at hl 1 rfl) ?_
        refine z_getr C0 hZ hk0 fRX8_96 rfl dX8_followed_99 ?_
        refine lv_iconst (v := 1) hx hb dX8_followed_102 (by decide) ?_
        refine lv_aload_n hx hb dX8_followed_103 rfl (lv_at hl 1 rfl) ?_
        refine lv_iload hx hb dX8_followed_104 (lv_at hl 5 rfl) ?_
        refine lv_iload_n hx hb dX8_followed_106 rfl (lv_at hl 2 rfl) ?_
        refine z_cVi (As := [.int x4, .int x1]) (rest := [.int 1, .ref (zad V (k0 + 20))]) C0 hZ h1 (fun _ hf => kX8_seconds l hk0 hf) mRX8_410 vX8_seconds hk0 rfl rfl hl.1 (Nat.le_of_ble_eq_true rfl) ⟨Nat.le_of_ble_eq_true rfl, Nat.le_of_ble_eq_true rfl⟩ dX8_followed_107 ⟨Nat.le_of_ble_eq_true rfl, Nat.le_of_ble_eq_true rfl⟩ (fun r_21 σ_20 H locs h1 hZ => ?_)
        refine z_iast C0 hZ h1 (zkt8_39 hk0) dX8_followed_110 (fun σ_22 H locs h1 hZ => ?_)
        refine lv_aload_n hx hb dX8_followed_111 rfl (lv_at hl 1 rfl) ?_
        refine z_getr C0 hZ hk0 fRX8_96 rfl dX8_followed_112 ?_
        refine lv_iconst (v := 2) hx hb dX8_followed_115 (by decide) ?_
        refine lv_aload_n hx hb dX8_followed_116 rfl (lv_at hl 1 rfl) ?_
        refine z_geti C0 hZ hk0 fRX8_381 rfl dX8_followed_117 ?_
        refine lv_iload hx hb dX8_followed_120 (lv_at hl 5 rfl) ?_
        refine z_cSi (As := [.int (σ_22 k0 52), .int x4]) (rest := [.int 2, .ref (zad V (k0 + 20))]) C0 hZ h1 (fun _ hf => kX8_isOf l  hf) mRX8_383 sX8_isOf rfl rfl hl.1 (Nat.le_of_ble_eq_true rfl) ⟨Nat.le_of_ble_eq_true rfl, Nat.le_of_ble_eq_true rfl⟩ dX8_followed_122 ⟨Nat.le_of_ble_eq_true rfl, Nat.le_of_ble_eq_true rfl⟩ (fun r_24 σ_23 H locs h1 hZ => ?_)
        refine z_if_eq (tgt := 132) C0 h1 dX8_followed_125 (by decide) (fun h1 => ?_) (fun h1 => ?_)
        · refine lv_iconst (v := 0) hx hb dX8_followed_132 (by decide) ?_
          exact J133 x2 x3 x4 x5_18 (k0 + 20) 2 0 _ _ _ _ (zkt8_39 hk0) hZ (lv_sub hl [1, 2, 3, 4, 5, 0] rfl) h1
        refine lv_iconst (v := 1) hx hb dX8_followed_128 (by decide) ?_
        refine lv_goto (tgt := 133) hx hb dX8_followed_129 (by decide) ?_
        exact J133 x2 x3 x4 x5_18 (k0 + 20) 2 1 _ _ _ _ (zkt8_39 hk0) hZ (lv_sub hl [1, 2, 3, 4, 5, 0] rfl) h1
      refine lv_goto (tgt := 239) hx hb dX8_followed_74 (by decide) ?_
      exact J239 x2 x3 x4 _ _ _ _  hZ (lv_sub hl [0, 1, 2, 3, 4] rfl) h1
  have J27 : ∀ (y0 : Int32) (σ : zS) (H : Heap) (locs : List Loc) (ls : Array Slot), zZ 1 V A σ s H locs → lv_has ls 7 [] → FX8_followed_b27 y0 σ = some t0 → W p l e (zrm 2 46) s m args below meth c H locs 0 0 Q (F0 m 27 ls [.int y0]) := by
    intro y0 σ H locs ls  hZ hl h1
    unfold FX8_followed_b27 at h1
    rw [hQ]; exact z_iret C0 hr hlk hZ h1 dX8_followed_27
  refine lv_aload_n hx hb dX8_followed_0 rfl (lv_at hl 0 rfl) ?_
  refine z_geti C0 hZ hk0 fRX8_364 rfl dX8_followed_1 ?_
  refine lv_iconst (v := 2) hx hb dX8_followed_4 (by decide) ?_
  refine z_ic_ne (tgt := 28) C0 h1 dX8_followed_5 (by decide) (fun h1 => ?_) (fun h1 => ?_)
  · refine lv_iconst (v := (-1)) hx hb dX8_followed_28 (by decide) ?_
    refine z_istore_n C0 h1 hl (fun x2_25 => [(2, .int x2_25), (0, .ref (zad V k0)), (1, .int x1)]) dX8_followed_29 rfl (by decide) (fun _ => rfl) (fun x2_25 ls h1 hl => ?_)
    refine lv_iconst (v := 0) hx hb dX8_followed_30 (by decide) ?_
    refine z_istore_n C0 h1 hl (fun x3_26 => [(3, .int x3_26), (2, .int x2_25), (0, .ref (zad V k0)), (1, .int x1)]) dX8_followed_31 rfl (by decide) (fun _ => rfl) (fun x3_26 ls h1 hl => ?_)
    refine lv_iconst (v := 0) hx hb dX8_followed_32 (by decide) ?_
    refine z_istore C0 h1 hl (fun x4_27 => [(4, .int x4_27), (3, .int x3_26), (2, .int x2_25), (0, .ref (zad V k0)), (1, .int x1)]) dX8_followed_33 (by decide) (fun _ => rfl) (fun x4_27 ls h1 hl => ?_)
    obtain ⟨n, h1⟩ := zlp_iff.mp h1
    exact J35 n x2_25 x3_26 x4_27 _ _ _ _  hZ (lv_sub hl [3, 4, 2, 1, 0] rfl) h1
  refine lv_aload_n hx hb dX8_followed_8 rfl (lv_at hl 0 rfl) ?_
  refine lv_aload_n hx hb dX8_followed_9 rfl (lv_at hl 0 rfl) ?_
  refine z_geti C0 hZ hk0 fRX8_367 rfl dX8_followed_10 ?_
  refine z_cVi (As := [.int (σ k0 47)]) (rest := []) C0 hZ h1 (fun _ hf => kX8_isInside l hk0 hf) mRX8_404 vX8_isInside hk0 rfl rfl hl.1 (Nat.le_of_ble_eq_true rfl) ⟨Nat.le_of_ble_eq_true rfl, Nat.le_of_ble_eq_true rfl⟩ dX8_followed_13 ⟨Nat.le_of_ble_eq_true rfl, Nat.le_of_ble_eq_true rfl⟩ (fun r_29 σ_28 H locs h1 hZ => ?_)
  refine z_if_eq (tgt := 26) C0 h1 dX8_followed_16 (by decide) (fun h1 => ?_) (fun h1 => ?_)
  · refine lv_iconst (v := (-1)) hx hb dX8_followed_26 (by decide) ?_
    exact J27 (-1) _ _ _ _  hZ (lv_sub hl [] rfl) h1
  refine lv_aload_n hx hb dX8_followed_19 rfl (lv_at hl 0 rfl) ?_
  refine z_geti C0 hZ hk0 fRX8_367 rfl dX8_followed_20 ?_
  refine lv_goto (tgt := 27) hx hb dX8_followed_23 (by decide) ?_
  exact J27 (σ_28 k0 47) _ _ _ _  hZ (lv_sub hl [] rfl) h1
noncomputable def FX8_goNearer_b81  (σ : zS) : Option (Int32 × zS) := some (0, σ)
noncomputable def FX8_goNearer_b69 (k0 : Nat) (x3 : Int32) (σ : zS) : Option (Int32 × zS) := zlet (zup σ k0 51 x3) (fun σ_1 => some (0, σ_1))
noncomputable def FX8_goNearer_b75 (k0 : Nat) (x1 : Int32) (x2 : Int32) (x3 : Int32) (σ : zS) : Option ((Int32 × zS) ⊕ (Int32 × zS)) := zlet (x3 + 1) (fun x3_2 => some (.inl (x3_2, σ)))
noncomputable def FX8_goNearer_L23 (k0 : Nat) (x1 : Int32) (x2 : Int32) (x3 : Int32) (σ : zS) : Option ((Int32 × zS) ⊕ (Int32 × zS)) := zin (ln 1 (k0 + 3)) 0 (if (σ (k0 + 3) (Int32.toNatClampNeg 0)) ≤ x3 then zinr (FX8_goNearer_b81  σ) else zin (ln 1 (k0 + 6)) (σ k0 51) (if (((σ (k0 + 6) (Int32.toNatClampNeg (σ k0 51))) >>> (x3 &&& 31)) &&& 1) = 0 then FX8_goNearer_b75 k0 x1 x2 x3 σ else zin (ln 1 (k0 + 18)) ((10 * x3) + x1) (if (σ (k0 + 18) (Int32.toNatClampNeg ((10 * x3) + x1))) = (x2 - 1) then zinr (FX8_goNearer_b69 k0 x3 σ) else FX8_goNearer_b75 k0 x1 x2 x3 σ)))
noncomputable def FX8_goNearer (k0 : Nat) (x1 : Int32) (σ : zS) : Option (Int32 × zS) := zin (ln 1 (k0 + 18)) ((10 * (σ k0 51)) + x1) (zlet (σ (k0 + 18) (Int32.toNatClampNeg ((10 * (σ k0 51)) + x1))) (fun x2_3 => if 1 ≤ x2_3 then zlet 0 (fun x3_4 => zlp (fun q => FX8_goNearer_L23 k0 x1 x2_3 q.1 q.2) (x3_4, σ)) else some (0, σ)))
set_option maxHeartbeats 4000000 in
set_option maxRecDepth 100000 in
theorem kX8_goNearer (l : Launch) {V : zV} {σ : zS} {t0 : Int32 × zS} {k0 : Nat} {x1 : Int32} (hk0 : kd 1 k0 = 8) (h1 : FX8_goNearer k0 x1 σ = some t0) : zMv l yX8_goNearer cX8_goNearer 4 0 0 1 V σ t0 [.ref (zad V k0), .int x1] := by
  refine zMv_of (by decide) (Nat.le_of_ble_eq_true rfl) ?_
  intro p e s m below meth c A C0 hr hlk hZ ls hl
  generalize ([.ref (zad V k0), .int x1] : List Value).toArray = args at C0 ⊢
  obtain ⟨Q, hQ⟩ : ∃ Q, Q = MQ below (zQv 1 V t0 A) args s 0 0 A := ⟨_, rfl⟩
  rw [← hQ]
  have hx := C0.1
  have hb := C0.2.1
  have hl : lv_has ls 4 [(0, .ref (zad V k0)), (1, .int x1)] := hl
  unfold FX8_goNearer at h1
  have J81 : ∀  (σ : zS) (H : Heap) (locs : List Loc) (ls : Array Slot), zZ 1 V A σ s H locs → lv_has ls 4 [] → FX8_goNearer_b81  σ = some t0 → W p l e (zrm 0 0) s m args below meth c H locs 0 0 Q (F0 m 81 ls []) := by
    intro  σ H locs ls  hZ hl h1
    unfold FX8_goNearer_b81 at h1
    rw [hQ]; exact z_vret C0 hr hlk hZ h1 dX8_goNearer_81
  have J69 : ∀ (x3 : Int32) (σ : zS) (H : Heap) (locs : List Loc) (ls : Array Slot), zZ 1 V A σ s H locs → lv_has ls 4 [(0, .ref (zad V k0)), (3, .int x3)] → FX8_goNearer_b69 k0 x3 σ = some t0 → W p l e (zrm 0 0) s m args below meth c H locs 0 0 Q (F0 m 69 ls []) := by
    intro x3 σ H locs ls  hZ hl h1
    unfold FX8_goNearer_b69 at h1
    refine lv_aload_n hx hb dX8_goNearer_69 rfl (lv_at hl 0 rfl) ?_
    refine lv_iload_n hx hb dX8_goNearer_70 rfl (lv_at hl 1 rfl) ?_
    refine z_puti C0 hZ h1 hk0 fRX8_378 rfl tyX8_ok nmX8 rfl rfl rfl dX8_goNearer_71 (fun σ_1 H locs h1 hZ => ?_)
    rw [hQ]; exact z_vret C0 hr hlk hZ h1 dX8_goNearer_74
  have J23 : ∀ (n : Nat) (x2 : Int32) (x3 : Int32) (σ : zS) (H : Heap) (locs : List Loc) (ls : Array Slot), zZ 1 V A σ s H locs → lv_has ls 4 [(0, .ref (zad V k0)), (1, .int x1), (2, .int x2), (3, .int x3)] → zit (fun q => FX8_goNearer_L23 k0 x1 x2 q.1 q.2) n (x3, σ) = some t0 → W p l e (zrm 0 0) s m args below meth c H locs 0 0 Q (F0 m 23 ls []) := by
    intro n
    induction n with
    | zero => intro x2 x3 σ H locs ls  _ _ h1; cases h1
    | succ n ih23 =>
      intro x2 x3 σ H locs ls  hZ hl h1
      obtain ⟨t1, h1, hz1⟩ := zit_1 h1
      have J75 : ∀ (x3 : Int32) (σ : zS) (H : Heap) (locs : List Loc) (ls : Array Slot), zZ 1 V A σ s H locs → lv_has ls 4 [(0, .ref (zad V k0)), (1, .int x1), (2, .int x2), (3, .int x3)] → FX8_goNearer_b75 k0 x1 x2 x3 σ = some t1 → W p l e (zrm 0 0) s m args below meth c H locs 0 0 Q (F0 m 75 ls []) := by
        intro x3 σ H locs ls  hZ hl h1
        unfold FX8_goNearer_b75 at h1
        refine z_iinc (v := 1) C0 h1 hl (fun x3_2 => [(3, .int x3_2), (0, .ref (zad V k0)), (1, .int x1), (2, .int x2)]) dX8_goNearer_75 (k := 3) rfl (by decide) (by decide) (fun _ => rfl) (fun x3_2 ls h1 hl => ?_)
        refine lv_goto (tgt := 23) hx hb dX8_goNearer_78 (by decide) ?_
        exact ih23 x2 x3_2 _ _ _ _  hZ (lv_sub hl [1, 2, 3, 0] rfl) (zback h1 hz1)
      replace h1 : FX8_goNearer_L23 k0 x1 x2 x3 σ = some t1 := h1
      unfold FX8_goNearer_L23 at h1
      refine lv_iload_n hx hb dX8_goNearer_23 rfl (lv_at hl 3 rfl) ?_
      refine lv_aload_n hx hb dX8_goNearer_24 rfl (lv_at hl 0 rfl) ?_
      refine z_getr C0 hZ hk0 fRX8_40 rfl dX8_goNearer_25 ?_
      refine lv_iconst (v := 0) hx hb dX8_goNearer_28 (by decide) ?_
      refine z_iald C0 hZ h1 (zkt8_3 hk0) dX8_goNearer_29 (fun h1 => ?_)
      refine z_ic_ge (tgt := 81) C0 h1 dX8_goNearer_30 (by decide) (fun h1 => ?_) (fun h1 => ?_)
      · have h1 := zout h1 hz1
        exact J81  _ _ _ _  hZ (lv_sub hl [] rfl) h1
      refine lv_aload_n hx hb dX8_goNearer_33 rfl (lv_at hl 0 rfl) ?_
      refine z_getr C0 hZ hk0 fRX8_49 rfl dX8_goNearer_34 ?_
      refine lv_aload_n hx hb dX8_goNearer_37 rfl (lv_at hl 0 rfl) ?_
      refine z_geti C0 hZ hk0 fRX8_378 rfl dX8_goNearer_38 ?_
      refine z_iald C0 hZ h1 (zkt8_6 hk0) dX8_goNearer_41 (fun h1 => ?_)
      refine lv_iload_n hx hb dX8_goNearer_42 rfl (lv_at hl 3 rfl) ?_
      refine lv_ishr hx hb dX8_goNearer_43 ?_
      refine lv_iconst (v := 1) hx hb dX8_goNearer_44 (by decide) ?_
      refine lv_iand hx hb dX8_goNearer_45 ?_
      refine z_if_eq (tgt := 75) C0 h1 dX8_goNearer_46 (by decide) (fun h1 => ?_) (fun h1 => ?_)
      · exact J75 x3 _ _ _ _  hZ (lv_sub hl [0, 1, 2, 3] rfl) h1
      refine lv_aload_n hx hb dX8_goNearer_49 rfl (lv_at hl 0 rfl) ?_
      refine z_getr C0 hZ hk0 fRX8_88 rfl dX8_goNearer_50 ?_
      refine lv_bipush (v := 10) hx hb dX8_goNearer_53 (by decide) ?_
      refine lv_iload_n hx hb dX8_goNearer_55 rfl (lv_at hl 3 rfl) ?_
      refine lv_imul hx hb dX8_goNearer_56 ?_
      refine lv_iload_n hx hb dX8_goNearer_57 rfl (lv_at hl 1 rfl) ?_
      refine lv_iadd hx hb dX8_goNearer_58 ?_
      refine z_iald C0 hZ h1 (zkt8_28 hk0) dX8_goNearer_59 (fun h1 => ?_)
      refine lv_iload_n hx hb dX8_goNearer_60 rfl (lv_at hl 2 rfl) ?_
      refine lv_iconst (v := 1) hx hb dX8_goNearer_61 (by decide) ?_
      refine lv_isub hx hb dX8_goNearer_62 ?_
      refine z_ic_eq (tgt := 69) C0 h1 dX8_goNearer_63 (by decide) (fun h1 => ?_) (fun h1 => ?_)
      · have h1 := zout h1 hz1
        exact J69 x3 _ _ _ _  hZ (lv_sub hl [0, 3] rfl) h1
      refine lv_goto (tgt := 75) hx hb dX8_goNearer_66 (by decide) ?_
      exact J75 x3 _ _ _ _  hZ (lv_sub hl [0, 1, 2, 3] rfl) h1
  refine lv_aload_n hx hb dX8_goNearer_0 rfl (lv_at hl 0 rfl) ?_
  refine z_getr C0 hZ hk0 fRX8_88 rfl dX8_goNearer_1 ?_
  refine lv_bipush (v := 10) hx hb dX8_goNearer_4 (by decide) ?_
  refine lv_aload_n hx hb dX8_goNearer_6 rfl (lv_at hl 0 rfl) ?_
  refine z_geti C0 hZ hk0 fRX8_378 rfl dX8_goNearer_7 ?_
  refine lv_imul hx hb dX8_goNearer_10 ?_
  refine lv_iload_n hx hb dX8_goNearer_11 rfl (lv_at hl 1 rfl) ?_
  refine lv_iadd hx hb dX8_goNearer_12 ?_
  refine z_iald C0 hZ h1 (zkt8_28 hk0) dX8_goNearer_13 (fun h1 => ?_)
  refine z_istore_n C0 h1 hl (fun x2_3 => [(2, .int x2_3), (0, .ref (zad V k0)), (1, .int x1)]) dX8_goNearer_14 rfl (by decide) (fun _ => rfl) (fun x2_3 ls h1 hl => ?_)
  refine lv_iload_n hx hb dX8_goNearer_15 rfl (lv_at hl 0 rfl) ?_
  refine lv_iconst (v := 1) hx hb dX8_goNearer_16 (by decide) ?_
  refine z_ic_ge (tgt := 21) C0 h1 dX8_goNearer_17 (by decide) (fun h1 => ?_) (fun h1 => ?_)
  · refine lv_iconst (v := 0) hx hb dX8_goNearer_21 (by decide) ?_
    refine z_istore_n C0 h1 hl (fun x3_4 => [(3, .int x3_4), (2, .int x2_3), (0, .ref (zad V k0)), (1, .int x1)]) dX8_goNearer_22 rfl (by decide) (fun _ => rfl) (fun x3_4 ls h1 hl => ?_)
    obtain ⟨n, h1⟩ := zlp_iff.mp h1
    exact J23 n x2_3 x3_4 _ _ _ _  hZ (lv_sub hl [2, 3, 1, 0] rfl) h1
  rw [hQ]; exact z_vret C0 hr hlk hZ h1 dX8_goNearer_20
noncomputable def FX8_putBack_b25 (k0 : Nat) (x1 : Int32) (σ : zS) : Option (Int32 × zS) := zin (ln 1 (k0 + 25)) x1 (zlet (zup σ (k0 + 25) (Int32.toNatClampNeg x1) (-1)) (fun σ_1 => some (0, σ_1)))
noncomputable def FX8_putBack (k0 : Nat) (x1 : Int32) (σ : zS) : Option (Int32 × zS) := zin (ln 1 (k0 + 25)) x1 (if (σ (k0 + 25) (Int32.toNatClampNeg x1)) = (-1) then FX8_putBack_b25 k0 x1 σ else zin (ln 1 (k0 + 25)) x1 (zin (ln 1 (k0 + 23)) (σ (k0 + 25) (Int32.toNatClampNeg x1)) (zin (ln 1 (k0 + 23)) (σ (k0 + 25) (Int32.toNatClampNeg x1)) (zlet (zup σ (k0 + 23) (Int32.toNatClampNeg (σ (k0 + 25) (Int32.toNatClampNeg x1))) ((σ (k0 + 23) (Int32.toNatClampNeg (σ (k0 + 25) (Int32.toNatClampNeg x1)))) + 1)) (fun σ_2 => FX8_putBack_b25 k0 x1 σ_2)))))
set_option maxHeartbeats 4000000 in
set_option maxRecDepth 100000 in
theorem kX8_putBack (l : Launch) {V : zV} {σ : zS} {t0 : Int32 × zS} {k0 : Nat} {x1 : Int32} (hk0 : kd 1 k0 = 8) (h1 : FX8_putBack k0 x1 σ = some t0) : zMv l yX8_putBack cX8_putBack 2 0 0 1 V σ t0 [.ref (zad V k0), .int x1] := by
  refine zMv_of (by decide) (Nat.le_of_ble_eq_true rfl) ?_
  intro p e s m below meth c A C0 hr hlk hZ ls hl
  generalize ([.ref (zad V k0), .int x1] : List Value).toArray = args at C0 ⊢
  obtain ⟨Q, hQ⟩ : ∃ Q, Q = MQ below (zQv 1 V t0 A) args s 0 0 A := ⟨_, rfl⟩
  rw [← hQ]
  have hx := C0.1
  have hb := C0.2.1
  have hl : lv_has ls 2 [(0, .ref (zad V k0)), (1, .int x1)] := hl
  unfold FX8_putBack at h1
  have J25 : ∀  (σ : zS) (H : Heap) (locs : List Loc) (ls : Array Slot), zZ 1 V A σ s H locs → lv_has ls 2 [(0, .ref (zad V k0)), (1, .int x1)] → FX8_putBack_b25 k0 x1 σ = some t0 → W p l e (zrm 0 0) s m args below meth c H locs 0 0 Q (F0 m 25 ls []) := by
    intro  σ H locs ls  hZ hl h1
    unfold FX8_putBack_b25 at h1
    refine lv_aload_n hx hb dX8_putBack_25 rfl (lv_at hl 0 rfl) ?_
    refine z_getr C0 hZ hk0 fRX8_111 rfl dX8_putBack_26 ?_
    refine lv_iload_n hx hb dX8_putBack_29 rfl (lv_at hl 1 rfl) ?_
    refine lv_iconst (v := (-1)) hx hb dX8_putBack_30 (by decide) ?_
    refine z_iast C0 hZ h1 (zkt8_44 hk0) dX8_putBack_31 (fun σ_1 H locs h1 hZ => ?_)
    rw [hQ]; exact z_vret C0 hr hlk hZ h1 dX8_putBack_32
  refine lv_aload_n hx hb dX8_putBack_0 rfl (lv_at hl 0 rfl) ?_
  refine z_getr C0 hZ hk0 fRX8_111 rfl dX8_putBack_1 ?_
  refine lv_iload_n hx hb dX8_putBack_4 rfl (lv_at hl 1 rfl) ?_
  refine z_iald C0 hZ h1 (zkt8_44 hk0) dX8_putBack_5 (fun h1 => ?_)
  refine lv_iconst (v := (-1)) hx hb dX8_putBack_6 (by decide) ?_
  refine z_ic_eq (tgt := 25) C0 h1 dX8_putBack_7 (by decide) (fun h1 => ?_) (fun h1 => ?_)
  · exact J25  _ _ _ _  hZ (lv_sub hl [0, 1] rfl) h1
  refine lv_aload_n hx hb dX8_putBack_10 rfl (lv_at hl 0 rfl) ?_
  refine z_getr C0 hZ hk0 fRX8_105 rfl dX8_putBack_11 ?_
  refine lv_aload_n hx hb dX8_putBack_14 rfl (lv_at hl 0 rfl) ?_
  refine z_getr C0 hZ hk0 fRX8_111 rfl dX8_putBack_15 ?_
  refine lv_iload_n hx hb dX8_putBack_18 rfl (lv_at hl 1 rfl) ?_
  refine z_iald C0 hZ h1 (zkt8_44 hk0) dX8_putBack_19 (fun h1 => ?_)
  refine lv_dup2_11 hx hb dX8_putBack_20 rfl rfl ?_
  refine z_iald C0 hZ h1 (zkt8_42 hk0) dX8_putBack_21 (fun h1 => ?_)
  refine lv_iconst (v := 1) hx hb dX8_putBack_22 (by decide) ?_
  refine lv_iadd hx hb dX8_putBack_23 ?_
  refine z_iast C0 hZ h1 (zkt8_42 hk0) dX8_putBack_24 (fun σ_2 H locs h1 hZ => ?_)
  exact J25  _ _ _ _  hZ (lv_sub hl [0, 1] rfl) h1
noncomputable def FX8_minuteNow_b454  (σ : zS) : Option (Int32 × zS) := some (0, σ)
noncomputable def FX8_minuteNow_b448 (k0 : Nat) (x3 : Int32) (σ : zS) : Option ((Int32 × zS) ⊕ (Int32 × zS)) := zlet (x3 + 1) (fun x3_1 => some (.inl (x3_1, σ)))
noncomputable def FX8_minuteNow_b434 (k0 : Nat) (x3 : Int32) (σ : zS) : Option ((Int32 × zS) ⊕ (Int32 × zS)) := zlet (zup σ k0 53 ((σ k0 53) &&& (((1 : Int32) <<< (x3 &&& 31)) ^^^ (-1)))) (fun σ_2 => FX8_minuteNow_b448 k0 x3 σ_2)
noncomputable def FX8_minuteNow_L404 (k0 : Nat) (x3 : Int32) (σ : zS) : Option ((Int32 × zS) ⊕ (Int32 × zS)) := zin (ln 1 (k0 + 3)) 3 (if (σ (k0 + 3) (Int32.toNatClampNeg 3)) ≤ x3 then zinr (FX8_minuteNow_b454  σ) else zbd (FX8_isInside k0 x3 σ) (fun r_4 σ_3 => if r_4 = 0 then FX8_minuteNow_b434 k0 x3 σ_3 else zbd (FX8_aisleOf k0 x3 σ_3) (fun r_6 σ_5 => zbd (FX8_isSeen k0 r_6 σ_5) (fun r_8 σ_7 => if r_8 = 0 then FX8_minuteNow_b434 k0 x3 σ_7 else FX8_minuteNow_b448 k0 x3 σ_7))))
noncomputable def FX8_minuteNow_b402 (k0 : Nat) (σ : zS) : Option (Int32 × zS) := zlet 0 (fun x3_9 => zlp (fun q => FX8_minuteNow_L404 k0 q.1 q.2) (x3_9, σ))
noncomputable def FX8_minuteNow_b396 (k0 : Nat) (x1 : Int32) (x3 : Int32) (σ : zS) : Option ((Int32 × zS) ⊕ (Int32 × zS)) := zlet (x3 + 1) (fun x3_10 => some (.inl (x3_10, σ)))
noncomputable def FX8_minuteNow_L265 (k0 : Nat) (x1 : Int32) (x3 : Int32) (σ : zS) : Option ((Int32 × zS) ⊕ (Int32 × zS)) := zin (ln 1 (k0 + 3)) 3 (if (σ (k0 + 3) (Int32.toNatClampNeg 3)) ≤ x3 then zinr (FX8_minuteNow_b402 k0 σ) else zbd (FX8_isInside k0 x3 σ) (fun r_12 σ_11 => if r_12 = 0 then FX8_minuteNow_b396 k0 x1 x3 σ_11 else zin (ln 1 (k0 + 10)) x3 (if (σ_11 (k0 + 10) (Int32.toNatClampNeg x3)) = 0 then FX8_minuteNow_b396 k0 x1 x3 σ_11 else zbd (FX8_seconds k0 x3 x1 σ_11) (fun r_14 σ_13 => zin (ln 1 (k0 + 10)) x3 (if r_14 = (σ_13 (k0 + 10) (Int32.toNatClampNeg x3)) then zbd (FX8_isOf (σ_13 k0 54) x3 σ_13) (fun r_16 σ_15 => if r_16 = 0 then zbd (FX8_aisleOf k0 x3 σ_15) (fun r_18 σ_17 => zlet r_18 (fun x4_19 => zin (ln 1 (k0 + 23)) x4_19 (if (σ_17 (k0 + 23) (Int32.toNatClampNeg x4_19)) = 0 then FX8_minuteNow_b396 k0 x1 x3 σ_17 else zin (ln 1 (k0 + 23)) x4_19 (zin (ln 1 (k0 + 23)) x4_19 (zlet (zup σ_17 (k0 + 23) (Int32.toNatClampNeg x4_19) ((σ_17 (k0 + 23) (Int32.toNatClampNeg x4_19)) - 1)) (fun σ_20 => zin (ln 1 (k0 + 25)) x3 (zlet (zup σ_20 (k0 + 25) (Int32.toNatClampNeg x3) x4_19) (fun σ_21 => zbd (FX8_isSeen k0 x4_19 σ_21) (fun r_23 σ_22 => if r_23 = 0 then FX8_minuteNow_b396 k0 x1 x3 σ_22 else zlet (zup σ_22 k0 52 ((σ_22 k0 52) ||| ((1 : Int32) <<< (x3 &&& 31)))) (fun σ_24 => zlet (zup σ_24 k0 53 ((σ_24 k0 53) ||| ((1 : Int32) <<< (x3 &&& 31)))) (fun σ_25 => FX8_minuteNow_b396 k0 x1 x3 σ_25))))))))))) else FX8_minuteNow_b396 k0 x1 x3 σ_15) else FX8_minuteNow_b396 k0 x1 x3 σ_13)))))
noncomputable def FX8_minuteNow_b263 (k0 : Nat) (x1 : Int32) (σ : zS) : Option (Int32 × zS) := zlet 0 (fun x3_26 => zlp (fun q => FX8_minuteNow_L265 k0 x1 q.1 q.2) (x3_26, σ))
noncomputable def FX8_minuteNow_b257 (k0 : Nat) (x1 : Int32) (x3 : Int32) (σ : zS) : Option ((Int32 × zS) ⊕ (Int32 × zS)) := zlet (x3 + 1) (fun x3_27 => some (.inl (x3_27, σ)))
noncomputable def FX8_minuteNow_b190 (k0 : Nat) (x1 : Int32) (x3 : Int32) (σ : zS) : Option ((Int32 × zS) ⊕ (Int32 × zS)) := zin (ln 1 (k0 + 26)) x3 (zlet (zup σ (k0 + 26) (Int32.toNatClampNeg x3) 0) (fun σ_28 => FX8_minuteNow_b257 k0 x1 x3 σ_28))
noncomputable def FX8_minuteNow_b234 (k0 : Nat) (x1 : Int32) (x3 : Int32) (y0 : Int32) (y1 : Int32) (σ : zS) : Option ((Int32 × zS) ⊕ (Int32 × zS)) := if y1 ≤ y0 then zlet (zup σ k0 54 ((σ k0 54) ||| ((1 : Int32) <<< (x3 &&& 31)))) (fun σ_29 => zbd (FX8_putBack k0 x3 σ_29) (fun _ σ_30 => FX8_minuteNow_b257 k0 x1 x3 σ_30)) else FX8_minuteNow_b257 k0 x1 x3 σ
noncomputable def FX8_minuteNow_L142 (k0 : Nat) (x1 : Int32) (x3 : Int32) (σ : zS) : Option ((Int32 × zS) ⊕ (Int32 × zS)) := zin (ln 1 (k0 + 3)) 3 (if (σ (k0 + 3) (Int32.toNatClampNeg 3)) ≤ x3 then zinr (FX8_minuteNow_b263 k0 x1 σ) else zbd (FX8_isInside k0 x3 σ) (fun r_33 σ_32 => if r_33 = 0 then FX8_minuteNow_b190 k0 x1 x3 σ_32 else zin (ln 1 (k0 + 8)) x3 (if (σ_32 (k0 + 8) (Int32.toNatClampNeg x3)) = 1 then if (σ_32 k0 51) = (-1) then FX8_minuteNow_b190 k0 x1 x3 σ_32 else zbd (FX8_aisleOf k0 x3 σ_32) (fun r_35 σ_34 => if r_35 = (σ_34 k0 51) then zin (ln 1 (k0 + 26)) x3 (zin (ln 1 (k0 + 26)) x3 (zlet (zup σ_34 (k0 + 26) (Int32.toNatClampNeg x3) ((σ_34 (k0 + 26) (Int32.toNatClampNeg x3)) + 1)) (fun σ_36 => zin (ln 1 (k0 + 26)) x3 (if (σ_36 k0 48) = 1 then FX8_minuteNow_b234 k0 x1 x3 (σ_36 (k0 + 26) (Int32.toNatClampNeg x3)) 1 σ_36 else zin (ln 1 (k0 + 3)) 5 (FX8_minuteNow_b234 k0 x1 x3 (σ_36 (k0 + 26) (Int32.toNatClampNeg x3)) (σ_36 (k0 + 3) (Int32.toNatClampNeg 5)) σ_36))))) else FX8_minuteNow_b190 k0 x1 x3 σ_34) else FX8_minuteNow_b190 k0 x1 x3 σ_32)))
noncomputable def FX8_minuteNow_b140 (k0 : Nat) (x1 : Int32) (σ : zS) : Option (Int32 × zS) := zlet 0 (fun x3_37 => zlp (fun q => FX8_minuteNow_L142 k0 x1 q.1 q.2) (x3_37, σ))
noncomputable def FX8_minuteNow_b125 (k0 : Nat) (x1 : Int32) (y0 : Int32) (σ : zS) : Option (Int32 × zS) := zlet y0 (fun x2_38 => if x2_38 = (-1) then FX8_minuteNow_b140 k0 x1 σ else zbd (FX8_aisleOf k0 x2_38 σ) (fun r_40 σ_39 => zbd (FX8_goNearer k0 r_40 σ_39) (fun _ σ_41 => FX8_minuteNow_b140 k0 x1 σ_41)))
noncomputable def FX8_minuteNow_b108 (k0 : Nat) (x1 : Int32) (σ : zS) : Option (Int32 × zS) := if (σ k0 51) = (-1) then FX8_minuteNow_b125 k0 x1 (-1) σ else zbd (FX8_followed k0 x1 σ) (fun r_44 σ_43 => FX8_minuteNow_b125 k0 x1 r_44 σ_43)
noncomputable def FX8_minuteNow_b102 (k0 : Nat) (x1 : Int32) (x2 : Int32) (σ : zS) : Option ((Int32 × zS) ⊕ (Int32 × zS)) := zlet (x2 + 1) (fun x2_45 => some (.inl (x2_45, σ)))
noncomputable def FX8_minuteNow_b81 (k0 : Nat) (x1 : Int32) (x2 : Int32) (σ : zS) : Option ((Int32 × zS) ⊕ (Int32 × zS)) := zbd (FX8_isInside k0 x2 σ) (fun r_47 σ_46 => if r_47 = 0 then FX8_minuteNow_b102 k0 x1 x2 σ_46 else zbd (FX8_aisleOf k0 x2 σ_46) (fun r_49 σ_48 => if r_49 = 0 then zbd (FX8_leave k0 x2 σ_48) (fun _ σ_50 => FX8_minuteNow_b102 k0 x1 x2 σ_50) else FX8_minuteNow_b102 k0 x1 x2 σ_48))
noncomputable def FX8_minuteNow_b43 (k0 : Nat) (x1 : Int32) (x2 : Int32) (σ : zS) : Option ((Int32 × zS) ⊕ (Int32 × zS)) := zbd (FX8_isInside k0 x2 σ) (fun r_53 σ_52 => if r_53 = 0 then FX8_minuteNow_b81 k0 x1 x2 σ_52 else zin (ln 1 (k0 + 24)) x2 (zin (ln 1 (k0 + 12)) x2 (if (σ_52 (k0 + 12) (Int32.toNatClampNeg x2)) ≤ ((σ_52 (k0 + 24) (Int32.toNatClampNeg x2)) + 1) then FX8_minuteNow_b81 k0 x1 x2 σ_52 else zin (ln 1 (k0 + 24)) x2 (zin (ln 1 (k0 + 24)) x2 (zlet (zup σ_52 (k0 + 24) (Int32.toNatClampNeg x2) ((σ_52 (k0 + 24) (Int32.toNatClampNeg x2)) + 1)) (fun σ_54 => FX8_minuteNow_b102 k0 x1 x2 σ_54))))))
noncomputable def FX8_minuteNow_L2 (k0 : Nat) (x1 : Int32) (x2 : Int32) (σ : zS) : Option ((Int32 × zS) ⊕ (Int32 × zS)) := zin (ln 1 (k0 + 3)) 3 (if (σ (k0 + 3) (Int32.toNatClampNeg 3)) ≤ x2 then zinr (FX8_minuteNow_b108 k0 x1 σ) else zin (ln 1 (k0 + 9)) x2 (if x1 = (σ (k0 + 9) (Int32.toNatClampNeg x2)) then zbd (FX8_isOf (σ k0 50) x2 σ) (fun r_56 σ_55 => if r_56 = 0 then FX8_minuteNow_b43 k0 x1 x2 σ_55 else zin (ln 1 (k0 + 24)) x2 (zlet (zup σ_55 (k0 + 24) (Int32.toNatClampNeg x2) 0) (fun σ_57 => FX8_minuteNow_b102 k0 x1 x2 σ_57))) else FX8_minuteNow_b43 k0 x1 x2 σ))
noncomputable def FX8_minuteNow (k0 : Nat) (x1 : Int32) (σ : zS) : Option (Int32 × zS) := zlet 0 (fun x2_58 => zlp (fun q => FX8_minuteNow_L2 k0 x1 q.1 q.2) (x2_58, σ))
set_option maxHeartbeats 4000000 in
set_option maxRecDepth 100000 in
theorem kX8_minuteNow (l : Launch) {V : zV} {σ : zS} {t0 : Int32 × zS} {k0 : Nat} {x1 : Int32} (hk0 : kd 1 k0 = 8) (h1 : FX8_minuteNow k0 x1 σ = some t0) : zMv l yX8_minuteNow cX8_minuteNow 5 3 72 1 V σ t0 [.ref (zad V k0), .int x1] := by
  refine zMv_of (by decide) (Nat.le_of_ble_eq_true rfl) ?_
  intro p e s m below meth c A C0 hr hlk hZ ls hl
  generalize ([.ref (zad V k0), .int x1] : List Value).toArray = args at C0 ⊢
  obtain ⟨Q, hQ⟩ : ∃ Q, Q = MQ below (zQv 1 V t0 A) args s 0 0 A := ⟨_, rfl⟩
  rw [← hQ]
  have hx := C0.1
  have hb := C0.2.1
  have hl : lv_has ls 5 [(0, .ref (zad V k0)), (1, .int x1)] := hl
  unfold FX8_minuteNow at h1
  have J454 : ∀  (σ : zS) (H : Heap) (locs : List Loc) (ls : Array Slot), zZ 1 V A σ s H locs → lv_has ls 5 [] → FX8_minuteNow_b454  σ = some t0 → W p l e (zrm 3 72) s m args below meth c H locs 0 0 Q (F0 m 454 ls []) := by
    intro  σ H locs ls  hZ hl h1
    unfold FX8_minuteNow_b454 at h1
    rw [hQ]; exact z_vret C0 hr hlk hZ h1 dX8_minuteNow_454
  have J404 : ∀ (n : Nat) (x3 : Int32) (σ : zS) (H : Heap) (locs : List Loc) (ls : Array Slot), zZ 1 V A σ s H locs → lv_has ls 5 [(0, .ref (zad V k0)), (3, .int x3)] → zit (fun q => FX8_minuteNow_L404 k0 q.1 q.2) n (x3, σ) = some t0 → W p l e (zrm 3 72) s m args below meth c H locs 0 0 Q (F0 m 404 ls []) := by
    intro n
    induction n with
    | zero => intro x3 σ H locs ls  _ _ h1; cases h1
    | succ n ih404 =>
      intro x3 σ H locs ls  hZ hl h1
      obtain ⟨t1, h1, hz1⟩ := zit_1 h1
      have J448 : ∀ (x3 : Int32) (σ : zS) (H : Heap) (locs : List Loc) (ls : Array Slot), zZ 1 V A σ s H locs → lv_has ls 5 [(0, .ref (zad V k0)), (3, .int x3)] → FX8_minuteNow_b448 k0 x3 σ = some t1 → W p l e (zrm 3 72) s m args below meth c H locs 0 0 Q (F0 m 448 ls []) := by
        intro x3 σ H locs ls  hZ hl h1
        unfold FX8_minuteNow_b448 at h1
        refine z_iinc (v := 1) C0 h1 hl (fun x3_1 => [(3, .int x3_1), (0, .ref (zad V k0))]) dX8_minuteNow_448 (k := 1) rfl (by decide) (by decide) (fun _ => rfl) (fun x3_1 ls h1 hl => ?_)
        refine lv_goto (tgt := 404) hx hb dX8_minuteNow_451 (by decide) ?_
        exact ih404 x3_1 _ _ _ _  hZ (lv_sub hl [1, 0] rfl) (zback h1 hz1)
      have J434 : ∀ (x3 : Int32) (σ : zS) (H : Heap) (locs : List Loc) (ls : Array Slot), zZ 1 V A σ s H locs → lv_has ls 5 [(0, .ref (zad V k0)), (3, .int x3)] → FX8_minuteNow_b434 k0 x3 σ = some t1 → W p l e (zrm 3 72) s m args below meth c H locs 0 0 Q (F0 m 434 ls []) := by
        intro x3 σ H locs ls  hZ hl h1
        unfold FX8_minuteNow_b434 at h1
        refine lv_aload_n hx hb dX8_minuteNow_434 rfl (lv_at hl 0 rfl) ?_
        refine lv_dup hx hb dX8_minuteNow_435 rfl ?_
        refine z_geti C0 hZ hk0 fRX8_386 rfl dX8_minuteNow_436 ?_
        refine lv_iconst (v := 1) hx hb dX8_minuteNow_439 (by decide) ?_
        refine lv_iload_n hx hb dX8_minuteNow_440 rfl (lv_at hl 1 rfl) ?_
        refine lv_ishl hx hb dX8_minuteNow_441 ?_
        refine lv_iconst (v := (-1)) hx hb dX8_minuteNow_442 (by decide) ?_
        refine lv_ixor hx hb dX8_minuteNow_443 ?_
        refine lv_iand hx hb dX8_minuteNow_444 ?_
        refine z_puti C0 hZ h1 hk0 fRX8_386 rfl tyX8_ok nmX8 rfl rfl rfl dX8_minuteNow_445 (fun σ_2 H locs h1 hZ => ?_)
        exact J448 x3 _ _ _ _  hZ (lv_sub hl [0, 1] rfl) h1
      replace h1 : FX8_minuteNow_L404 k0 x3 σ = some t1 := h1
      unfold FX8_minuteNow_L404 at h1
      refine lv_iload_n hx hb dX8_minuteNow_404 rfl (lv_at hl 1 rfl) ?_
      refine lv_aload_n hx hb dX8_minuteNow_405 rfl (lv_at hl 0 rfl) ?_
      refine z_getr C0 hZ hk0 fRX8_40 rfl dX8_minuteNow_406 ?_
      refine lv_iconst (v := 3) hx hb dX8_minuteNow_409 (by decide) ?_
      refine z_iald C0 hZ h1 (zkt8_3 hk0) dX8_minuteNow_410 (fun h1 => ?_)
      refine z_ic_ge (tgt := 454) C0 h1 dX8_minuteNow_411 (by decide) (fun h1 => ?_) (fun h1 => ?_)
      · have h1 := zout h1 hz1
        exact J454  _ _ _ _  hZ (lv_sub hl [] rfl) h1
      refine lv_aload_n hx hb dX8_minuteNow_414 rfl (lv_at hl 0 rfl) ?_
      refine lv_iload_n hx hb dX8_minuteNow_415 rfl (lv_at hl 1 rfl) ?_
      refine z_cVi (As := [.int x3]) (rest := []) C0 hZ h1 (fun _ hf => kX8_isInside l hk0 hf) mRX8_404 vX8_isInside hk0 rfl rfl hl.1 (Nat.le_of_ble_eq_true rfl) ⟨Nat.le_of_ble_eq_true rfl, Nat.le_of_ble_eq_true rfl⟩ dX8_minuteNow_416 ⟨Nat.le_of_ble_eq_true rfl, Nat.le_of_ble_eq_true rfl⟩ (fun r_4 σ_3 H locs h1 hZ => ?_)
      refine z_if_eq (tgt := 434) C0 h1 dX8_minuteNow_419 (by decide) (fun h1 => ?_) (fun h1 => ?_)
      · exact J434 x3 _ _ _ _  hZ (lv_sub hl [0, 1] rfl) h1
      refine lv_aload_n hx hb dX8_minuteNow_422 rfl (lv_at hl 0 rfl) ?_
      refine lv_aload_n hx hb dX8_minuteNow_423 rfl (lv_at hl 0 rfl) ?_
      refine lv_iload_n hx hb dX8_minuteNow_424 rfl (lv_at hl 1 rfl) ?_
      refine z_cVi (As := [.int x3]) (rest := [.ref (zad V k0)]) C0 hZ h1 (fun _ hf => kX8_aisleOf l hk0 hf) mRX8_407 vX8_aisleOf hk0 rfl rfl hl.1 (Nat.le_of_ble_eq_true rfl) ⟨Nat.le_of_ble_eq_true rfl, Nat.le_of_ble_eq_true rfl⟩ dX8_minuteNow_425 ⟨Nat.le_of_ble_eq_true rfl, Nat.le_of_ble_eq_true rfl⟩ (fun r_6 σ_5 H locs h1 hZ => ?_)
      refine z_cVi (As := [.int r_6]) (rest := []) C0 hZ h1 (fun _ hf => kX8_isSeen l hk0 hf) mRX8_434 vX8_isSeen hk0 rfl rfl hl.1 (Nat.le_of_ble_eq_true rfl) ⟨Nat.le_of_ble_eq_true rfl, Nat.le_of_ble_eq_true rfl⟩ dX8_minuteNow_428 ⟨Nat.le_of_ble_eq_true rfl, Nat.le_of_ble_eq_true rfl⟩ (fun r_8 σ_7 H locs h1 hZ => ?_)
      refine z_if_ne (tgt := 448) C0 h1 dX8_minuteNow_431 (by decide) (fun h1 => ?_) (fun h1 => ?_)
      · exact J448 x3 _ _ _ _  hZ (lv_sub hl [0, 1] rfl) h1
      exact J434 x3 _ _ _ _  hZ (lv_sub hl [0, 1] rfl) h1
  have J402 : ∀  (σ : zS) (H : Heap) (locs : List Loc) (ls : Array Slot), zZ 1 V A σ s H locs → lv_has ls 5 [(0, .ref (zad V k0))] → FX8_minuteNow_b402 k0 σ = some t0 → W p l e (zrm 3 72) s m args below meth c H locs 0 0 Q (F0 m 402 ls []) := by
    intro  σ H locs ls  hZ hl h1
    unfold FX8_minuteNow_b402 at h1
    refine lv_iconst (v := 0) hx hb dX8_minuteNow_402 (by decide) ?_
    refine z_istore_n C0 h1 hl (fun x3_9 => [(3, .int x3_9), (0, .ref (zad V k0))]) dX8_minuteNow_403 rfl (by decide) (fun _ => rfl) (fun x3_9 ls h1 hl => ?_)
    obtain ⟨n, h1⟩ := zlp_iff.mp h1
    exact J404 n x3_9 _ _ _ _  hZ (lv_sub hl [1, 0] rfl) h1
  have J265 : ∀ (n : Nat) (x3 : Int32) (σ : zS) (H : Heap) (locs : List Loc) (ls : Array Slot), zZ 1 V A σ s H locs → lv_has ls 5 [(0, .ref (zad V k0)), (1, .int x1), (3, .int x3)] → zit (fun q => FX8_minuteNow_L265 k0 x1 q.1 q.2) n (x3, σ) = some t0 → W p l e (zrm 3 72) s m args below meth c H locs 0 0 Q (F0 m 265 ls []) := by
    intro n
    induction n with
    | zero => intro x3 σ H locs ls  _ _ h1; cases h1
    | succ n ih265 =>
      intro x3 σ H locs ls  hZ hl h1
      obtain ⟨t1, h1, hz1⟩ := zit_1 h1
      have J396 : ∀ (x3 : Int32) (σ : zS) (H : Heap) (locs : List Loc) (ls : Array Slot), zZ 1 V A σ s H locs → lv_has ls 5 [(0, .ref (zad V k0)), (1, .int x1), (3, .int x3)] → FX8_minuteNow_b396 k0 x1 x3 σ = some t1 → W p l e (zrm 3 72) s m args below meth c H locs 0 0 Q (F0 m 396 ls []) := by
        intro x3 σ H locs ls  hZ hl h1
        unfold FX8_minuteNow_b396 at h1
        refine z_iinc (v := 1) C0 h1 hl (fun x3_10 => [(3, .int x3_10), (0, .ref (zad V k0)), (1, .int x1)]) dX8_minuteNow_396 (k := 2) rfl (by decide) (by decide) (fun _ => rfl) (fun x3_10 ls h1 hl => ?_)
        refine lv_goto (tgt := 265) hx hb dX8_minuteNow_399 (by decide) ?_
        exact ih265 x3_10 _ _ _ _  hZ (lv_sub hl [1, 2, 0] rfl) (zback h1 hz1)
      replace h1 : FX8_minuteNow_L265 k0 x1 x3 σ = some t1 := h1
      unfold FX8_minuteNow_L265 at h1
      refine lv_iload_n hx hb dX8_minuteNow_265 rfl (lv_at hl 2 rfl) ?_
      refine lv_aload_n hx hb dX8_minuteNow_266 rfl (lv_at hl 0 rfl) ?_
      refine z_getr C0 hZ hk0 fRX8_40 rfl dX8_minuteNow_267 ?_
      refine lv_iconst (v := 3) hx hb dX8_minuteNow_270 (by decide) ?_
      refine z_iald C0 hZ h1 (zkt8_3 hk0) dX8_minuteNow_271 (fun h1 => ?_)
      refine z_ic_ge (tgt := 402) C0 h1 dX8_minuteNow_272 (by decide) (fun h1 => ?_) (fun h1 => ?_)
      · have h1 := zout h1 hz1
        exact J402  _ _ _ _  hZ (lv_sub hl [0] rfl) h1
      refine lv_aload_n hx hb dX8_minuteNow_275 rfl (lv_at hl 0 rfl) ?_
      refine lv_iload_n hx hb dX8_minuteNow_276 rfl (lv_at hl 2 rfl) ?_
      refine z_cVi (As := [.int x3]) (rest := []) C0 hZ h1 (fun _ hf => kX8_isInside l hk0 hf) mRX8_404 vX8_isInside hk0 rfl rfl hl.1 (Nat.le_of_ble_eq_true rfl) ⟨Nat.le_of_ble_eq_true rfl, Nat.le_of_ble_eq_true rfl⟩ dX8_minuteNow_277 ⟨Nat.le_of_ble_eq_true rfl, Nat.le_of_ble_eq_true rfl⟩ (fun r_12 σ_11 H locs h1 hZ => ?_)
      refine z_if_eq (tgt := 396) C0 h1 dX8_minuteNow_280 (by decide) (fun h1 => ?_) (fun h1 => ?_)
      · exact J396 x3 _ _ _ _  hZ (lv_sub hl [0, 1, 2] rfl) h1
      refine lv_aload_n hx hb dX8_minuteNow_283 rfl (lv_at hl 0 rfl) ?_
      refine z_getr C0 hZ hk0 fRX8_61 rfl dX8_minuteNow_284 ?_
      refine lv_iload_n hx hb dX8_minuteNow_287 rfl (lv_at hl 2 rfl) ?_
      refine z_iald C0 hZ h1 (zkt8_10 hk0) dX8_minuteNow_288 (fun h1 => ?_)
      refine z_if_eq (tgt := 396) C0 h1 dX8_minuteNow_289 (by decide) (fun h1 => ?_) (fun h1 => ?_)
      · exact J396 x3 _ _ _ _  hZ (lv_sub hl [0, 1, 2] rfl) h1
      refine lv_aload_n hx hb dX8_minuteNow_292 rfl (lv_at hl 0 rfl) ?_
      refine lv_iload_n hx hb dX8_minuteNow_293 rfl (lv_at hl 2 rfl) ?_
      refine lv_iload_n hx hb dX8_minuteNow_294 rfl (lv_at hl 1 rfl) ?_
      refine z_cVi (As := [.int x3, .int x1]) (rest := []) C0 hZ h1 (fun _ hf => kX8_seconds l hk0 hf) mRX8_410 vX8_seconds hk0 rfl rfl hl.1 (Nat.le_of_ble_eq_true rfl) ⟨Nat.le_of_ble_eq_true rfl, Nat.le_of_ble_eq_true rfl⟩ dX8_minuteNow_295 ⟨Nat.le_of_ble_eq_true rfl, Nat.le_of_ble_eq_true rfl⟩ (fun r_14 σ_13 H locs h1 hZ => ?_)
      refine lv_aload_n hx hb dX8_minuteNow_298 rfl (lv_at hl 0 rfl) ?_
      refine z_getr C0 hZ hk0 fRX8_61 rfl dX8_minuteNow_299 ?_
      refine lv_iload_n hx hb dX8_minuteNow_302 rfl (lv_at hl 2 rfl) ?_
      refine z_iald C0 hZ h1 (zkt8_10 hk0) dX8_minuteNow_303 (fun h1 => ?_)
      refine z_ic_ne (tgt := 396) C0 h1 dX8_minuteNow_304 (by decide) (fun h1 => ?_) (fun h1 => ?_)
      · exact J396 x3 _ _ _ _  hZ (lv_sub hl [0, 1, 2] rfl) h1
      refine lv_aload_n hx hb dX8_minuteNow_307 rfl (lv_at hl 0 rfl) ?_
      refine z_geti C0 hZ hk0 fRX8_428 rfl dX8_minuteNow_308 ?_
      refine lv_iload_n hx hb dX8_minuteNow_311 rfl (lv_at hl 2 rfl) ?_
      refine z_cSi (As := [.int (σ_13 k0 54), .int x3]) (rest := []) C0 hZ h1 (fun _ hf => kX8_isOf l  hf) mRX8_383 sX8_isOf rfl rfl hl.1 (Nat.le_of_ble_eq_true rfl) ⟨Nat.le_of_ble_eq_true rfl, Nat.le_of_ble_eq_true rfl⟩ dX8_minuteNow_312 ⟨Nat.le_of_ble_eq_true rfl, Nat.le_of_ble_eq_true rfl⟩ (fun r_16 σ_15 H locs h1 hZ => ?_)
      refine z_if_eq (tgt := 321) C0 h1 dX8_minuteNow_315 (by decide) (fun h1 => ?_) (fun h1 => ?_)
      · refine lv_aload_n hx hb dX8_minuteNow_321 rfl (lv_at hl 0 rfl) ?_
        refine lv_iload_n hx hb dX8_minuteNow_322 rfl (lv_at hl 2 rfl) ?_
        refine z_cVi (As := [.int x3]) (rest := []) C0 hZ h1 (fun _ hf => kX8_aisleOf l hk0 hf) mRX8_407 vX8_aisleOf hk0 rfl rfl hl.1 (Nat.le_of_ble_eq_true rfl) ⟨Nat.le_of_ble_eq_true rfl, Nat.le_of_ble_eq_true rfl⟩ dX8_minuteNow_323 ⟨Nat.le_of_ble_eq_true rfl, Nat.le_of_ble_eq_true rfl⟩ (fun r_18 σ_17 H locs h1 hZ => ?_)
        refine z_istore C0 h1 hl (fun x4_19 => [(4, .int x4_19), (0, .ref (zad V k0)), (1, .int x1), (3, .int x3)]) dX8_minuteNow_326 (by decide) (fun _ => rfl) (fun x4_19 ls h1 hl => ?_)
        refine lv_aload_n hx hb dX8_minuteNow_328 rfl (lv_at hl 1 rfl) ?_
        refine z_getr C0 hZ hk0 fRX8_105 rfl dX8_minuteNow_329 ?_
        refine lv_iload hx hb dX8_minuteNow_332 (lv_at hl 0 rfl) ?_
        refine z_iald C0 hZ h1 (zkt8_42 hk0) dX8_minuteNow_334 (fun h1 => ?_)
        refine z_if_ne (tgt := 341) C0 h1 dX8_minuteNow_335 (by decide) (fun h1 => ?_) (fun h1 => ?_)
        · refine lv_aload_n hx hb dX8_minuteNow_341 rfl (lv_at hl 1 rfl) ?_
          refine z_getr C0 hZ hk0 fRX8_105 rfl dX8_minuteNow_342 ?_
          refine lv_iload hx hb dX8_minuteNow_345 (lv_at hl 0 rfl) ?_
          refine lv_dup2_11 hx hb dX8_minuteNow_347 rfl rfl ?_
          refine z_iald C0 hZ h1 (zkt8_42 hk0) dX8_minuteNow_348 (fun h1 => ?_)
          refine lv_iconst (v := 1) hx hb dX8_minuteNow_349 (by decide) ?_
          refine lv_isub hx hb dX8_minuteNow_350 ?_
          refine z_iast C0 hZ h1 (zkt8_42 hk0) dX8_minuteNow_351 (fun σ_20 H locs h1 hZ => ?_)
          refine lv_aload_n hx hb dX8_minuteNow_352 rfl (lv_at hl 1 rfl) ?_
          refine z_getr C0 hZ hk0 fRX8_111 rfl dX8_minuteNow_353 ?_
          refine lv_iload_n hx hb dX8_minuteNow_356 rfl (lv_at hl 3 rfl) ?_
          refine lv_iload hx hb dX8_minuteNow_357 (lv_at hl 0 rfl) ?_
          refine z_iast C0 hZ h1 (zkt8_44 hk0) dX8_minuteNow_359 (fun σ_21 H locs h1 hZ => ?_)
          refine lv_aload_n hx hb dX8_minuteNow_360 rfl (lv_at hl 1 rfl) ?_
          refine lv_iload hx hb dX8_minuteNow_361 (lv_at hl 0 rfl) ?_
          refine z_cVi (As := [.int x4_19]) (rest := []) C0 hZ h1 (fun _ hf => kX8_isSeen l hk0 hf) mRX8_434 vX8_isSeen hk0 rfl rfl hl.1 (Nat.le_of_ble_eq_true rfl) ⟨Nat.le_of_ble_eq_true rfl, Nat.le_of_ble_eq_true rfl⟩ dX8_minuteNow_363 ⟨Nat.le_of_ble_eq_true rfl, Nat.le_of_ble_eq_true rfl⟩ (fun r_23 σ_22 H locs h1 hZ => ?_)
          refine z_if_ne (tgt := 372) C0 h1 dX8_minuteNow_366 (by decide) (fun h1 => ?_) (fun h1 => ?_)
          · refine lv_aload_n hx hb dX8_minuteNow_372 rfl (lv_at hl 1 rfl) ?_
            refine lv_dup hx hb dX8_minuteNow_373 rfl ?_
            refine z_geti C0 hZ hk0 fRX8_381 rfl dX8_minuteNow_374 ?_
            refine lv_iconst (v := 1) hx hb dX8_minuteNow_377 (by decide) ?_
            refine lv_iload_n hx hb dX8_minuteNow_378 rfl (lv_at hl 3 rfl) ?_
            refine lv_ishl hx hb dX8_minuteNow_379 ?_
            refine lv_ior hx hb dX8_minuteNow_380 ?_
            refine z_puti C0 hZ h1 hk0 fRX8_381 rfl tyX8_ok nmX8 rfl rfl rfl dX8_minuteNow_381 (fun σ_24 H locs h1 hZ => ?_)
            refine lv_aload_n hx hb dX8_minuteNow_384 rfl (lv_at hl 1 rfl) ?_
            refine lv_dup hx hb dX8_minuteNow_385 rfl ?_
            refine z_geti C0 hZ hk0 fRX8_386 rfl dX8_minuteNow_386 ?_
            refine lv_iconst (v := 1) hx hb dX8_minuteNow_389 (by decide) ?_
            refine lv_iload_n hx hb dX8_minuteNow_390 rfl (lv_at hl 3 rfl) ?_
            refine lv_ishl hx hb dX8_minuteNow_391 ?_
            refine lv_ior hx hb dX8_minuteNow_392 ?_
            refine z_puti C0 hZ h1 hk0 fRX8_386 rfl tyX8_ok nmX8 rfl rfl rfl dX8_minuteNow_393 (fun σ_25 H locs h1 hZ => ?_)
            exact J396 x3 _ _ _ _  hZ (lv_sub hl [1, 2, 3] rfl) h1
          refine lv_goto (tgt := 396) hx hb dX8_minuteNow_369 (by decide) ?_
          exact J396 x3 _ _ _ _  hZ (lv_sub hl [1, 2, 3] rfl) h1
        refine lv_goto (tgt := 396) hx hb dX8_minuteNow_338 (by decide) ?_
        exact J396 x3 _ _ _ _  hZ (lv_sub hl [1, 2, 3] rfl) h1
      refine lv_goto (tgt := 396) hx hb dX8_minuteNow_318 (by decide) ?_
      exact J396 x3 _ _ _ _  hZ (lv_sub hl [0, 1, 2] rfl) h1
  have J263 : ∀  (σ : zS) (H : Heap) (locs : List Loc) (ls : Array Slot), zZ 1 V A σ s H locs → lv_has ls 5 [(0, .ref (zad V k0)), (1, .int x1)] → FX8_minuteNow_b263 k0 x1 σ = some t0 → W p l e (zrm 3 72) s m args below meth c H locs 0 0 Q (F0 m 263 ls []) := by
    intro  σ H locs ls  hZ hl h1
    unfold FX8_minuteNow_b263 at h1
    refine lv_iconst (v := 0) hx hb dX8_minuteNow_263 (by decide) ?_
    refine z_istore_n C0 h1 hl (fun x3_26 => [(3, .int x3_26), (0, .ref (zad V k0)), (1, .int x1)]) dX8_minuteNow_264 rfl (by decide) (fun _ => rfl) (fun x3_26 ls h1 hl => ?_)
    obtain ⟨n, h1⟩ := zlp_iff.mp h1
    exact J265 n x3_26 _ _ _ _  hZ (lv_sub hl [1, 2, 0] rfl) h1
  have J142 : ∀ (n : Nat) (x3 : Int32) (σ : zS) (H : Heap) (locs : List Loc) (ls : Array Slot), zZ 1 V A σ s H locs → lv_has ls 5 [(0, .ref (zad V k0)), (1, .int x1), (3, .int x3)] → zit (fun q => FX8_minuteNow_L142 k0 x1 q.1 q.2) n (x3, σ) = some t0 → W p l e (zrm 3 72) s m args below meth c H locs 0 0 Q (F0 m 142 ls []) := by
    intro n
    induction n with
    | zero => intro x3 σ H locs ls  _ _ h1; cases h1
    | succ n ih142 =>
      intro x3 σ H locs ls  hZ hl h1
      obtain ⟨t1, h1, hz1⟩ := zit_1 h1
      have J257 : ∀ (x3 : Int32) (σ : zS) (H : Heap) (locs : List Loc) (ls : Array Slot), zZ 1 V A σ s H locs → lv_has ls 5 [(0, .ref (zad V k0)), (1, .int x1), (3, .int x3)] → FX8_minuteNow_b257 k0 x1 x3 σ = some t1 → W p l e (zrm 3 72) s m args below meth c H locs 0 0 Q (F0 m 257 ls []) := by
        intro x3 σ H locs ls  hZ hl h1
        unfold FX8_minuteNow_b257 at h1
        refine z_iinc (v := 1) C0 h1 hl (fun x3_27 => [(3, .int x3_27), (0, .ref (zad V k0)), (1, .int x1)]) dX8_minuteNow_257 (k := 2) rfl (by decide) (by decide) (fun _ => rfl) (fun x3_27 ls h1 hl => ?_)
        refine lv_goto (tgt := 142) hx hb dX8_minuteNow_260 (by decide) ?_
        exact ih142 x3_27 _ _ _ _  hZ (lv_sub hl [1, 2, 0] rfl) (zback h1 hz1)
      have J190 : ∀ (x3 : Int32) (σ : zS) (H : Heap) (locs : List Loc) (ls : Array Slot), zZ 1 V A σ s H locs → lv_has ls 5 [(0, .ref (zad V k0)), (1, .int x1), (3, .int x3)] → FX8_minuteNow_b190 k0 x1 x3 σ = some t1 → W p l e (zrm 3 72) s m args below meth c H locs 0 0 Q (F0 m 190 ls []) := by
        intro x3 σ H locs ls  hZ hl h1
        unfold FX8_minuteNow_b190 at h1
        refine lv_aload_n hx hb dX8_minuteNow_190 rfl (lv_at hl 0 rfl) ?_
        refine z_getr C0 hZ hk0 fRX8_114 rfl dX8_minuteNow_191 ?_
        refine lv_iload_n hx hb dX8_minuteNow_194 rfl (lv_at hl 2 rfl) ?_
        refine lv_iconst (v := 0) hx hb dX8_minuteNow_195 (by decide) ?_
        refine z_iast C0 hZ h1 (zkt8_45 hk0) dX8_minuteNow_196 (fun σ_28 H locs h1 hZ => ?_)
        refine lv_goto (tgt := 257) hx hb dX8_minuteNow_197 (by decide) ?_
        exact J257 x3 _ _ _ _  hZ (lv_sub hl [0, 1, 2] rfl) h1
      have J234 : ∀ (x3 : Int32) (y0 : Int32) (y1 : Int32) (σ : zS) (H : Heap) (locs : List Loc) (ls : Array Slot), zZ 1 V A σ s H locs → lv_has ls 5 [(0, .ref (zad V k0)), (1, .int x1), (3, .int x3)] → FX8_minuteNow_b234 k0 x1 x3 y0 y1 σ = some t1 → W p l e (zrm 3 72) s m args below meth c H locs 0 0 Q (F0 m 234 ls [.int y1, .int y0]) := by
        intro x3 y0 y1 σ H locs ls  hZ hl h1
        unfold FX8_minuteNow_b234 at h1
        refine z_ic_ge (tgt := 240) C0 h1 dX8_minuteNow_234 (by decide) (fun h1 => ?_) (fun h1 => ?_)
        · refine lv_aload_n hx hb dX8_minuteNow_240 rfl (lv_at hl 0 rfl) ?_
          refine lv_dup hx hb dX8_minuteNow_241 rfl ?_
          refine z_geti C0 hZ hk0 fRX8_428 rfl dX8_minuteNow_242 ?_
          refine lv_iconst (v := 1) hx hb dX8_minuteNow_245 (by decide) ?_
          refine lv_iload_n hx hb dX8_minuteNow_246 rfl (lv_at hl 2 rfl) ?_
          refine lv_ishl hx hb dX8_minuteNow_247 ?_
          refine lv_ior hx hb dX8_minuteNow_248 ?_
          refine z_puti C0 hZ h1 hk0 fRX8_428 rfl tyX8_ok nmX8 rfl rfl rfl dX8_minuteNow_249 (fun σ_29 H locs h1 hZ => ?_)
          refine lv_aload_n hx hb dX8_minuteNow_252 rfl (lv_at hl 0 rfl) ?_
          refine lv_iload_n hx hb dX8_minuteNow_253 rfl (lv_at hl 2 rfl) ?_
          refine z_cVv (As := [.int x3]) (rest := []) C0 hZ h1 (fun _ hf => kX8_putBack l hk0 hf) mRX8_431 vX8_putBack hk0 rfl rfl hl.1 (Nat.le_of_ble_eq_true rfl) ⟨Nat.le_of_ble_eq_true rfl, Nat.le_of_ble_eq_true rfl⟩ dX8_minuteNow_254 ⟨Nat.le_of_ble_eq_true rfl, Nat.le_of_ble_eq_true rfl⟩ (fun _ σ_30 H locs h1 hZ => ?_)
          exact J257 x3 _ _ _ _  hZ (lv_sub hl [0, 1, 2] rfl) h1
        refine lv_goto (tgt := 257) hx hb dX8_minuteNow_237 (by decide) ?_
        exact J257 x3 _ _ _ _  hZ (lv_sub hl [0, 1, 2] rfl) h1
      replace h1 : FX8_minuteNow_L142 k0 x1 x3 σ = some t1 := h1
      unfold FX8_minuteNow_L142 at h1
      refine lv_iload_n hx hb dX8_minuteNow_142 rfl (lv_at hl 2 rfl) ?_
      refine lv_aload_n hx hb dX8_minuteNow_143 rfl (lv_at hl 0 rfl) ?_
      refine z_getr C0 hZ hk0 fRX8_40 rfl dX8_minuteNow_144 ?_
      refine lv_iconst (v := 3) hx hb dX8_minuteNow_147 (by decide) ?_
      refine z_iald C0 hZ h1 (zkt8_3 hk0) dX8_minuteNow_148 (fun h1 => ?_)
      refine z_ic_ge (tgt := 263) C0 h1 dX8_minuteNow_149 (by decide) (fun h1 => ?_) (fun h1 => ?_)
      · have h1 := zout h1 hz1
        exact J263  _ _ _ _  hZ (lv_sub hl [0, 1] rfl) h1
      refine lv_aload_n hx hb dX8_minuteNow_152 rfl (lv_at hl 0 rfl) ?_
      refine lv_iload_n hx hb dX8_minuteNow_153 rfl (lv_at hl 2 rfl) ?_
      refine z_cVi (As := [.int x3]) (rest := []) C0 hZ h1 (fun _ hf => kX8_isInside l hk0 hf) mRX8_404 vX8_isInside hk0 rfl rfl hl.1 (Nat.le_of_ble_eq_true rfl) ⟨Nat.le_of_ble_eq_true rfl, Nat.le_of_ble_eq_true rfl⟩ dX8_minuteNow_154 ⟨Nat.le_of_ble_eq_true rfl, Nat.le_of_ble_eq_true rfl⟩ (fun r_33 σ_32 H locs h1 hZ => ?_)
      refine z_if_eq (tgt := 190) C0 h1 dX8_minuteNow_157 (by decide) (fun h1 => ?_) (fun h1 => ?_)
      · exact J190 x3 _ _ _ _  hZ (lv_sub hl [0, 1, 2] rfl) h1
      refine lv_aload_n hx hb dX8_minuteNow_160 rfl (lv_at hl 0 rfl) ?_
      refine z_getr C0 hZ hk0 fRX8_55 rfl dX8_minuteNow_161 ?_
      refine lv_iload_n hx hb dX8_minuteNow_164 rfl (lv_at hl 2 rfl) ?_
      refine z_iald C0 hZ h1 (zkt8_8 hk0) dX8_minuteNow_165 (fun h1 => ?_)
      refine lv_iconst (v := 1) hx hb dX8_minuteNow_166 (by decide) ?_
      refine z_ic_ne (tgt := 190) C0 h1 dX8_minuteNow_167 (by decide) (fun h1 => ?_) (fun h1 => ?_)
      · exact J190 x3 _ _ _ _  hZ (lv_sub hl [0, 1, 2] rfl) h1
      refine lv_aload_n hx hb dX8_minuteNow_170 rfl (lv_at hl 0 rfl) ?_
      refine z_geti C0 hZ hk0 fRX8_378 rfl dX8_minuteNow_171 ?_
      refine lv_iconst (v := (-1)) hx hb dX8_minuteNow_174 (by decide) ?_
      refine z_ic_eq (tgt := 190) C0 h1 dX8_minuteNow_175 (by decide) (fun h1 => ?_) (fun h1 => ?_)
      · exact J190 x3 _ _ _ _  hZ (lv_sub hl [0, 1, 2] rfl) h1
      refine lv_aload_n hx hb dX8_minuteNow_178 rfl (lv_at hl 0 rfl) ?_
      refine lv_iload_n hx hb dX8_minuteNow_179 rfl (lv_at hl 2 rfl) ?_
      refine z_cVi (As := [.int x3]) (rest := []) C0 hZ h1 (fun _ hf => kX8_aisleOf l hk0 hf) mRX8_407 vX8_aisleOf hk0 rfl rfl hl.1 (Nat.le_of_ble_eq_true rfl) ⟨Nat.le_of_ble_eq_true rfl, Nat.le_of_ble_eq_true rfl⟩ dX8_minuteNow_180 ⟨Nat.le_of_ble_eq_true rfl, Nat.le_of_ble_eq_true rfl⟩ (fun r_35 σ_34 H locs h1 hZ => ?_)
      refine lv_aload_n hx hb dX8_minuteNow_183 rfl (lv_at hl 0 rfl) ?_
      refine z_geti C0 hZ hk0 fRX8_378 rfl dX8_minuteNow_184 ?_
      refine z_ic_eq (tgt := 200) C0 h1 dX8_minuteNow_187 (by decide) (fun h1 => ?_) (fun h1 => ?_)
      · refine lv_aload_n hx hb dX8_minuteNow_200 rfl (lv_at hl 0 rfl) ?_
        refine z_getr C0 hZ hk0 fRX8_114 rfl dX8_minuteNow_201 ?_
        refine lv_iload_n hx hb dX8_minuteNow_204 rfl (lv_at hl 2 rfl) ?_
        refine lv_dup2_11 hx hb dX8_minuteNow_205 rfl rfl ?_
        refine z_iald C0 hZ h1 (zkt8_45 hk0) dX8_minuteNow_206 (fun h1 => ?_)
        refine lv_iconst (v := 1) hx hb dX8_minuteNow_207 (by decide) ?_
        refine lv_iadd hx hb dX8_minuteNow_208 ?_
        refine z_iast C0 hZ h1 (zkt8_45 hk0) dX8_minuteNow_209 (fun σ_36 H locs h1 hZ => ?_)
        refine lv_aload_n hx hb dX8_minuteNow_210 rfl (lv_at hl 0 rfl) ?_
        refine z_getr C0 hZ hk0 fRX8_114 rfl dX8_minuteNow_211 ?_
        refine lv_iload_n hx hb dX8_minuteNow_214 rfl (lv_at hl 2 rfl) ?_
        refine z_iald C0 hZ h1 (zkt8_45 hk0) dX8_minuteNow_215 (fun h1 => ?_)
        refine lv_aload_n hx hb dX8_minuteNow_216 rfl (lv_at hl 0 rfl) ?_
        refine z_geti C0 hZ hk0 fRX8_369 rfl dX8_minuteNow_217 ?_
        refine lv_iconst (v := 1) hx hb dX8_minuteNow_220 (by decide) ?_
        refine z_ic_ne (tgt := 228) C0 h1 dX8_minuteNow_221 (by decide) (fun h1 => ?_) (fun h1 => ?_)
        · refine lv_aload_n hx hb dX8_minuteNow_228 rfl (lv_at hl 0 rfl) ?_
          refine z_getr C0 hZ hk0 fRX8_40 rfl dX8_minuteNow_229 ?_
          refine lv_iconst (v := 5) hx hb dX8_minuteNow_232 (by decide) ?_
          refine z_iald C0 hZ h1 (zkt8_3 hk0) dX8_minuteNow_233 (fun h1 => ?_)
          exact J234 x3 (σ_36 (k0 + 26) (Int32.toNatClampNeg x3)) (σ_36 (k0 + 3) (Int32.toNatClampNeg 5)) _ _ _ _  hZ (lv_sub hl [0, 1, 2] rfl) h1
        refine lv_iconst (v := 1) hx hb dX8_minuteNow_224 (by decide) ?_
        refine lv_goto (tgt := 234) hx hb dX8_minuteNow_225 (by decide) ?_
        exact J234 x3 (σ_36 (k0 + 26) (Int32.toNatClampNeg x3)) 1 _ _ _ _  hZ (lv_sub hl [0, 1, 2] rfl) h1
      exact J190 x3 _ _ _ _  hZ (lv_sub hl [0, 1, 2] rfl) h1
  have J140 : ∀  (σ : zS) (H : Heap) (locs : List Loc) (ls : Array Slot), zZ 1 V A σ s H locs → lv_has ls 5 [(0, .ref (zad V k0)), (1, .int x1)] → FX8_minuteNow_b140 k0 x1 σ = some t0 → W p l e (zrm 3 72) s m args below meth c H locs 0 0 Q (F0 m 140 ls []) := by
    intro  σ H locs ls  hZ hl h1
    unfold FX8_minuteNow_b140 at h1
    refine lv_iconst (v := 0) hx hb dX8_minuteNow_140 (by decide) ?_
    refine z_istore_n C0 h1 hl (fun x3_37 => [(3, .int x3_37), (0, .ref (zad V k0)), (1, .int x1)]) dX8_minuteNow_141 rfl (by decide) (fun _ => rfl) (fun x3_37 ls h1 hl => ?_)
    obtain ⟨n, h1⟩ := zlp_iff.mp h1
    exact J142 n x3_37 _ _ _ _  hZ (lv_sub hl [1, 2, 0] rfl) h1
  have J125 : ∀ (y0 : Int32) (σ : zS) (H : Heap) (locs : List Loc) (ls : Array Slot), zZ 1 V A σ s H locs → lv_has ls 5 [(0, .ref (zad V k0)), (1, .int x1)] → FX8_minuteNow_b125 k0 x1 y0 σ = some t0 → W p l e (zrm 3 72) s m args below meth c H locs 0 0 Q (F0 m 125 ls [.int y0]) := by
    intro y0 σ H locs ls  hZ hl h1
    unfold FX8_minuteNow_b125 at h1
    refine z_istore_n C0 h1 hl (fun x2_38 => [(2, .int x2_38), (0, .ref (zad V k0)), (1, .int x1)]) dX8_minuteNow_125 rfl (by decide) (fun _ => rfl) (fun x2_38 ls h1 hl => ?_)
    refine lv_iload_n hx hb dX8_minuteNow_126 rfl (lv_at hl 0 rfl) ?_
    refine lv_iconst (v := (-1)) hx hb dX8_minuteNow_127 (by decide) ?_
    refine z_ic_eq (tgt := 140) C0 h1 dX8_minuteNow_128 (by decide) (fun h1 => ?_) (fun h1 => ?_)
    · exact J140  _ _ _ _  hZ (lv_sub hl [1, 2] rfl) h1
    refine lv_aload_n hx hb dX8_minuteNow_131 rfl (lv_at hl 1 rfl) ?_
    refine lv_aload_n hx hb dX8_minuteNow_132 rfl (lv_at hl 1 rfl) ?_
    refine lv_iload_n hx hb dX8_minuteNow_133 rfl (lv_at hl 0 rfl) ?_
    refine z_cVi (As := [.int x2_38]) (rest := [.ref (zad V k0)]) C0 hZ h1 (fun _ hf => kX8_aisleOf l hk0 hf) mRX8_407 vX8_aisleOf hk0 rfl rfl hl.1 (Nat.le_of_ble_eq_true rfl) ⟨Nat.le_of_ble_eq_true rfl, Nat.le_of_ble_eq_true rfl⟩ dX8_minuteNow_134 ⟨Nat.le_of_ble_eq_true rfl, Nat.le_of_ble_eq_true rfl⟩ (fun r_40 σ_39 H locs h1 hZ => ?_)
    refine z_cVv (As := [.int r_40]) (rest := []) C0 hZ h1 (fun _ hf => kX8_goNearer l hk0 hf) mRX8_425 vX8_goNearer hk0 rfl rfl hl.1 (Nat.le_of_ble_eq_true rfl) ⟨Nat.le_of_ble_eq_true rfl, Nat.le_of_ble_eq_true rfl⟩ dX8_minuteNow_137 ⟨Nat.le_of_ble_eq_true rfl, Nat.le_of_ble_eq_true rfl⟩ (fun _ σ_41 H locs h1 hZ => ?_)
    exact J140  _ _ _ _  hZ (lv_sub hl [1, 2] rfl) h1
  have J108 : ∀  (σ : zS) (H : Heap) (locs : List Loc) (ls : Array Slot), zZ 1 V A σ s H locs → lv_has ls 5 [(0, .ref (zad V k0)), (1, .int x1)] → FX8_minuteNow_b108 k0 x1 σ = some t0 → W p l e (zrm 3 72) s m args below meth c H locs 0 0 Q (F0 m 108 ls []) := by
    intro  σ H locs ls  hZ hl h1
    unfold FX8_minuteNow_b108 at h1
    refine lv_aload_n hx hb dX8_minuteNow_108 rfl (lv_at hl 0 rfl) ?_
    refine z_geti C0 hZ hk0 fRX8_378 rfl dX8_minuteNow_109 ?_
    refine lv_iconst (v := (-1)) hx hb dX8_minuteNow_112 (by decide) ?_
    refine z_ic_ne (tgt := 120) C0 h1 dX8_minuteNow_113 (by decide) (fun h1 => ?_) (fun h1 => ?_)
    · refine lv_aload_n hx hb dX8_minuteNow_120 rfl (lv_at hl 0 rfl) ?_
      refine lv_iload_n hx hb dX8_minuteNow_121 rfl (lv_at hl 1 rfl) ?_
      refine z_cVi (As := [.int x1]) (rest := []) C0 hZ h1 (fun _ hf => kX8_followed l hk0 hf) mRX8_422 vX8_followed hk0 rfl rfl hl.1 (Nat.le_of_ble_eq_true rfl) ⟨Nat.le_of_ble_eq_true rfl, Nat.le_of_ble_eq_true rfl⟩ dX8_minuteNow_122 ⟨Nat.le_of_ble_eq_true rfl, Nat.le_of_ble_eq_true rfl⟩ (fun r_44 σ_43 H locs h1 hZ => ?_)
      exact J125 r_44 _ _ _ _  hZ (lv_sub hl [0, 1] rfl) h1
    refine lv_iconst (v := (-1)) hx hb dX8_minuteNow_116 (by decide) ?_
    refine lv_goto (tgt := 125) hx hb dX8_minuteNow_117 (by decide) ?_
    exact J125 (-1) _ _ _ _  hZ (lv_sub hl [0, 1] rfl) h1
  have J2 : ∀ (n : Nat) (x2 : Int32) (σ : zS) (H : Heap) (locs : List Loc) (ls : Array Slot), zZ 1 V A σ s H locs → lv_has ls 5 [(0, .ref (zad V k0)), (1, .int x1), (2, .int x2)] → zit (fun q => FX8_minuteNow_L2 k0 x1 q.1 q.2) n (x2, σ) = some t0 → W p l e (zrm 3 72) s m args below meth c H locs 0 0 Q (F0 m 2 ls []) := by
    intro n
    induction n with
    | zero => intro x2 σ H locs ls  _ _ h1; cases h1
    | succ n ih2 =>
      intro x2 σ H locs ls  hZ hl h1
      obtain ⟨t1, h1, hz1⟩ := zit_1 h1
      have J102 : ∀ (x2 : Int32) (σ : zS) (H : Heap) (locs : List Loc) (ls : Array Slot), zZ 1 V A σ s H locs → lv_has ls 5 [(0, .ref (zad V k0)), (1, .int x1), (2, .int x2)] → FX8_minuteNow_b102 k0 x1 x2 σ = some t1 → W p l e (zrm 3 72) s m args below meth c H locs 0 0 Q (F0 m 102 ls []) := by
        intro x2 σ H locs ls  hZ hl h1
        unfold FX8_minuteNow_b102 at h1
        refine z_iinc (v := 1) C0 h1 hl (fun x2_45 => [(2, .int x2_45), (0, .ref (zad V k0)), (1, .int x1)]) dX8_minuteNow_102 (k := 2) rfl (by decide) (by decide) (fun _ => rfl) (fun x2_45 ls h1 hl => ?_)
        refine lv_goto (tgt := 2) hx hb dX8_minuteNow_105 (by decide) ?_
        exact ih2 x2_45 _ _ _ _  hZ (lv_sub hl [1, 2, 0] rfl) (zback h1 hz1)
      have J81 : ∀ (x2 : Int32) (σ : zS) (H : Heap) (locs : List Loc) (ls : Array Slot), zZ 1 V A σ s H locs → lv_has ls 5 [(0, .ref (zad V k0)), (1, .int x1), (2, .int x2)] → FX8_minuteNow_b81 k0 x1 x2 σ = some t1 → W p l e (zrm 3 72) s m args below meth c H locs 0 0 Q (F0 m 81 ls []) := by
        intro x2 σ H locs ls  hZ hl h1
        unfold FX8_minuteNow_b81 at h1
        refine lv_aload_n hx hb dX8_minuteNow_81 rfl (lv_at hl 0 rfl) ?_
        refine lv_iload_n hx hb dX8_minuteNow_82 rfl (lv_at hl 2 rfl) ?_
        refine z_cVi (As := [.int x2]) (rest := []) C0 hZ h1 (fun _ hf => kX8_isInside l hk0 hf) mRX8_404 vX8_isInside hk0 rfl rfl hl.1 (Nat.le_of_ble_eq_true rfl) ⟨Nat.le_of_ble_eq_true rfl, Nat.le_of_ble_eq_true rfl⟩ dX8_minuteNow_83 ⟨Nat.le_of_ble_eq_true rfl, Nat.le_of_ble_eq_true rfl⟩ (fun r_47 σ_46 H locs h1 hZ => ?_)
        refine z_if_eq (tgt := 102) C0 h1 dX8_minuteNow_86 (by decide) (fun h1 => ?_) (fun h1 => ?_)
        · exact J102 x2 _ _ _ _  hZ (lv_sub hl [0, 1, 2] rfl) h1
        refine lv_aload_n hx hb dX8_minuteNow_89 rfl (lv_at hl 0 rfl) ?_
        refine lv_iload_n hx hb dX8_minuteNow_90 rfl (lv_at hl 2 rfl) ?_
        refine z_cVi (As := [.int x2]) (rest := []) C0 hZ h1 (fun _ hf => kX8_aisleOf l hk0 hf) mRX8_407 vX8_aisleOf hk0 rfl rfl hl.1 (Nat.le_of_ble_eq_true rfl) ⟨Nat.le_of_ble_eq_true rfl, Nat.le_of_ble_eq_true rfl⟩ dX8_minuteNow_91 ⟨Nat.le_of_ble_eq_true rfl, Nat.le_of_ble_eq_true rfl⟩ (fun r_49 σ_48 H locs h1 hZ => ?_)
        refine z_if_ne (tgt := 102) C0 h1 dX8_minuteNow_94 (by decide) (fun h1 => ?_) (fun h1 => ?_)
        · exact J102 x2 _ _ _ _  hZ (lv_sub hl [0, 1, 2] rfl) h1
        refine lv_aload_n hx hb dX8_minuteNow_97 rfl (lv_at hl 0 rfl) ?_
        refine lv_iload_n hx hb dX8_minuteNow_98 rfl (lv_at hl 2 rfl) ?_
        refine z_cVv (As := [.int x2]) (rest := []) C0 hZ h1 (fun _ hf => kX8_leave l hk0 hf) mRX8_419 vX8_leave hk0 rfl rfl hl.1 (Nat.le_of_ble_eq_true rfl) ⟨Nat.le_of_ble_eq_true rfl, Nat.le_of_ble_eq_true rfl⟩ dX8_minuteNow_99 ⟨Nat.le_of_ble_eq_true rfl, Nat.le_of_ble_eq_true rfl⟩ (fun _ σ_50 H locs h1 hZ => ?_)
        exact J102 x2 _ _ _ _  hZ (lv_sub hl [0, 1, 2] rfl) h1
      have J43 : ∀ (x2 : Int32) (σ : zS) (H : Heap) (locs : List Loc) (ls : Array Slot), zZ 1 V A σ s H locs → lv_has ls 5 [(0, .ref (zad V k0)), (1, .int x1), (2, .int x2)] → FX8_minuteNow_b43 k0 x1 x2 σ = some t1 → W p l e (zrm 3 72) s m args below meth c H locs 0 0 Q (F0 m 43 ls []) := by
        intro x2 σ H locs ls  hZ hl h1
        unfold FX8_minuteNow_b43 at h1
        refine lv_aload_n hx hb dX8_minuteNow_43 rfl (lv_at hl 0 rfl) ?_
        refine lv_iload_n hx hb dX8_minuteNow_44 rfl (lv_at hl 2 rfl) ?_
        refine z_cVi (As := [.int x2]) (rest := []) C0 hZ h1 (fun _ hf => kX8_isInside l hk0 hf) mRX8_404 vX8_isInside hk0 rfl rfl hl.1 (Nat.le_of_ble_eq_true rfl) ⟨Nat.le_of_ble_eq_true rfl, Nat.le_of_ble_eq_true rfl⟩ dX8_minuteNow_45 ⟨Nat.le_of_ble_eq_true rfl, Nat.le_of_ble_eq_true rfl⟩ (fun r_53 σ_52 H locs h1 hZ => ?_)
        refine z_if_eq (tgt := 81) C0 h1 dX8_minuteNow_48 (by decide) (fun h1 => ?_) (fun h1 => ?_)
        · exact J81 x2 _ _ _ _  hZ (lv_sub hl [0, 1, 2] rfl) h1
        refine lv_aload_n hx hb dX8_minuteNow_51 rfl (lv_at hl 0 rfl) ?_
        refine z_getr C0 hZ hk0 fRX8_108 rfl dX8_minuteNow_52 ?_
        refine lv_iload_n hx hb dX8_minuteNow_55 rfl (lv_at hl 2 rfl) ?_
        refine z_iald C0 hZ h1 (zkt8_43 hk0) dX8_minuteNow_56 (fun h1 => ?_)
        refine lv_iconst (v := 1) hx hb dX8_minuteNow_57 (by decide) ?_
        refine lv_iadd hx hb dX8_minuteNow_58 ?_
        refine lv_aload_n hx hb dX8_minuteNow_59 rfl (lv_at hl 0 rfl) ?_
        refine z_getr C0 hZ hk0 fRX8_66 rfl dX8_minuteNow_60 ?_
        refine lv_iload_n hx hb dX8_minuteNow_63 rfl (lv_at hl 2 rfl) ?_
        refine z_iald C0 hZ h1 (zkt8_12 hk0) dX8_minuteNow_64 (fun h1 => ?_)
        refine z_ic_ge (tgt := 81) C0 h1 dX8_minuteNow_65 (by decide) (fun h1 => ?_) (fun h1 => ?_)
        · exact J81 x2 _ _ _ _  hZ (lv_sub hl [0, 1, 2] rfl) h1
        refine lv_aload_n hx hb dX8_minuteNow_68 rfl (lv_at hl 0 rfl) ?_
        refine z_getr C0 hZ hk0 fRX8_108 rfl dX8_minuteNow_69 ?_
        refine lv_iload_n hx hb dX8_minuteNow_72 rfl (lv_at hl 2 rfl) ?_
        refine lv_dup2_11 hx hb dX8_minuteNow_73 rfl rfl ?_
        refine z_iald C0 hZ h1 (zkt8_43 hk0) dX8_minuteNow_74 (fun h1 => ?_)
        refine lv_iconst (v := 1) hx hb dX8_minuteNow_75 (by decide) ?_
        refine lv_iadd hx hb dX8_minuteNow_76 ?_
        refine z_iast C0 hZ h1 (zkt8_43 hk0) dX8_minuteNow_77 (fun σ_54 H locs h1 hZ => ?_)
        refine lv_goto (tgt := 102) hx hb dX8_minuteNow_78 (by decide) ?_
        exact J102 x2 _ _ _ _  hZ (lv_sub hl [0, 1, 2] rfl) h1
      replace h1 : FX8_minuteNow_L2 k0 x1 x2 σ = some t1 := h1
      unfold FX8_minuteNow_L2 at h1
      refine lv_iload_n hx hb dX8_minuteNow_2 rfl (lv_at hl 2 rfl) ?_
      refine lv_aload_n hx hb dX8_minuteNow_3 rfl (lv_at hl 0 rfl) ?_
      refine z_getr C0 hZ hk0 fRX8_40 rfl dX8_minuteNow_4 ?_
      refine lv_iconst (v := 3) hx hb dX8_minuteNow_7 (by decide) ?_
      refine z_iald C0 hZ h1 (zkt8_3 hk0) dX8_minuteNow_8 (fun h1 => ?_)
      refine z_ic_ge (tgt := 108) C0 h1 dX8_minuteNow_9 (by decide) (fun h1 => ?_) (fun h1 => ?_)
      · have h1 := zout h1 hz1
        exact J108  _ _ _ _  hZ (lv_sub hl [0, 1] rfl) h1
      refine lv_iload_n hx hb dX8_minuteNow_12 rfl (lv_at hl 1 rfl) ?_
      refine lv_aload_n hx hb dX8_minuteNow_13 rfl (lv_at hl 0 rfl) ?_
      refine z_getr C0 hZ hk0 fRX8_58 rfl dX8_minuteNow_14 ?_
      refine lv_iload_n hx hb dX8_minuteNow_17 rfl (lv_at hl 2 rfl) ?_
      refine z_iald C0 hZ h1 (zkt8_9 hk0) dX8_minuteNow_18 (fun h1 => ?_)
      refine z_ic_ne (tgt := 43) C0 h1 dX8_minuteNow_19 (by decide) (fun h1 => ?_) (fun h1 => ?_)
      · exact J43 x2 _ _ _ _  hZ (lv_sub hl [0, 1, 2] rfl) h1
      refine lv_aload_n hx hb dX8_minuteNow_22 rfl (lv_at hl 0 rfl) ?_
      refine z_geti C0 hZ hk0 fRX8_375 rfl dX8_minuteNow_23 ?_
      refine lv_iload_n hx hb dX8_minuteNow_26 rfl (lv_at hl 2 rfl) ?_
      refine z_cSi (As := [.int (σ k0 50), .int x2]) (rest := []) C0 hZ h1 (fun _ hf => kX8_isOf l  hf) mRX8_383 sX8_isOf rfl rfl hl.1 (Nat.le_of_ble_eq_true rfl) ⟨Nat.le_of_ble_eq_true rfl, Nat.le_of_ble_eq_true rfl⟩ dX8_minuteNow_27 ⟨Nat.le_of_ble_eq_true rfl, Nat.le_of_ble_eq_true rfl⟩ (fun r_56 σ_55 H locs h1 hZ => ?_)
      refine z_if_eq (tgt := 43) C0 h1 dX8_minuteNow_30 (by decide) (fun h1 => ?_) (fun h1 => ?_)
      · exact J43 x2 _ _ _ _  hZ (lv_sub hl [0, 1, 2] rfl) h1
      refine lv_aload_n hx hb dX8_minuteNow_33 rfl (lv_at hl 0 rfl) ?_
      refine z_getr C0 hZ hk0 fRX8_108 rfl dX8_minuteNow_34 ?_
      refine lv_iload_n hx hb dX8_minuteNow_37 rfl (lv_at hl 2 rfl) ?_
      refine lv_iconst (v := 0) hx hb dX8_minuteNow_38 (by decide) ?_
      refine z_iast C0 hZ h1 (zkt8_43 hk0) dX8_minuteNow_39 (fun σ_57 H locs h1 hZ => ?_)
      refine lv_goto (tgt := 102) hx hb dX8_minuteNow_40 (by decide) ?_
      exact J102 x2 _ _ _ _  hZ (lv_sub hl [0, 1, 2] rfl) h1
  refine lv_iconst (v := 0) hx hb dX8_minuteNow_0 (by decide) ?_
  refine z_istore_n C0 h1 hl (fun x2_58 => [(2, .int x2_58), (0, .ref (zad V k0)), (1, .int x1)]) dX8_minuteNow_1 rfl (by decide) (fun _ => rfl) (fun x2_58 ls h1 hl => ?_)
  obtain ⟨n, h1⟩ := zlp_iff.mp h1
  exact J2 n x2_58 _ _ _ _  hZ (lv_sub hl [1, 2, 0] rfl) h1
