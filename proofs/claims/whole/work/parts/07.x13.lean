noncomputable def FX3_readProduct_b82 (G : zGr)  (σ : zS) : Option (Int32 × zS) := some (0, σ)
noncomputable def FX3_readProduct_b55 (G : zGr) (k0 : Nat) (x1 : Int32) (x2 : Int32) (y0 : Int32) (σ : zS) : Option ((Int32 × zS) ⊕ (Int32 × zS)) := zlet y0 (fun x3_1 => zbd (FX3_readToken k0 σ) (fun _ σ_2 => zbd (G 6 k0 x1 0 σ_2) (fun _ σ_4 => zgd (kd 0 (σ_4 k0 1).toNatClampNeg == 5) (zlet (σ_4 k0 1).toNatClampNeg (fun q_6 => zbd (FX4_add (q_6 + 14) x3_1 σ_4) (fun _ σ_7 => zlet (x2 + 1) (fun x2_9 => some (.inl (x2_9, σ_7)))))))))
noncomputable def FX3_readProduct_b39 (G : zGr) (k0 : Nat) (x1 : Int32) (x2 : Int32) (σ : zS) : Option ((Int32 × zS) ⊕ (Int32 × zS)) := zbd (FX3_isSign k0 42 σ) (fun r_11 σ_10 => if r_11 = 0 then FX3_readProduct_b55 G k0 x1 x2 (-18) σ_10 else FX3_readProduct_b55 G k0 x1 x2 (-17) σ_10)
noncomputable def FX3_readProduct_L7 (G : zGr) (k0 : Nat) (x1 : Int32) (x2 : Int32) (σ : zS) : Option ((Int32 × zS) ⊕ (Int32 × zS)) := if 700 ≤ x2 then zinr (FX3_readProduct_b82 G  σ) else if (σ k0 8) = 0 then zbd (FX3_isSign k0 42 σ) (fun r_13 σ_12 => if r_13 = 0 then zbd (FX3_isSign k0 47 σ_12) (fun r_15 σ_14 => if r_15 = 0 then zinr (FX3_readProduct_b82 G  σ_14) else FX3_readProduct_b39 G k0 x1 x2 σ_14) else FX3_readProduct_b39 G k0 x1 x2 σ_12) else zinr (FX3_readProduct_b82 G  σ)
noncomputable def FX3_readProduct (G : zGr) (k0 : Nat) (x1 : Int32) (σ : zS) : Option (Int32 × zS) := zbd (G 6 k0 x1 0 σ) (fun _ σ_16 => zlet 0 (fun x2_18 => zlp (fun q => FX3_readProduct_L7 G k0 x1 q.1 q.2) (x2_18, σ_16)))
set_option maxHeartbeats 4000000 in
set_option maxRecDepth 100000 in
theorem kX3_readProduct (l : Launch) {nd : Nat} {G : zGr} (ih : zPGX l nd G) {V : zV} {σ : zS} {t0 : Int32 × zS} {k0 : Nat} {x1 : Int32} (hk0 : kd 0 k0 = 3) (h1 : FX3_readProduct G k0 x1 σ = some t0) : zMv l yX3_readProduct cX3_readProduct 4 (nd + 1 + 10) ((nd + 1) * 40 + 400) 0 V σ t0 [.ref (zad V k0), .int x1] := by
  refine zMv_of (by decide) (Nat.le_of_ble_eq_true rfl) ?_
  intro p e s m below meth c A C0 hr hlk hZ ls hl
  generalize ([.ref (zad V k0), .int x1] : List Value).toArray = args at C0 ⊢
  obtain ⟨Q, hQ⟩ : ∃ Q, Q = MQ below (zQv 0 V t0 A) args s 0 0 A := ⟨_, rfl⟩
  rw [← hQ]
  have hx := C0.1
  have hb := C0.2.1
  have hl : lv_has ls 4 [(0, .ref (zad V k0)), (1, .int x1)] := hl
  unfold FX3_readProduct at h1
  have J82 : ∀  (σ : zS) (H : Heap) (locs : List Loc) (ls : Array Slot), zZ 0 V A σ s H locs → lv_has ls 4 [] → FX3_readProduct_b82 G  σ = some t0 → W p l e (zrm (nd + 1 + 10) ((nd + 1) * 40 + 400)) s m args below meth c H locs 0 0 Q (F0 m 82 ls []) := by
    intro  σ H locs ls  hZ hl h1
    unfold FX3_readProduct_b82 at h1
    rw [hQ]; exact z_vret C0 hr hlk hZ h1 dX3_readProduct_82
  have J7 : ∀ (n : Nat) (x2 : Int32) (σ : zS) (H : Heap) (locs : List Loc) (ls : Array Slot), zZ 0 V A σ s H locs → lv_has ls 4 [(0, .ref (zad V k0)), (1, .int x1), (2, .int x2)] → zit (fun q => FX3_readProduct_L7 G k0 x1 q.1 q.2) n (x2, σ) = some t0 → W p l e (zrm (nd + 1 + 10) ((nd + 1) * 40 + 400)) s m args below meth c H locs 0 0 Q (F0 m 7 ls []) := by
    intro n
    induction n with
    | zero => intro x2 σ H locs ls  _ _ h1; cases h1
    | succ n ih7 =>
      intro x2 σ H locs ls  hZ hl h1
      obtain ⟨t1, h1, hz1⟩ := zit_1 h1
      have J55 : ∀ (x2 : Int32) (y0 : Int32) (σ : zS) (H : Heap) (locs : List Loc) (ls : Array Slot), zZ 0 V A σ s H locs → lv_has ls 4 [(0, .ref (zad V k0)), (1, .int x1), (2, .int x2)] → FX3_readProduct_b55 G k0 x1 x2 y0 σ = some t1 → W p l e (zrm (nd + 1 + 10) ((nd + 1) * 40 + 400)) s m args below meth c H locs 0 0 Q (F0 m 55 ls [.int y0]) := by
        intro x2 y0 σ H locs ls  hZ hl h1
        unfold FX3_readProduct_b55 at h1
        refine z_istore_n C0 h1 hl (fun x3_1 => [(3, .int x3_1), (0, .ref (zad V k0)), (1, .int x1), (2, .int x2)]) dX3_readProduct_55 rfl (by decide) (fun _ => rfl) (fun x3_1 ls h1 hl => ?_)
        refine lv_aload_n hx hb dX3_readProduct_56 rfl (lv_at hl 1 rfl) ?_
        refine z_cVv (As := []) (rest := []) C0 hZ h1 (fun _ hf => kX3_readToken l hk0 hf) mRX3_50 vX3_readToken hk0 rfl rfl hl.1 (Nat.le_of_ble_eq_true rfl) (zRo (by decide) (by decide)) dX3_readProduct_57 ⟨Nat.le_of_ble_eq_true rfl, Nat.le_of_ble_eq_true rfl⟩ (fun _ σ_2 H locs h1 hZ => ?_)
        refine lv_aload_n hx hb dX3_readProduct_60 rfl (lv_at hl 1 rfl) ?_
        refine lv_iload_n hx hb dX3_readProduct_61 rfl (lv_at hl 2 rfl) ?_
        refine z_cVv (As := [.int x1]) (rest := []) C0 hZ h1 (fun _ hf => zGGX_6 ih hk0 hf) mRX3_266 vX3_readPart hk0 rfl rfl hl.1 (Nat.le_of_ble_eq_true rfl) (zRs (by decide)) dX3_readProduct_62 ⟨Nat.le_of_ble_eq_true rfl, Nat.le_of_ble_eq_true rfl⟩ (fun _ σ_4 H locs h1 hZ => ?_)
        refine lv_aload_n hx hb dX3_readProduct_65 rfl (lv_at hl 1 rfl) ?_
        refine z_getm C0 hZ h1 hk0 fRX3_18 rfl dX3_readProduct_66 (fun q_6 hq_6 h1 => ?_)
        refine z_getr C0 hZ hq_6 fRX3_229 rfl dX3_readProduct_69 ?_
        refine lv_iload_n hx hb dX3_readProduct_72 rfl (lv_at hl 0 rfl) ?_
        refine z_cVv (As := [.int x3_1]) (rest := []) C0 hZ h1 (fun _ hf => kX4_add l (zkt5_2 hq_6) hf) mRX3_247 vX4_add (zkt5_2 hq_6) rfl rfl hl.1 (Nat.le_of_ble_eq_true rfl) (zRo (by decide) (by decide)) dX3_readProduct_73 ⟨Nat.le_of_ble_eq_true rfl, Nat.le_of_ble_eq_true rfl⟩ (fun _ σ_7 H locs h1 hZ => ?_)
        refine z_iinc (v := 1) C0 h1 hl (fun x2_9 => [(2, .int x2_9), (3, .int x3_1), (0, .ref (zad V k0)), (1, .int x1)]) dX3_readProduct_76 (k := 3) rfl (by decide) (by decide) (fun _ => rfl) (fun x2_9 ls h1 hl => ?_)
        refine lv_goto (tgt := 7) hx hb dX3_readProduct_79 (by decide) ?_
        exact ih7 x2_9 _ _ _ _  hZ (lv_sub hl [2, 3, 0] rfl) (zback h1 hz1)
      have J39 : ∀ (x2 : Int32) (σ : zS) (H : Heap) (locs : List Loc) (ls : Array Slot), zZ 0 V A σ s H locs → lv_has ls 4 [(0, .ref (zad V k0)), (1, .int x1), (2, .int x2)] → FX3_readProduct_b39 G k0 x1 x2 σ = some t1 → W p l e (zrm (nd + 1 + 10) ((nd + 1) * 40 + 400)) s m args below meth c H locs 0 0 Q (F0 m 39 ls []) := by
        intro x2 σ H locs ls  hZ hl h1
        unfold FX3_readProduct_b39 at h1
        refine lv_aload_n hx hb dX3_readProduct_39 rfl (lv_at hl 0 rfl) ?_
        refine lv_bipush (v := 42) hx hb dX3_readProduct_40 (by decide) ?_
        refine z_cVi (As := [.int 42]) (rest := []) C0 hZ h1 (fun _ hf => kX3_isSign l hk0 hf) mRX3_150 vX3_isSign hk0 rfl rfl hl.1 (Nat.le_of_ble_eq_true rfl) (zRo (by decide) (by decide)) dX3_readProduct_42 ⟨Nat.le_of_ble_eq_true rfl, Nat.le_of_ble_eq_true rfl⟩ (fun r_11 σ_10 H locs h1 hZ => ?_)
        refine z_if_eq (tgt := 53) C0 h1 dX3_readProduct_45 (by decide) (fun h1 => ?_) (fun h1 => ?_)
        · refine lv_bipush (v := (-18)) hx hb dX3_readProduct_53 (by decide) ?_
          exact J55 x2 (-18) _ _ _ _  hZ (lv_sub hl [0, 1, 2] rfl) h1
        refine lv_bipush (v := (-17)) hx hb dX3_readProduct_48 (by decide) ?_
        refine lv_goto (tgt := 55) hx hb dX3_readProduct_50 (by decide) ?_
        exact J55 x2 (-17) _ _ _ _  hZ (lv_sub hl [0, 1, 2] rfl) h1
      replace h1 : FX3_readProduct_L7 G k0 x1 x2 σ = some t1 := h1
      unfold FX3_readProduct_L7 at h1
      refine lv_iload_n hx hb dX3_readProduct_7 rfl (lv_at hl 2 rfl) ?_
      refine lv_sipush (v := 700) hx hb dX3_readProduct_8 (by decide) ?_
      refine z_ic_ge (tgt := 82) C0 h1 dX3_readProduct_11 (by decide) (fun h1 => ?_) (fun h1 => ?_)
      · have h1 := zout h1 hz1
        exact J82  _ _ _ _  hZ (lv_sub hl [] rfl) h1
      refine lv_aload_n hx hb dX3_readProduct_14 rfl (lv_at hl 0 rfl) ?_
      refine z_geti C0 hZ hk0 fRX3_41 rfl dX3_readProduct_15 ?_
      refine z_if_ne (tgt := 82) C0 h1 dX3_readProduct_18 (by decide) (fun h1 => ?_) (fun h1 => ?_)
      · have h1 := zout h1 hz1
        exact J82  _ _ _ _  hZ (lv_sub hl [] rfl) h1
      refine lv_aload_n hx hb dX3_readProduct_21 rfl (lv_at hl 0 rfl) ?_
      refine lv_bipush (v := 42) hx hb dX3_readProduct_22 (by decide) ?_
      refine z_cVi (As := [.int 42]) (rest := []) C0 hZ h1 (fun _ hf => kX3_isSign l hk0 hf) mRX3_150 vX3_isSign hk0 rfl rfl hl.1 (Nat.le_of_ble_eq_true rfl) (zRo (by decide) (by decide)) dX3_readProduct_24 ⟨Nat.le_of_ble_eq_true rfl, Nat.le_of_ble_eq_true rfl⟩ (fun r_13 σ_12 H locs h1 hZ => ?_)
      refine z_if_ne (tgt := 39) C0 h1 dX3_readProduct_27 (by decide) (fun h1 => ?_) (fun h1 => ?_)
      · exact J39 x2 _ _ _ _  hZ (lv_sub hl [0, 1, 2] rfl) h1
      refine lv_aload_n hx hb dX3_readProduct_30 rfl (lv_at hl 0 rfl) ?_
      refine lv_bipush (v := 47) hx hb dX3_readProduct_31 (by decide) ?_
      refine z_cVi (As := [.int 47]) (rest := []) C0 hZ h1 (fun _ hf => kX3_isSign l hk0 hf) mRX3_150 vX3_isSign hk0 rfl rfl hl.1 (Nat.le_of_ble_eq_true rfl) (zRo (by decide) (by decide)) dX3_readProduct_33 ⟨Nat.le_of_ble_eq_true rfl, Nat.le_of_ble_eq_true rfl⟩ (fun r_15 σ_14 H locs h1 hZ => ?_)
      refine z_if_eq (tgt := 82) C0 h1 dX3_readProduct_36 (by decide) (fun h1 => ?_) (fun h1 => ?_)
      · have h1 := zout h1 hz1
        exact J82  _ _ _ _  hZ (lv_sub hl [] rfl) h1
      exact J39 x2 _ _ _ _  hZ (lv_sub hl [0, 1, 2] rfl) h1
  refine lv_aload_n hx hb dX3_readProduct_0 rfl (lv_at hl 0 rfl) ?_
  refine lv_iload_n hx hb dX3_readProduct_1 rfl (lv_at hl 1 rfl) ?_
  refine z_cVv (As := [.int x1]) (rest := []) C0 hZ h1 (fun _ hf => zGGX_6 ih hk0 hf) mRX3_266 vX3_readPart hk0 rfl rfl hl.1 (Nat.le_of_ble_eq_true rfl) (zRs (by decide)) dX3_readProduct_2 ⟨Nat.le_of_ble_eq_true rfl, Nat.le_of_ble_eq_true rfl⟩ (fun _ σ_16 H locs h1 hZ => ?_)
  refine lv_iconst (v := 0) hx hb dX3_readProduct_5 (by decide) ?_
  refine z_istore_n C0 h1 hl (fun x2_18 => [(2, .int x2_18), (0, .ref (zad V k0)), (1, .int x1)]) dX3_readProduct_6 rfl (by decide) (fun _ => rfl) (fun x2_18 ls h1 hl => ?_)
  obtain ⟨n, h1⟩ := zlp_iff.mp h1
  exact J7 n x2_18 _ _ _ _  hZ (lv_sub hl [1, 2, 0] rfl) h1
