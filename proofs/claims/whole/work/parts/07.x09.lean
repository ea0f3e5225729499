noncomputable def FX3_readAnd_b59 (G : zGr)  (σ : zS) : Option (Int32 × zS) := some (0, σ)
noncomputable def FX3_readAnd_L8 (G : zGr) (k0 : Nat) (x1 : Int32) (x2 : Int32) (σ : zS) : Option ((Int32 × zS) ⊕ (Int32 × zS)) := if 700 ≤ x2 then zinr (FX3_readAnd_b59 G  σ) else if (σ k0 8) = 0 then zbd (FX3_isWord k0 12 σ) (fun r_2 σ_1 => if r_2 = 0 then zinr (FX3_readAnd_b59 G  σ_1) else zbd (FX3_readToken k0 σ_1) (fun _ σ_3 => zbd (G 2 k0 x1 0 σ_3) (fun _ σ_5 => zgd (kd 0 (σ_5 k0 1).toNatClampNeg == 5) (zlet (σ_5 k0 1).toNatClampNeg (fun q_7 => zbd (FX4_add (q_7 + 14) (-11) σ_5) (fun _ σ_8 => zlet (x2 + 1) (fun x2_10 => some (.inl (x2_10, σ_8))))))))) else zinr (FX3_readAnd_b59 G  σ)
noncomputable def FX3_readAnd (G : zGr) (k0 : Nat) (x1 : Int32) (σ : zS) : Option (Int32 × zS) := zbd (G 2 k0 x1 0 σ) (fun _ σ_11 => zlet 0 (fun x2_13 => zlp (fun q => FX3_readAnd_L8 G k0 x1 q.1 q.2) (x2_13, σ_11)))
set_option maxHeartbeats 4000000 in
set_option maxRecDepth 100000 in
theorem kX3_readAnd (l : Launch) {nd : Nat} {G : zGr} (ih : zPGX l nd G) {V : zV} {σ : zS} {t0 : Int32 × zS} {k0 : Nat} {x1 : Int32} (hk0 : kd 0 k0 = 3) (h1 : FX3_readAnd G k0 x1 σ = some t0) : zMv l yX3_readAnd cX3_readAnd 3 (nd + 1 + 10) ((nd + 1) * 40 + 400) 0 V σ t0 [.ref (zad V k0), .int x1] := by
  refine zMv_of (by decide) (Nat.le_of_ble_eq_true rfl) ?_
  intro p e s m below meth c A C0 hr hlk hZ ls hl
  generalize ([.ref (zad V k0), .int x1] : List Value).toArray = args at C0 ⊢
  obtain ⟨Q, hQ⟩ : ∃ Q, Q = MQ below (zQv 0 V t0 A) args s 0 0 A := ⟨_, rfl⟩
  rw [← hQ]
  have hx := C0.1
  have hb := C0.2.1
  have hl : lv_has ls 3 [(0, .ref (zad V k0)), (1, .int x1)] := hl
  unfold FX3_readAnd at h1
  have J59 : ∀  (σ : zS) (H : Heap) (locs : List Loc) (ls : Array Slot), zZ 0 V A σ s H locs → lv_has ls 3 [] → FX3_readAnd_b59 G  σ = some t0 → W p l e (zrm (nd + 1 + 10) ((nd + 1) * 40 + 400)) s m args below meth c H locs 0 0 Q (F0 m 59 ls []) := by
    intro  σ H locs ls  hZ hl h1
    unfold FX3_readAnd_b59 at h1
    rw [hQ]; exact z_vret C0 hr hlk hZ h1 dX3_readAnd_59
  have J8 : ∀ (n : Nat) (x2 : Int32) (σ : zS) (H : Heap) (locs : List Loc) (ls : Array Slot), zZ 0 V A σ s H locs → lv_has ls 3 [(0, .ref (zad V k0)), (1, .int x1), (2, .int x2)] → zit (fun q => FX3_readAnd_L8 G k0 x1 q.1 q.2) n (x2, σ) = some t0 → W p l e (zrm (nd + 1 + 10) ((nd + 1) * 40 + 400)) s m args below meth c H locs 0 0 Q (F0 m 8 ls []) := by
    intro n
    induction n with
    | zero => intro x2 σ H locs ls  _ _ h1; cases h1
    | succ n ih8 =>
      intro x2 σ H locs ls  hZ hl h1
      obtain ⟨t1, h1, hz1⟩ := zit_1 h1
      replace h1 : FX3_readAnd_L8 G k0 x1 x2 σ = some t1 := h1
      unfold FX3_readAnd_L8 at h1
      refine lv_iload_n hx hb dX3_readAnd_8 rfl (lv_at hl 2 rfl) ?_
      refine lv_sipush (v := 700) hx hb dX3_readAnd_9 (by decide) ?_
      refine z_ic_ge (tgt := 59) C0 h1 dX3_readAnd_12 (by decide) (fun h1 => ?_) (fun h1 => ?_)
      · have h1 := zout h1 hz1
        exact J59  _ _ _ _  hZ (lv_sub hl [] rfl) h1
      refine lv_aload_n hx hb dX3_readAnd_15 rfl (lv_at hl 0 rfl) ?_
      refine z_geti C0 hZ hk0 fRX3_41 rfl dX3_readAnd_16 ?_
      refine z_if_ne (tgt := 59) C0 h1 dX3_readAnd_19 (by decide) (fun h1 => ?_) (fun h1 => ?_)
      · have h1 := zout h1 hz1
        exact J59  _ _ _ _  hZ (lv_sub hl [] rfl) h1
      refine lv_aload_n hx hb dX3_readAnd_22 rfl (lv_at hl 0 rfl) ?_
      refine z_ldcS (i := 12) (tx := "and") C0 hZ (by decide +kernel) dX3_readAnd_23 ?_
      refine z_cVi (As := [.ref (V.2.2.2.1 12)]) (rest := []) C0 hZ h1 (fun _ hf => kX3_isWord l hk0 (by decide) hf) mRX3_97 vX3_isWord hk0 rfl rfl hl.1 (Nat.le_of_ble_eq_true rfl) (zRo (by decide) (by decide)) dX3_readAnd_25 ⟨Nat.le_of_ble_eq_true rfl, Nat.le_of_ble_eq_true rfl⟩ (fun r_2 σ_1 H locs h1 hZ => ?_)
      refine z_if_eq (tgt := 59) C0 h1 dX3_readAnd_28 (by decide) (fun h1 => ?_) (fun h1 => ?_)
      · have h1 := zout h1 hz1
        exact J59  _ _ _ _  hZ (lv_sub hl [] rfl) h1
      refine lv_aload_n hx hb dX3_readAnd_31 rfl (lv_at hl 0 rfl) ?_
      refine z_cVv (As := []) (rest := []) C0 hZ h1 (fun _ hf => kX3_readToken l hk0 hf) mRX3_50 vX3_readToken hk0 rfl rfl hl.1 (Nat.le_of_ble_eq_true rfl) (zRo (by decide) (by decide)) dX3_readAnd_32 ⟨Nat.le_of_ble_eq_true rfl, Nat.le_of_ble_eq_true rfl⟩ (fun _ σ_3 H locs h1 hZ => ?_)
      refine lv_aload_n hx hb dX3_readAnd_35 rfl (lv_at hl 0 rfl) ?_
      refine lv_iload_n hx hb dX3_readAnd_36 rfl (lv_at hl 1 rfl) ?_
      refine lv_iconst (v := 0) hx hb dX3_readAnd_37 (by decide) ?_
      refine z_cVv (As := [.int x1, .int 0]) (rest := []) C0 hZ h1 (fun _ hf => zGGX_2 ih hk0 hf) mRX3_250 vX3_readNot hk0 rfl rfl hl.1 (Nat.le_of_ble_eq_true rfl) (zRs (by decide)) dX3_readAnd_38 ⟨Nat.le_of_ble_eq_true rfl, Nat.le_of_ble_eq_true rfl⟩ (fun _ σ_5 H locs h1 hZ => ?_)
      refine lv_aload_n hx hb dX3_readAnd_41 rfl (lv_at hl 0 rfl) ?_
      refine z_getm C0 hZ h1 hk0 fRX3_18 rfl dX3_readAnd_42 (fun q_7 hq_7 h1 => ?_)
      refine z_getr C0 hZ hq_7 fRX3_229 rfl dX3_readAnd_45 ?_
      refine lv_bipush (v := (-11)) hx hb dX3_readAnd_48 (by decide) ?_
      refine z_cVv (As := [.int (-11)]) (rest := []) C0 hZ h1 (fun _ hf => kX4_add l (zkt5_2 hq_7) hf) mRX3_247 vX4_add (zkt5_2 hq_7) rfl rfl hl.1 (Nat.le_of_ble_eq_true rfl) (zRo (by decide) (by decide)) dX3_readAnd_50 ⟨Nat.le_of_ble_eq_true rfl, Nat.le_of_ble_eq_true rfl⟩ (fun _ σ_8 H locs h1 hZ => ?_)
      refine z_iinc (v := 1) C0 h1 hl (fun x2_10 => [(2, .int x2_10), (0, .ref (zad V k0)), (1, .int x1)]) dX3_readAnd_53 (k := 2) rfl (by decide) (by decide) (fun _ => rfl) (fun x2_10 ls h1 hl => ?_)
      refine lv_goto (tgt := 8) hx hb dX3_readAnd_56 (by decide) ?_
      exact ih8 x2_10 _ _ _ _  hZ (lv_sub hl [1, 2, 0] rfl) (zback h1 hz1)
  refine lv_aload_n hx hb dX3_readAnd_0 rfl (lv_at hl 0 rfl) ?_
  refine lv_iload_n hx hb dX3_readAnd_1 rfl (lv_at hl 1 rfl) ?_
  refine lv_iconst (v := 0) hx hb dX3_readAnd_2 (by decide) ?_
  refine z_cVv (As := [.int x1, .int 0]) (rest := []) C0 hZ h1 (fun _ hf => zGGX_2 ih hk0 hf) mRX3_250 vX3_readNot hk0 rfl rfl hl.1 (Nat.le_of_ble_eq_true rfl) (zRs (by decide)) dX3_readAnd_3 ⟨Nat.le_of_ble_eq_true rfl, Nat.le_of_ble_eq_true rfl⟩ (fun _ σ_11 H locs h1 hZ => ?_)
  refine lv_iconst (v := 0) hx hb dX3_readAnd_6 (by decide) ?_
  refine z_istore_n C0 h1 hl (fun x2_13 => [(2, .int x2_13), (0, .ref (zad V k0)), (1, .int x1)]) dX3_readAnd_7 rfl (by decide) (fun _ => rfl) (fun x2_13 ls h1 hl => ?_)
  obtain ⟨n, h1⟩ := zlp_iff.mp h1
  exact J8 n x2_13 _ _ _ _  hZ (lv_sub hl [1, 2, 0] rfl) h1
