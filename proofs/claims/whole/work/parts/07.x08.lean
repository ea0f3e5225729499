noncomputable def FX3_readExpr_b98 (G : zGr)  (σ : zS) : Option (Int32 × zS) := some (0, σ)
noncomputable def FX3_readExpr_L48 (G : zGr) (k0 : Nat) (x1 : Int32) (x2 : Int32) (σ : zS) : Option ((Int32 × zS) ⊕ (Int32 × zS)) := if 700 ≤ x2 then zinr (FX3_readExpr_b98 G  σ) else if (σ k0 8) = 0 then zbd (FX3_isWord k0 11 σ) (fun r_2 σ_1 => if r_2 = 0 then zinr (FX3_readExpr_b98 G  σ_1) else zbd (FX3_readToken k0 σ_1) (fun _ σ_3 => zbd (G 1 k0 x1 0 σ_3) (fun _ σ_5 => zgd (kd 0 (σ_5 k0 1).toNatClampNeg == 5) (zlet (σ_5 k0 1).toNatClampNeg (fun q_7 => zbd (FX4_add (q_7 + 14) (-10) σ_5) (fun _ σ_8 => zlet (x2 + 1) (fun x2_10 => some (.inl (x2_10, σ_8))))))))) else zinr (FX3_readExpr_b98 G  σ)
noncomputable def FX3_readExpr_b37 (G : zGr) (q0 : Nat) (y1 : Int32) (σ : zS) : Option (Int32 × zS) := zbd (FX3_fail q0 y1 σ) (fun _ σ_11 => some (0, σ_11))
noncomputable def FX3_readExpr_b32 (G : zGr) (q0 : Nat) (σ : zS) : Option (Int32 × zS) := FX3_readExpr_b37 G q0 2 σ
noncomputable def FX3_readExpr (G : zGr) (k0 : Nat) (x1 : Int32) (σ : zS) : Option (Int32 × zS) := if x1 < 6 then zbd (G 1 k0 x1 0 σ) (fun _ σ_13 => zlet 0 (fun x2_15 => zlp (fun q => FX3_readExpr_L48 G k0 x1 q.1 q.2) (x2_15, σ_13))) else if (σ k0 3) = 2 then FX3_readExpr_b32 G k0 σ else if (σ k0 3) = 1 then FX3_readExpr_b32 G k0 σ else zbd (FX3_isSign k0 40 σ) (fun r_17 σ_16 => if r_17 = 0 then FX3_readExpr_b37 G k0 1 σ_16 else FX3_readExpr_b32 G k0 σ_16)
set_option maxHeartbeats 4000000 in
set_option maxRecDepth 100000 in
theorem kX3_readExpr (l : Launch) {nd : Nat} {G : zGr} (ih : zPGX l nd G) {V : zV} {σ : zS} {t0 : Int32 × zS} {k0 : Nat} {x1 : Int32} (hk0 : kd 0 k0 = 3) (h1 : FX3_readExpr G k0 x1 σ = some t0) : zMv l yX3_readExpr cX3_readExpr 3 (nd + 1 + 10) ((nd + 1) * 40 + 400) 0 V σ t0 [.ref (zad V k0), .int x1] := by
  refine zMv_of (by decide) (Nat.le_of_ble_eq_true rfl) ?_
  intro p e s m below meth c A C0 hr hlk hZ ls hl
  generalize ([.ref (zad V k0), .int x1] : List Value).toArray = args at C0 ⊢
  obtain ⟨Q, hQ⟩ : ∃ Q, Q = MQ below (zQv 0 V t0 A) args s 0 0 A := ⟨_, rfl⟩
  rw [← hQ]
  have hx := C0.1
  have hb := C0.2.1
  have hl : lv_has ls 3 [(0, .ref (zad V k0)), (1, .int x1)] := hl
  unfold FX3_readExpr at h1
  have J98 : ∀  (σ : zS) (H : Heap) (locs : List Loc) (ls : Array Slot), zZ 0 V A σ s H locs → lv_has ls 3 [] → FX3_readExpr_b98 G  σ = some t0 → W p l e (zrm (nd + 1 + 10) ((nd + 1) * 40 + 400)) s m args below meth c H locs 0 0 Q (F0 m 98 ls []) := by
    intro  σ H locs ls  hZ hl h1
    unfold FX3_readExpr_b98 at h1
    rw [hQ]; exact z_vret C0 hr hlk hZ h1 dX3_readExpr_98
  have J48 : ∀ (n : Nat) (x2 : Int32) (σ : zS) (H : Heap) (locs : List Loc) (ls : Array Slot), zZ 0 V A σ s H locs → lv_has ls 3 [(0, .ref (zad V k0)), (1, .int x1), (2, .int x2)] → zit (fun q => FX3_readExpr_L48 G k0 x1 q.1 q.2) n (x2, σ) = some t0 → W p l e (zrm (nd + 1 + 10) ((nd + 1) * 40 + 400)) s m args below meth c H locs 0 0 Q (F0 m 48 ls []) := by
    intro n
    induction n with
    | zero => intro x2 σ H locs ls  _ _ h1; cases h1
    | succ n ih48 =>
      intro x2 σ H locs ls  hZ hl h1
      obtain ⟨t1, h1, hz1⟩ := zit_1 h1
      replace h1 : FX3_readExpr_L48 G k0 x1 x2 σ = some t1 := h1
      unfold FX3_readExpr_L48 at h1
      refine lv_iload_n hx hb dX3_readExpr_48 rfl (lv_at hl 2 rfl) ?_
      refine lv_sipush (v := 700) hx hb dX3_readExpr_49 (by decide) ?_
      refine z_ic_ge (tgt := 98) C0 h1 dX3_readExpr_52 (by decide) (fun h1 => ?_) (fun h1 => ?_)
      · have h1 := zout h1 hz1
        exact J98  _ _ _ _  hZ (lv_sub hl [] rfl) h1
      refine lv_aload_n hx hb dX3_readExpr_55 rfl (lv_at hl 0 rfl) ?_
      refine z_geti C0 hZ hk0 fRX3_41 rfl dX3_readExpr_56 ?_
      refine z_if_ne (tgt := 98) C0 h1 dX3_readExpr_59 (by decide) (fun h1 => ?_) (fun h1 => ?_)
      · have h1 := zout h1 hz1
        exact J98  _ _ _ _  hZ (lv_sub hl [] rfl) h1
      refine lv_aload_n hx hb dX3_readExpr_62 rfl (lv_at hl 0 rfl) ?_
      refine z_ldcS (i := 11) (tx := "or") C0 hZ (by decide +kernel) dX3_readExpr_63 ?_
      refine z_cVi (As := [.ref (V.2.2.2.1 11)]) (rest := []) C0 hZ h1 (fun _ hf => kX3_isWord l hk0 (by decide) hf) mRX3_97 vX3_isWord hk0 rfl rfl hl.1 (Nat.le_of_ble_eq_true rfl) (zRo (by decide) (by decide)) dX3_readExpr_65 ⟨Nat.le_of_ble_eq_true rfl, Nat.le_of_ble_eq_true rfl⟩ (fun r_2 σ_1 H locs h1 hZ => ?_)
      refine z_if_eq (tgt := 98) C0 h1 dX3_readExpr_68 (by decide) (fun h1 => ?_) (fun h1 => ?_)
      · have h1 := zout h1 hz1
        exact J98  _ _ _ _  hZ (lv_sub hl [] rfl) h1
      refine lv_aload_n hx hb dX3_readExpr_71 rfl (lv_at hl 0 rfl) ?_
      refine z_cVv (As := []) (rest := []) C0 hZ h1 (fun _ hf => kX3_readToken l hk0 hf) mRX3_50 vX3_readToken hk0 rfl rfl hl.1 (Nat.le_of_ble_eq_true rfl) (zRo (by decide) (by decide)) dX3_readExpr_72 ⟨Nat.le_of_ble_eq_true rfl, Nat.le_of_ble_eq_true rfl⟩ (fun _ σ_3 H locs h1 hZ => ?_)
      refine lv_aload_n hx hb dX3_readExpr_75 rfl (lv_at hl 0 rfl) ?_
      refine lv_iload_n hx hb dX3_readExpr_76 rfl (lv_at hl 1 rfl) ?_
      refine z_cVv (As := [.int x1]) (rest := []) C0 hZ h1 (fun _ hf => zGGX_1 ih hk0 hf) mRX3_242 vX3_readAnd hk0 rfl rfl hl.1 (Nat.le_of_ble_eq_true rfl) (zRs (by decide)) dX3_readExpr_77 ⟨Nat.le_of_ble_eq_true rfl, Nat.le_of_ble_eq_true rfl⟩ (fun _ σ_5 H locs h1 hZ => ?_)
      refine lv_aload_n hx hb dX3_readExpr_80 rfl (lv_at hl 0 rfl) ?_
      refine z_getm C0 hZ h1 hk0 fRX3_18 rfl dX3_readExpr_81 (fun q_7 hq_7 h1 => ?_)
      refine z_getr C0 hZ hq_7 fRX3_229 rfl dX3_readExpr_84 ?_
      refine lv_bipush (v := (-10)) hx hb dX3_readExpr_87 (by decide) ?_
      refine z_cVv (As := [.int (-10)]) (rest := []) C0 hZ h1 (fun _ hf => kX4_add l (zkt5_2 hq_7) hf) mRX3_247 vX4_add (zkt5_2 hq_7) rfl rfl hl.1 (Nat.le_of_ble_eq_true rfl) (zRo (by decide) (by decide)) dX3_readExpr_89 ⟨Nat.le_of_ble_eq_true rfl, Nat.le_of_ble_eq_true rfl⟩ (fun _ σ_8 H locs h1 hZ => ?_)
      refine z_iinc (v := 1) C0 h1 hl (fun x2_10 => [(2, .int x2_10), (0, .ref (zad V k0)), (1, .int x1)]) dX3_readExpr_92 (k := 2) rfl (by decide) (by decide) (fun _ => rfl) (fun x2_10 ls h1 hl => ?_)
      refine lv_goto (tgt := 48) hx hb dX3_readExpr_95 (by decide) ?_
      exact ih48 x2_10 _ _ _ _  hZ (lv_sub hl [1, 2, 0] rfl) (zback h1 hz1)
  have J37 : ∀ (q0 : Nat) (y1 : Int32) (σ : zS) (H : Heap) (locs : List Loc) (ls : Array Slot), kd 0 q0 = 3 → zZ 0 V A σ s H locs → lv_has ls 3 [] → FX3_readExpr_b37 G q0 y1 σ = some t0 → W p l e (zrm (nd + 1 + 10) ((nd + 1) * 40 + 400)) s m args below meth c H locs 0 0 Q (F0 m 37 ls [.int y1, .ref (zad V q0)]) := by
    intro q0 y1 σ H locs ls hq0 hZ hl h1
    unfold FX3_readExpr_b37 at h1
    refine z_cVv (As := [.int y1]) (rest := []) C0 hZ h1 (fun _ hf => kX3_fail l hq0 hf) mRX3_136 vX3_fail hq0 rfl rfl hl.1 (Nat.le_of_ble_eq_true rfl) (zRo (by decide) (by decide)) dX3_readExpr_37 ⟨Nat.le_of_ble_eq_true rfl, Nat.le_of_ble_eq_true rfl⟩ (fun _ σ_11 H locs h1 hZ => ?_)
    rw [hQ]; exact z_vret C0 hr hlk hZ h1 dX3_readExpr_40
  have J32 : ∀ (q0 : Nat) (σ : zS) (H : Heap) (locs : List Loc) (ls : Array Slot), kd 0 q0 = 3 → zZ 0 V A σ s H locs → lv_has ls 3 [] → FX3_readExpr_b32 G q0 σ = some t0 → W p l e (zrm (nd + 1 + 10) ((nd + 1) * 40 + 400)) s m args below meth c H locs 0 0 Q (F0 m 32 ls [.ref (zad V q0)]) := by
    intro q0 σ H locs ls hq0 hZ hl h1
    unfold FX3_readExpr_b32 at h1
    refine lv_iconst (v := 2) hx hb dX3_readExpr_32 (by decide) ?_
    refine lv_goto (tgt := 37) hx hb dX3_readExpr_33 (by decide) ?_
    exact J37 q0 2 _ _ _ _ hq0 hZ (lv_sub hl [] rfl) h1
  refine lv_iload_n hx hb dX3_readExpr_0 rfl (lv_at hl 1 rfl) ?_
  refine lv_bipush (v := 6) hx hb dX3_readExpr_1 (by decide) ?_
  refine z_ic_lt (tgt := 41) C0 h1 dX3_readExpr_3 (by decide) (fun h1 => ?_) (fun h1 => ?_)
  · refine lv_aload_n hx hb dX3_readExpr_41 rfl (lv_at hl 0 rfl) ?_
    refine lv_iload_n hx hb dX3_readExpr_42 rfl (lv_at hl 1 rfl) ?_
    refine z_cVv (As := [.int x1]) (rest := []) C0 hZ h1 (fun _ hf => zGGX_1 ih hk0 hf) mRX3_242 vX3_readAnd hk0 rfl rfl hl.1 (Nat.le_of_ble_eq_true rfl) (zRs (by decide)) dX3_readExpr_43 ⟨Nat.le_of_ble_eq_true rfl, Nat.le_of_ble_eq_true rfl⟩ (fun _ σ_13 H locs h1 hZ => ?_)
    refine lv_iconst (v := 0) hx hb dX3_readExpr_46 (by decide) ?_
    refine z_istore_n C0 h1 hl (fun x2_15 => [(2, .int x2_15), (0, .ref (zad V k0)), (1, .int x1)]) dX3_readExpr_47 rfl (by decide) (fun _ => rfl) (fun x2_15 ls h1 hl => ?_)
    obtain ⟨n, h1⟩ := zlp_iff.mp h1
    exact J48 n x2_15 _ _ _ _  hZ (lv_sub hl [1, 2, 0] rfl) h1
  refine lv_aload_n hx hb dX3_readExpr_6 rfl (lv_at hl 0 rfl) ?_
  refine lv_aload_n hx hb dX3_readExpr_7 rfl (lv_at hl 0 rfl) ?_
  refine z_geti C0 hZ hk0 fRX3_26 rfl dX3_readExpr_8 ?_
  refine lv_iconst (v := 2) hx hb dX3_readExpr_11 (by decide) ?_
  refine z_ic_eq (tgt := 32) C0 h1 dX3_readExpr_12 (by decide) (fun h1 => ?_) (fun h1 => ?_)
  · exact J32 k0 _ _ _ _ hk0 hZ (lv_sub hl [] rfl) h1
  refine lv_aload_n hx hb dX3_readExpr_15 rfl (lv_at hl 0 rfl) ?_
  refine z_geti C0 hZ hk0 fRX3_26 rfl dX3_readExpr_16 ?_
  refine lv_iconst (v := 1) hx hb dX3_readExpr_19 (by decide) ?_
  refine z_ic_eq (tgt := 32) C0 h1 dX3_readExpr_20 (by decide) (fun h1 => ?_) (fun h1 => ?_)
  · exact J32 k0 _ _ _ _ hk0 hZ (lv_sub hl [] rfl) h1
  refine lv_aload_n hx hb dX3_readExpr_23 rfl (lv_at hl 0 rfl) ?_
  refine lv_bipush (v := 40) hx hb dX3_readExpr_24 (by decide) ?_
  refine z_cVi (As := [.int 40]) (rest := [.ref (zad V k0)]) C0 hZ h1 (fun _ hf => kX3_isSign l hk0 hf) mRX3_150 vX3_isSign hk0 rfl rfl hl.1 (Nat.le_of_ble_eq_true rfl) (zRo (by decide) (by decide)) dX3_readExpr_26 ⟨Nat.le_of_ble_eq_true rfl, Nat.le_of_ble_eq_true rfl⟩ (fun r_17 σ_16 H locs h1 hZ => ?_)
  refine z_if_eq (tgt := 36) C0 h1 dX3_readExpr_29 (by decide) (fun h1 => ?_) (fun h1 => ?_)
  · refine lv_iconst (v := 1) hx hb dX3_readExpr_36 (by decide) ?_
    exact J37 k0 1 _ _ _ _ hk0 hZ (lv_sub hl [] rfl) h1
  exact J32 k0 _ _ _ _ hk0 hZ (lv_sub hl [] rfl) h1
