noncomputable def FX3_readPerson_b138  (σ : zS) : Option (Int32 × zS) := some (0, σ)
noncomputable def FX3_readPerson_b121 (k0 : Nat) (k2 : Nat) (σ : zS) : Option (Int32 × zS) := if (σ k0 8) = 0 then zlet (zup σ k2 0 ((σ k2 0) + 1)) (fun σ_1 => FX3_readPerson_b138  σ_1) else FX3_readPerson_b138  σ
noncomputable def FX3_readPerson (k0 : Nat) (x1 : Int32) (σ : zS) : Option (Int32 × zS) := zgd (kd 0 (σ k0 1).toNatClampNeg == 5) (zlet (σ k0 1).toNatClampNeg (fun q_2 => zlet (σ (q_2 + 7) 0) (fun x3_3 => zbd (FX3_readFirst k0 x3_3 8 σ) (fun _ σ_4 => zbd (FX7_put ((q_2 + 7) + 1) x3_3 x1 σ_4) (fun _ σ_6 => zbd (FX3_readNumber k0 1 60 σ_6) (fun r_9 σ_8 => zbd (FX7_put ((q_2 + 7) + 2) x3_3 r_9 σ_8) (fun _ σ_10 => zbd (FX3_readNumber k0 0 12 σ_10) (fun r_13 σ_12 => zlet r_13 (fun x4_14 => zbd (FX7_put ((q_2 + 7) + 3) x3_3 x4_14 σ_12) (fun _ σ_15 => zbd (FX3_readNumber k0 0 9 σ_15) (fun r_18 σ_17 => zbd (FX7_put ((q_2 + 7) + 4) x3_3 r_18 σ_17) (fun _ σ_19 => zbd (FX3_readRoute k0 x3_3 σ_19) (fun r_22 σ_21 => zlet r_22 (fun x5_23 => zbd (FX7_put ((q_2 + 7) + 5) x3_3 x5_23 σ_21) (fun _ σ_24 => if x5_23 = 0 then zbd (FX3_fail k0 1 σ_24) (fun _ σ_28 => FX3_readPerson_b121 k0 (q_2 + 7) σ_28) else if x4_14 ≤ x5_23 then FX3_readPerson_b121 k0 (q_2 + 7) σ_24 else zbd (FX3_fail k0 6 σ_24) (fun _ σ_26 => FX3_readPerson_b121 k0 (q_2 + 7) σ_26))))))))))))))))
set_option maxHeartbeats 4000000 in
set_option maxRecDepth 100000 in
theorem kX3_readPerson (l : Launch) {V : zV} {σ : zS} {t0 : Int32 × zS} {k0 : Nat} {x1 : Int32} (hk0 : kd 0 k0 = 3) (h1 : FX3_readPerson k0 x1 σ = some t0) : zMv l yX3_readPerson cX3_readPerson 6 3 69 0 V σ t0 [.ref (zad V k0), .int x1] := by
  refine zMv_of (by decide) (Nat.le_of_ble_eq_true rfl) ?_
  intro p e s m below meth c A C0 hr hlk hZ ls hl
  generalize ([.ref (zad V k0), .int x1] : List Value).toArray = args at C0 ⊢
  obtain ⟨Q, hQ⟩ : ∃ Q, Q = MQ below (zQv 0 V t0 A) args s 0 0 A := ⟨_, rfl⟩
  rw [← hQ]
  have hx := C0.1
  have hb := C0.2.1
  have hl : lv_has ls 6 [(0, .ref (zad V k0)), (1, .int x1)] := hl
  unfold FX3_readPerson at h1
  have J138 : ∀  (σ : zS) (H : Heap) (locs : List Loc) (ls : Array Slot), zZ 0 V A σ s H locs → lv_has ls 6 [] → FX3_readPerson_b138  σ = some t0 → W p l e (zrm 3 69) s m args below meth c H locs 0 0 Q (F0 m 138 ls []) := by
    intro  σ H locs ls  hZ hl h1
    unfold FX3_readPerson_b138 at h1
    rw [hQ]; exact z_vret C0 hr hlk hZ h1 dX3_readPerson_138
  have J121 : ∀ (k2 : Nat) (σ : zS) (H : Heap) (locs : List Loc) (ls : Array Slot), kd 0 k2 = 2 → zZ 0 V A σ s H locs → lv_has ls 6 [(0, .ref (zad V k0)), (2, .ref (zad V k2))] → FX3_readPerson_b121 k0 k2 σ = some t0 → W p l e (zrm 3 69) s m args below meth c H locs 0 0 Q (F0 m 121 ls []) := by
    intro k2 σ H locs ls hk2 hZ hl h1
    unfold FX3_readPerson_b121 at h1
    refine lv_aload_n hx hb dX3_readPerson_121 rfl (lv_at hl 0 rfl) ?_
    refine z_geti C0 hZ hk0 fRX3_41 rfl dX3_readPerson_122 ?_
    refine z_if_ne (tgt := 138) C0 h1 dX3_readPerson_125 (by decide) (fun h1 => ?_) (fun h1 => ?_)
    · exact J138  _ _ _ _  hZ (lv_sub hl [] rfl) h1
    refine lv_aload_n hx hb dX3_readPerson_128 rfl (lv_at hl 1 rfl) ?_
    refine lv_dup hx hb dX3_readPerson_129 rfl ?_
    refine z_geti C0 hZ hk2 fRX3_199 rfl dX3_readPerson_130 ?_
    refine lv_iconst (v := 1) hx hb dX3_readPerson_133 (by decide) ?_
    refine lv_iadd hx hb dX3_readPerson_134 ?_
    refine z_puti C0 hZ h1 hk2 fRX3_199 rfl tyX2_ok nmX2 rfl rfl rfl dX3_readPerson_135 (fun σ_1 H locs h1 hZ => ?_)
    exact J138  _ _ _ _  hZ (lv_sub hl [] rfl) h1
  refine lv_aload_n hx hb dX3_readPerson_0 rfl (lv_at hl 0 rfl) ?_
  refine z_getm C0 hZ h1 hk0 fRX3_18 rfl dX3_readPerson_1 (fun q_2 hq_2 h1 => ?_)
  refine z_getr C0 hZ hq_2 fRX3_195 rfl dX3_readPerson_4 ?_
  refine lv_astore_n (lv' := [(2, .ref (zad V (q_2 + 7))), (0, .ref (zad V k0)), (1, .int x1)]) hx hb dX3_readPerson_7 rfl hl (by decide) rfl (fun ls hl => ?_)
  refine lv_aload_n hx hb dX3_readPerson_8 rfl (lv_at hl 0 rfl) ?_
  refine z_geti C0 hZ (zkt5_1 hq_2) fRX3_199 rfl dX3_readPerson_9 ?_
  refine z_istore_n C0 h1 hl (fun x3_3 => [(3, .int x3_3), (2, .ref (zad V (q_2 + 7))), (0, .ref (zad V k0)), (1, .int x1)]) dX3_readPerson_12 rfl (by decide) (fun _ => rfl) (fun x3_3 ls h1 hl => ?_)
  refine lv_aload_n hx hb dX3_readPerson_13 rfl (lv_at hl 2 rfl) ?_
  refine lv_iload_n hx hb dX3_readPerson_14 rfl (lv_at hl 0 rfl) ?_
  refine lv_bipush (v := 8) hx hb dX3_readPerson_15 (by decide) ?_
  refine z_cVv (As := [.int x3_3, .int 8]) (rest := []) C0 hZ h1 (fun _ hf => kX3_readFirst l hk0 hf) mRX3_159 vX3_readFirst hk0 rfl rfl hl.1 (Nat.le_of_ble_eq_true rfl) ⟨Nat.le_of_ble_eq_true rfl, Nat.le_of_ble_eq_true rfl⟩ dX3_readPerson_17 ⟨Nat.le_of_ble_eq_true rfl, Nat.le_of_ble_eq_true rfl⟩ (fun _ σ_4 H locs h1 hZ => ?_)
  refine lv_aload_n hx hb dX3_readPerson_20 rfl (lv_at hl 1 rfl) ?_
  refine z_getr C0 hZ (zkt5_1 hq_2) fRX3_204 rfl dX3_readPerson_21 ?_
  refine lv_iload_n hx hb dX3_readPerson_24 rfl (lv_at hl 0 rfl) ?_
  refine lv_iload_n hx hb dX3_readPerson_25 rfl (lv_at hl 3 rfl) ?_
  refine z_cSv (As := [.ref (zad V ((q_2 + 7) + 1)), .int x3_3, .int x1]) (rest := []) C0 hZ h1 (fun _ hf => kX7_put l (zkt2_1 (zkt5_1 hq_2)) hf) mRX3_207 sX7_put rfl rfl hl.1 (Nat.le_of_ble_eq_true rfl) ⟨Nat.le_of_ble_eq_true rfl, Nat.le_of_ble_eq_true rfl⟩ dX3_readPerson_26 ⟨Nat.le_of_ble_eq_true rfl, Nat.le_of_ble_eq_true rfl⟩ (fun _ σ_6 H locs h1 hZ => ?_)
  refine lv_aload_n hx hb dX3_readPerson_29 rfl (lv_at hl 1 rfl) ?_
  refine z_getr C0 hZ (zkt5_1 hq_2) fRX3_211 rfl dX3_readPerson_30 ?_
  refine lv_iload_n hx hb dX3_readPerson_33 rfl (lv_at hl 0 rfl) ?_
  refine lv_aload_n hx hb dX3_readPerson_34 rfl (lv_at hl 2 rfl) ?_
  refine lv_iconst (v := 1) hx hb dX3_readPerson_35 (by decide) ?_
  refine lv_bipush (v := 60) hx hb dX3_readPerson_36 (by decide) ?_
  refine z_cVi (As := [.int 1, .int 60]) (rest := [.int x3_3, .ref (zad V ((q_2 + 7) + 2))]) C0 hZ h1 (fun _ hf => kX3_readNumber l hk0 hf) mRX3_163 vX3_readNumber hk0 rfl rfl hl.1 (Nat.le_of_ble_eq_true rfl) ⟨Nat.le_of_ble_eq_true rfl, Nat.le_of_ble_eq_true rfl⟩ dX3_readPerson_38 ⟨Nat.le_of_ble_eq_true rfl, Nat.le_of_ble_eq_true rfl⟩ (fun r_9 σ_8 H locs h1 hZ => ?_)
  refine z_cSv (As := [.ref (zad V ((q_2 + 7) + 2)), .int x3_3, .int r_9]) (rest := []) C0 hZ h1 (fun _ hf => kX7_put l (zkt2_2 (zkt5_1 hq_2)) hf) mRX3_207 sX7_put rfl rfl hl.1 (Nat.le_of_ble_eq_true rfl) ⟨Nat.le_of_ble_eq_true rfl, Nat.le_of_ble_eq_true rfl⟩ dX3_readPerson_41 ⟨Nat.le_of_ble_eq_true rfl, Nat.le_of_ble_eq_true rfl⟩ (fun _ σ_10 H locs h1 hZ => ?_)
  refine lv_aload_n hx hb dX3_readPerson_44 rfl (lv_at hl 2 rfl) ?_
  refine lv_iconst (v := 0) hx hb dX3_readPerson_45 (by decide) ?_
  refine lv_bipush (v := 12) hx hb dX3_readPerson_46 (by decide) ?_
  refine z_cVi (As := [.int 0, .int 12]) (rest := []) C0 hZ h1 (fun _ hf => kX3_readNumber l hk0 hf) mRX3_163 vX3_readNumber hk0 rfl rfl hl.1 (Nat.le_of_ble_eq_true rfl) ⟨Nat.le_of_ble_eq_true rfl, Nat.le_of_ble_eq_true rfl⟩ dX3_readPerson_48 ⟨Nat.le_of_ble_eq_true rfl, Nat.le_of_ble_eq_true rfl⟩ (fun r_13 σ_12 H locs h1 hZ => ?_)
  refine z_istore C0 h1 hl (fun x4_14 => [(4, .int x4_14), (3, .int x3_3), (2, .ref (zad V (q_2 + 7))), (0, .ref (zad V k0)), (1, .int x1)]) dX3_readPerson_51 (by decide) (fun _ => rfl) (fun x4_14 ls h1 hl => ?_)
  refine lv_aload_n hx hb dX3_readPerson_53 rfl (lv_at hl 2 rfl) ?_
  refine z_getr C0 hZ (zkt5_1 hq_2) fRX3_214 rfl dX3_readPerson_54 ?_
  refine lv_iload_n hx hb dX3_readPerson_57 rfl (lv_at hl 1 rfl) ?_
  refine lv_iload hx hb dX3_readPerson_58 (lv_at hl 0 rfl) ?_
  refine z_cSv (As := [.ref (zad V ((q_2 + 7) + 3)), .int x3_3, .int x4_14]) (rest := []) C0 hZ h1 (fun _ hf => kX7_put l (zkt2_3 (zkt5_1 hq_2)) hf) mRX3_207 sX7_put rfl rfl hl.1 (Nat.le_of_ble_eq_true rfl) ⟨Nat.le_of_ble_eq_true rfl, Nat.le_of_ble_eq_true rfl⟩ dX3_readPerson_60 ⟨Nat.le_of_ble_eq_true rfl, Nat.le_of_ble_eq_true rfl⟩ (fun _ σ_15 H locs h1 hZ => ?_)
  refine lv_aload_n hx hb dX3_readPerson_63 rfl (lv_at hl 2 rfl) ?_
  refine z_getr C0 hZ (zkt5_1 hq_2) fRX3_217 rfl dX3_readPerson_64 ?_
  refine lv_iload_n hx hb dX3_readPerson_67 rfl (lv_at hl 1 rfl) ?_
  refine lv_aload_n hx hb dX3_readPerson_68 rfl (lv_at hl 3 rfl) ?_
  refine lv_iconst (v := 0) hx hb dX3_readPerson_69 (by decide) ?_
  refine lv_bipush (v := 9) hx hb dX3_readPerson_70 (by decide) ?_
  refine z_cVi (As := [.int 0, .int 9]) (rest := [.int x3_3, .ref (zad V ((q_2 + 7) + 4))]) C0 hZ h1 (fun _ hf => kX3_readNumber l hk0 hf) mRX3_163 vX3_readNumber hk0 rfl rfl hl.1 (Nat.le_of_ble_eq_true rfl) ⟨Nat.le_of_ble_eq_true rfl, Nat.le_of_ble_eq_true rfl⟩ dX3_readPerson_72 ⟨Nat.le_of_ble_eq_true rfl, Nat.le_of_ble_eq_true rfl⟩ (fun r_18 σ_17 H locs h1 hZ => ?_)
  refine z_cSv (As := [.ref (zad V ((q_2 + 7) + 4)), .int x3_3, .int r_18]) (rest := []) C0 hZ h1 (fun _ hf => kX7_put l (zkt2_4 (zkt5_1 hq_2)) hf) mRX3_207 sX7_put rfl rfl hl.1 (Nat.le_of_ble_eq_true rfl) ⟨Nat.le_of_ble_eq_true rfl, Nat.le_of_ble_eq_true rfl⟩ dX3_readPerson_75 ⟨Nat.le_of_ble_eq_true rfl, Nat.le_of_ble_eq_true rfl⟩ (fun _ σ_19 H locs h1 hZ => ?_)
  refine lv_aload_n hx hb dX3_readPerson_78 rfl (lv_at hl 3 rfl) ?_
  refine lv_iload_n hx hb dX3_readPerson_79 rfl (lv_at hl 1 rfl) ?_
  refine z_cVi (As := [.int x3_3]) (rest := []) C0 hZ h1 (fun _ hf => kX3_readRoute l hk0 hf) mRX3_220 vX3_readRoute hk0 rfl rfl hl.1 (Nat.le_of_ble_eq_true rfl) ⟨Nat.le_of_ble_eq_true rfl, Nat.le_of_ble_eq_true rfl⟩ dX3_readPerson_80 ⟨Nat.le_of_ble_eq_true rfl, Nat.le_of_ble_eq_true rfl⟩ (fun r_22 σ_21 H locs h1 hZ => ?_)
  refine z_istore C0 h1 hl (fun x5_23 => [(5, .int x5_23), (4, .int x4_14), (3, .int x3_3), (2, .ref (zad V (q_2 + 7))), (0, .ref (zad V k0)), (1, .int x1)]) dX3_readPerson_83 (by decide) (fun _ => rfl) (fun x5_23 ls h1 hl => ?_)
  refine lv_aload_n hx hb dX3_readPerson_85 rfl (lv_at hl 3 rfl) ?_
  refine z_getr C0 hZ (zkt5_1 hq_2) fRX3_224 rfl dX3_readPerson_86 ?_
  refine lv_iload_n hx hb dX3_readPerson_89 rfl (lv_at hl 2 rfl) ?_
  refine lv_iload hx hb dX3_readPerson_90 (lv_at hl 0 rfl) ?_
  refine z_cSv (As := [.ref (zad V ((q_2 + 7) + 5)), .int x3_3, .int x5_23]) (rest := []) C0 hZ h1 (fun _ hf => kX7_put l (zkt2_5 (zkt5_1 hq_2)) hf) mRX3_207 sX7_put rfl rfl hl.1 (Nat.le_of_ble_eq_true rfl) ⟨Nat.le_of_ble_eq_true rfl, Nat.le_of_ble_eq_true rfl⟩ dX3_readPerson_92 ⟨Nat.le_of_ble_eq_true rfl, Nat.le_of_ble_eq_true rfl⟩ (fun _ σ_24 H locs h1 hZ => ?_)
  refine lv_iload hx hb dX3_readPerson_95 (lv_at hl 0 rfl) ?_
  refine z_if_ne (tgt := 108) C0 h1 dX3_readPerson_97 (by decide) (fun h1 => ?_) (fun h1 => ?_)
  · refine lv_iload hx hb dX3_readPerson_108 (lv_at hl 1 rfl) ?_
    refine lv_iload hx hb dX3_readPerson_110 (lv_at hl 0 rfl) ?_
    refine z_ic_le (tgt := 121) C0 h1 dX3_readPerson_112 (by decide) (fun h1 => ?_) (fun h1 => ?_)
    · exact J121 (q_2 + 7) _ _ _ _ (zkt5_1 hq_2) hZ (lv_sub hl [4, 3] rfl) h1
    refine lv_aload_n hx hb dX3_readPerson_115 rfl (lv_at hl 4 rfl) ?_
    refine lv_bipush (v := 6) hx hb dX3_readPerson_116 (by decide) ?_
    refine z_cVv (As := [.int 6]) (rest := []) C0 hZ h1 (fun _ hf => kX3_fail l hk0 hf) mRX3_136 vX3_fail hk0 rfl rfl hl.1 (Nat.le_of_ble_eq_true rfl) ⟨Nat.le_of_ble_eq_true rfl, Nat.le_of_ble_eq_true rfl⟩ dX3_readPerson_118 ⟨Nat.le_of_ble_eq_true rfl, Nat.le_of_ble_eq_true rfl⟩ (fun _ σ_26 H locs h1 hZ => ?_)
    exact J121 (q_2 + 7) _ _ _ _ (zkt5_1 hq_2) hZ (lv_sub hl [4, 3] rfl) h1
  refine lv_aload_n hx hb dX3_readPerson_100 rfl (lv_at hl 4 rfl) ?_
  refine lv_iconst (v := 1) hx hb dX3_readPerson_101 (by decide) ?_
  refine z_cVv (As := [.int 1]) (rest := []) C0 hZ h1 (fun _ hf => kX3_fail l hk0 hf) mRX3_136 vX3_fail hk0 rfl rfl hl.1 (Nat.le_of_ble_eq_true rfl) ⟨Nat.le_of_ble_eq_true rfl, Nat.le_of_ble_eq_true rfl⟩ dX3_readPerson_102 ⟨Nat.le_of_ble_eq_true rfl, Nat.le_of_ble_eq_true rfl⟩ (fun _ σ_28 H locs h1 hZ => ?_)
  refine lv_goto (tgt := 121) hx hb dX3_readPerson_105 (by decide) ?_
  exact J121 (q_2 + 7) _ _ _ _ (zkt5_1 hq_2) hZ (lv_sub hl [4, 3] rfl) h1
noncomputable def FX3_readAisle_b52  (σ : zS) : Option (Int32 × zS) := some (0, σ)
noncomputable def FX3_readAisle (k0 : Nat) (σ : zS) : Option (Int32 × zS) := zgd (kd 0 (σ k0 1).toNatClampNeg == 5) (zlet (σ k0 1).toNatClampNeg (fun q_1 => zbd (FX3_readFirst k0 (σ (q_1 + 1) 0) 10 σ) (fun _ σ_2 => zbd (FX3_readNumber k0 0 999 σ_2) (fun r_5 σ_4 => zlet r_5 (fun x1_6 => zbd (FX3_readNumber k0 0 99 σ_4) (fun r_8 σ_7 => zlet r_8 (fun x2_9 => if (σ_7 k0 8) = 0 then zgd (kd 0 (σ_7 k0 1).toNatClampNeg == 5) (zlet (σ_7 k0 1).toNatClampNeg (fun q_10 => zbd (FX1_addAisle (q_10 + 1) x1_6 x2_9 σ_7) (fun _ σ_11 => FX3_readAisle_b52  σ_11))) else FX3_readAisle_b52  σ_7)))))))
set_option maxHeartbeats 4000000 in
set_option maxRecDepth 100000 in
theorem kX3_readAisle (l : Launch) {V : zV} {σ : zS} {t0 : Int32 × zS} {k0 : Nat} (hk0 : kd 0 k0 = 3) (h1 : FX3_readAisle k0 σ = some t0) : zMv l yX3_readAisle cX3_readAisle 3 3 66 0 V σ t0 [.ref (zad V k0)] := by
  refine zMv_of (by decide) (Nat.le_of_ble_eq_true rfl) ?_
  intro p e s m below meth c A C0 hr hlk hZ ls hl
  generalize ([.ref (zad V k0)] : List Value).toArray = args at C0 ⊢
  obtain ⟨Q, hQ⟩ : ∃ Q, Q = MQ below (zQv 0 V t0 A) args s 0 0 A := ⟨_, rfl⟩
  rw [← hQ]
  have hx := C0.1
  have hb := C0.2.1
  have hl : lv_has ls 3 [(0, .ref (zad V k0))] := hl
  unfold FX3_readAisle at h1
  have J52 : ∀  (σ : zS) (H : Heap) (locs : List Loc) (ls : Array Slot), zZ 0 V A σ s H locs → lv_has ls 3 [] → FX3_readAisle_b52  σ = some t0 → W p l e (zrm 3 66) s m args below meth c H locs 0 0 Q (F0 m 52 ls []) := by
    intro  σ H locs ls  hZ hl h1
    unfold FX3_readAisle_b52 at h1
    rw [hQ]; exact z_vret C0 hr hlk hZ h1 dX3_readAisle_52
  refine lv_aload_n hx hb dX3_readAisle_0 rfl (lv_at hl 0 rfl) ?_
  refine lv_aload_n hx hb dX3_readAisle_1 rfl (lv_at hl 0 rfl) ?_
  refine z_getm C0 hZ h1 hk0 fRX3_18 rfl dX3_readAisle_2 (fun q_1 hq_1 h1 => ?_)
  refine z_getr C0 hZ hq_1 fRX3_56 rfl dX3_readAisle_5 ?_
  refine z_geti C0 hZ (zkt5_0 hq_1) fRX3_156 rfl dX3_readAisle_8 ?_
  refine lv_bipush (v := 10) hx hb dX3_readAisle_11 (by decide) ?_
  refine z_cVv (As := [.int (σ (q_1 + 1) 0), .int 10]) (rest := []) C0 hZ h1 (fun _ hf => kX3_readFirst l hk0 hf) mRX3_159 vX3_readFirst hk0 rfl rfl hl.1 (Nat.le_of_ble_eq_true rfl) ⟨Nat.le_of_ble_eq_true rfl, Nat.le_of_ble_eq_true rfl⟩ dX3_readAisle_13 ⟨Nat.le_of_ble_eq_true rfl, Nat.le_of_ble_eq_true rfl⟩ (fun _ σ_2 H locs h1 hZ => ?_)
  refine lv_aload_n hx hb dX3_readAisle_16 rfl (lv_at hl 0 rfl) ?_
  refine lv_iconst (v := 0) hx hb dX3_readAisle_17 (by decide) ?_
  refine lv_sipush (v := 999) hx hb dX3_readAisle_18 (by decide) ?_
  refine z_cVi (As := [.int 0, .int 999]) (rest := []) C0 hZ h1 (fun _ hf => kX3_readNumber l hk0 hf) mRX3_163 vX3_readNumber hk0 rfl rfl hl.1 (Nat.le_of_ble_eq_true rfl) ⟨Nat.le_of_ble_eq_true rfl, Nat.le_of_ble_eq_true rfl⟩ dX3_readAisle_21 ⟨Nat.le_of_ble_eq_true rfl, Nat.le_of_ble_eq_true rfl⟩ (fun r_5 σ_4 H locs h1 hZ => ?_)
  refine z_istore_n C0 h1 hl (fun x1_6 => [(1, .int x1_6), (0, .ref (zad V k0))]) dX3_readAisle_24 rfl (by decide) (fun _ => rfl) (fun x1_6 ls h1 hl => ?_)
  refine lv_aload_n hx hb dX3_readAisle_25 rfl (lv_at hl 1 rfl) ?_
  refine lv_iconst (v := 0) hx hb dX3_readAisle_26 (by decide) ?_
  refine lv_bipush (v := 99) hx hb dX3_readAisle_27 (by decide) ?_
  refine z_cVi (As := [.int 0, .int 99]) (rest := []) C0 hZ h1 (fun _ hf => kX3_readNumber l hk0 hf) mRX3_163 vX3_readNumber hk0 rfl rfl hl.1 (Nat.le_of_ble_eq_true rfl) ⟨Nat.le_of_ble_eq_true rfl, Nat.le_of_ble_eq_true rfl⟩ dX3_readAisle_29 ⟨Nat.le_of_ble_eq_true rfl, Nat.le_of_ble_eq_true rfl⟩ (fun r_8 σ_7 H locs h1 hZ => ?_)
  refine z_istore_n C0 h1 hl (fun x2_9 => [(2, .int x2_9), (1, .int x1_6), (0, .ref (zad V k0))]) dX3_readAisle_32 rfl (by decide) (fun _ => rfl) (fun x2_9 ls h1 hl => ?_)
  refine lv_aload_n hx hb dX3_readAisle_33 rfl (lv_at hl 2 rfl) ?_
  refine z_geti C0 hZ hk0 fRX3_41 rfl dX3_readAisle_34 ?_
  refine z_if_ne (tgt := 52) C0 h1 dX3_readAisle_37 (by decide) (fun h1 => ?_) (fun h1 => ?_)
  · exact J52  _ _ _ _  hZ (lv_sub hl [] rfl) h1
  refine lv_aload_n hx hb dX3_readAisle_40 rfl (lv_at hl 2 rfl) ?_
  refine z_getm C0 hZ h1 hk0 fRX3_18 rfl dX3_readAisle_41 (fun q_10 hq_10 h1 => ?_)
  refine z_getr C0 hZ hq_10 fRX3_56 rfl dX3_readAisle_44 ?_
  refine lv_iload_n hx hb dX3_readAisle_47 rfl (lv_at hl 1 rfl) ?_
  refine lv_iload_n hx hb dX3_readAisle_48 rfl (lv_at hl 0 rfl) ?_
  refine z_cVv (As := [.int x1_6, .int x2_9]) (rest := []) C0 hZ h1 (fun _ hf => kX1_addAisle l (zkt5_0 hq_10) hf) mRX3_167 vX1_addAisle (zkt5_0 hq_10) rfl rfl hl.1 (Nat.le_of_ble_eq_true rfl) ⟨Nat.le_of_ble_eq_true rfl, Nat.le_of_ble_eq_true rfl⟩ dX3_readAisle_49 ⟨Nat.le_of_ble_eq_true rfl, Nat.le_of_ble_eq_true rfl⟩ (fun _ σ_11 H locs h1 hZ => ?_)
  exact J52  _ _ _ _  hZ (lv_sub hl [] rfl) h1
noncomputable def FX3_readWay_b78  (σ : zS) : Option (Int32 × zS) := some (0, σ)
noncomputable def FX3_readWay_b55 (k0 : Nat) (x1 : Int32) (x2 : Int32) (σ : zS) : Option (Int32 × zS) := if (σ k0 8) = 0 then zgd (kd 0 (σ k0 1).toNatClampNeg == 5) (zlet (σ k0 1).toNatClampNeg (fun q_1 => zbd (FX1_addWay (q_1 + 1) x1 x2 σ) (fun _ σ_2 => zbd (FX3_readToken k0 σ_2) (fun _ σ_4 => FX3_readWay_b78  σ_4)))) else FX3_readWay_b78  σ
noncomputable def FX3_readWay_b50 (k0 : Nat) (x1 : Int32) (x2 : Int32) (σ : zS) : Option (Int32 × zS) := zbd (FX3_fail k0 4 σ) (fun _ σ_6 => FX3_readWay_b55 k0 x1 x2 σ_6)
noncomputable def FX3_readWay (k0 : Nat) (σ : zS) : Option (Int32 × zS) := zgd (kd 0 (σ k0 1).toNatClampNeg == 5) (zlet (σ k0 1).toNatClampNeg (fun q_8 => zbd (FX3_readFirst k0 (σ (q_8 + 1) 1) 16 σ) (fun _ σ_9 => zbd (FX3_aisleHere k0 σ_9) (fun r_12 σ_11 => zlet r_12 (fun x1_13 => zbd (FX3_readToken k0 σ_11) (fun _ σ_14 => zbd (FX3_aisleHere k0 σ_14) (fun r_17 σ_16 => zlet r_17 (fun x2_18 => if x1_13 = x2_18 then FX3_readWay_b50 k0 x1_13 x2_18 σ_16 else zgd (kd 0 (σ_16 k0 1).toNatClampNeg == 5) (zlet (σ_16 k0 1).toNatClampNeg (fun q_19 => zbd (FX1_joins (q_19 + 1) x1_13 x2_18 σ_16) (fun r_21 σ_20 => if r_21 = 0 then FX3_readWay_b55 k0 x1_13 x2_18 σ_20 else FX3_readWay_b50 k0 x1_13 x2_18 σ_20)))))))))))
set_option maxHeartbeats 4000000 in
set_option maxRecDepth 100000 in
theorem kX3_readWay (l : Launch) {V : zV} {σ : zS} {t0 : Int32 × zS} {k0 : Nat} (hk0 : kd 0 k0 = 3) (h1 : FX3_readWay k0 σ = some t0) : zMv l yX3_readWay cX3_readWay 3 3 65 0 V σ t0 [.ref (zad V k0)] := by
  refine zMv_of (by decide) (Nat.le_of_ble_eq_true rfl) ?_
  intro p e s m below meth c A C0 hr hlk hZ ls hl
  generalize ([.ref (zad V k0)] : List Value).toArray = args at C0 ⊢
  obtain ⟨Q, hQ⟩ : ∃ Q, Q = MQ below (zQv 0 V t0 A) args s 0 0 A := ⟨_, rfl⟩
  rw [← hQ]
  have hx := C0.1
  have hb := C0.2.1
  have hl : lv_has ls 3 [(0, .ref (zad V k0))] := hl
  unfold FX3_readWay at h1
  have J78 : ∀  (σ : zS) (H : Heap) (locs : List Loc) (ls : Array Slot), zZ 0 V A σ s H locs → lv_has ls 3 [] → FX3_readWay_b78  σ = some t0 → W p l e (zrm 3 65) s m args below meth c H locs 0 0 Q (F0 m 78 ls []) := by
    intro  σ H locs ls  hZ hl h1
    unfold FX3_readWay_b78 at h1
    rw [hQ]; exact z_vret C0 hr hlk hZ h1 dX3_readWay_78
  have J55 : ∀ (x1 : Int32) (x2 : Int32) (σ : zS) (H : Heap) (locs : List Loc) (ls : Array Slot), zZ 0 V A σ s H locs → lv_has ls 3 [(0, .ref (zad V k0)), (1, .int x1), (2, .int x2)] → FX3_readWay_b55 k0 x1 x2 σ = some t0 → W p l e (zrm 3 65) s m args below meth c H locs 0 0 Q (F0 m 55 ls []) := by
    intro x1 x2 σ H locs ls  hZ hl h1
    unfold FX3_readWay_b55 at h1
    refine lv_aload_n hx hb dX3_readWay_55 rfl (lv_at hl 0 rfl) ?_
    refine z_geti C0 hZ hk0 fRX3_41 rfl dX3_readWay_56 ?_
    refine z_if_ne (tgt := 78) C0 h1 dX3_readWay_59 (by decide) (fun h1 => ?_) (fun h1 => ?_)
    · exact J78  _ _ _ _  hZ (lv_sub hl [] rfl) h1
    refine lv_aload_n hx hb dX3_readWay_62 rfl (lv_at hl 0 rfl) ?_
    refine z_getm C0 hZ h1 hk0 fRX3_18 rfl dX3_readWay_63 (fun q_1 hq_1 h1 => ?_)
    refine z_getr C0 hZ hq_1 fRX3_56 rfl dX3_readWay_66 ?_
    refine lv_iload_n hx hb dX3_readWay_69 rfl (lv_at hl 1 rfl) ?_
    refine lv_iload_n hx hb dX3_readWay_70 rfl (lv_at hl 2 rfl) ?_
    refine z_cVv (As := [.int x1, .int x2]) (rest := []) C0 hZ h1 (fun _ hf => kX1_addWay l (zkt5_0 hq_1) hf) mRX3_180 vX1_addWay (zkt5_0 hq_1) rfl rfl hl.1 (Nat.le_of_ble_eq_true rfl) ⟨Nat.le_of_ble_eq_true rfl, Nat.le_of_ble_eq_true rfl⟩ dX3_readWay_71 ⟨Nat.le_of_ble_eq_true rfl, Nat.le_of_ble_eq_true rfl⟩ (fun _ σ_2 H locs h1 hZ => ?_)
    refine lv_aload_n hx hb dX3_readWay_74 rfl (lv_at hl 0 rfl) ?_
    refine z_cVv (As := []) (rest := []) C0 hZ h1 (fun _ hf => kX3_readToken l hk0 hf) mRX3_50 vX3_readToken hk0 rfl rfl hl.1 (Nat.le_of_ble_eq_true rfl) ⟨Nat.le_of_ble_eq_true rfl, Nat.le_of_ble_eq_true rfl⟩ dX3_readWay_75 ⟨Nat.le_of_ble_eq_true rfl, Nat.le_of_ble_eq_true rfl⟩ (fun _ σ_4 H locs h1 hZ => ?_)
    exact J78  _ _ _ _  hZ (lv_sub hl [] rfl) h1
  have J50 : ∀ (x1 : Int32) (x2 : Int32) (σ : zS) (H : Heap) (locs : List Loc) (ls : Array Slot), zZ 0 V A σ s H locs → lv_has ls 3 [(0, .ref (zad V k0)), (1, .int x1), (2, .int x2)] → FX3_readWay_b50 k0 x1 x2 σ = some t0 → W p l e (zrm 3 65) s m args below meth c H locs 0 0 Q (F0 m 50 ls []) := by
    intro x1 x2 σ H locs ls  hZ hl h1
    unfold FX3_readWay_b50 at h1
    refine lv_aload_n hx hb dX3_readWay_50 rfl (lv_at hl 0 rfl) ?_
    refine lv_iconst (v := 4) hx hb dX3_readWay_51 (by decide) ?_
    refine z_cVv (As := [.int 4]) (rest := []) C0 hZ h1 (fun _ hf => kX3_fail l hk0 hf) mRX3_136 vX3_fail hk0 rfl rfl hl.1 (Nat.le_of_ble_eq_true rfl) ⟨Nat.le_of_ble_eq_true rfl, Nat.le_of_ble_eq_true rfl⟩ dX3_readWay_52 ⟨Nat.le_of_ble_eq_true rfl, Nat.le_of_ble_eq_true rfl⟩ (fun _ σ_6 H locs h1 hZ => ?_)
    exact J55 x1 x2 _ _ _ _  hZ (lv_sub hl [0, 1, 2] rfl) h1
  refine lv_aload_n hx hb dX3_readWay_0 rfl (lv_at hl 0 rfl) ?_
  refine lv_aload_n hx hb dX3_readWay_1 rfl (lv_at hl 0 rfl) ?_
  refine z_getm C0 hZ h1 hk0 fRX3_18 rfl dX3_readWay_2 (fun q_8 hq_8 h1 => ?_)
  refine z_getr C0 hZ hq_8 fRX3_56 rfl dX3_readWay_5 ?_
  refine z_geti C0 hZ (zkt5_0 hq_8) fRX3_170 rfl dX3_readWay_8 ?_
  refine lv_bipush (v := 16) hx hb dX3_readWay_11 (by decide) ?_
  refine z_cVv (As := [.int (σ (q_8 + 1) 1), .int 16]) (rest := []) C0 hZ h1 (fun _ hf => kX3_readFirst l hk0 hf) mRX3_159 vX3_readFirst hk0 rfl rfl hl.1 (Nat.le_of_ble_eq_true rfl) ⟨Nat.le_of_ble_eq_true rfl, Nat.le_of_ble_eq_true rfl⟩ dX3_readWay_13 ⟨Nat.le_of_ble_eq_true rfl, Nat.le_of_ble_eq_true rfl⟩ (fun _ σ_9 H locs h1 hZ => ?_)
  refine lv_aload_n hx hb dX3_readWay_16 rfl (lv_at hl 0 rfl) ?_
  refine z_cVi (As := []) (rest := []) C0 hZ h1 (fun _ hf => kX3_aisleHere l hk0 hf) mRX3_173 vX3_aisleHere hk0 rfl rfl hl.1 (Nat.le_of_ble_eq_true rfl) ⟨Nat.le_of_ble_eq_true rfl, Nat.le_of_ble_eq_true rfl⟩ dX3_readWay_17 ⟨Nat.le_of_ble_eq_true rfl, Nat.le_of_ble_eq_true rfl⟩ (fun r_12 σ_11 H locs h1 hZ => ?_)
  refine z_istore_n C0 h1 hl (fun x1_13 => [(1, .int x1_13), (0, .ref (zad V k0))]) dX3_readWay_20 rfl (by decide) (fun _ => rfl) (fun x1_13 ls h1 hl => ?_)
  refine lv_aload_n hx hb dX3_readWay_21 rfl (lv_at hl 1 rfl) ?_
  refine z_cVv (As := []) (rest := []) C0 hZ h1 (fun _ hf => kX3_readToken l hk0 hf) mRX3_50 vX3_readToken hk0 rfl rfl hl.1 (Nat.le_of_ble_eq_true rfl) ⟨Nat.le_of_ble_eq_true rfl, Nat.le_of_ble_eq_true rfl⟩ dX3_readWay_22 ⟨Nat.le_of_ble_eq_true rfl, Nat.le_of_ble_eq_true rfl⟩ (fun _ σ_14 H locs h1 hZ => ?_)
  refine lv_aload_n hx hb dX3_readWay_25 rfl (lv_at hl 1 rfl) ?_
  refine z_cVi (As := []) (rest := []) C0 hZ h1 (fun _ hf => kX3_aisleHere l hk0 hf) mRX3_173 vX3_aisleHere hk0 rfl rfl hl.1 (Nat.le_of_ble_eq_true rfl) ⟨Nat.le_of_ble_eq_true rfl, Nat.le_of_ble_eq_true rfl⟩ dX3_readWay_26 ⟨Nat.le_of_ble_eq_true rfl, Nat.le_of_ble_eq_true rfl⟩ (fun r_17 σ_16 H locs h1 hZ => ?_)
  refine z_istore_n C0 h1 hl (fun x2_18 => [(2, .int x2_18), (1, .int x1_13), (0, .ref (zad V k0))]) dX3_readWay_29 rfl (by decide) (fun _ => rfl) (fun x2_18 ls h1 hl => ?_)
  refine lv_iload_n hx hb dX3_readWay_30 rfl (lv_at hl 1 rfl) ?_
  refine lv_iload_n hx hb dX3_readWay_31 rfl (lv_at hl 0 rfl) ?_
  refine z_ic_eq (tgt := 50) C0 h1 dX3_readWay_32 (by decide) (fun h1 => ?_) (fun h1 => ?_)
  · exact J50 x1_13 x2_18 _ _ _ _  hZ (lv_sub hl [2, 1, 0] rfl) h1
  refine lv_aload_n hx hb dX3_readWay_35 rfl (lv_at hl 2 rfl) ?_
  refine z_getm C0 hZ h1 hk0 fRX3_18 rfl dX3_readWay_36 (fun q_19 hq_19 h1 => ?_)
  refine z_getr C0 hZ hq_19 fRX3_56 rfl dX3_readWay_39 ?_
  refine lv_iload_n hx hb dX3_readWay_42 rfl (lv_at hl 1 rfl) ?_
  refine lv_iload_n hx hb dX3_readWay_43 rfl (lv_at hl 0 rfl) ?_
  refine z_cVi (As := [.int x1_13, .int x2_18]) (rest := []) C0 hZ h1 (fun _ hf => kX1_joins l (zkt5_0 hq_19) hf) mRX3_176 vX1_joins (zkt5_0 hq_19) rfl rfl hl.1 (Nat.le_of_ble_eq_true rfl) ⟨Nat.le_of_ble_eq_true rfl, Nat.le_of_ble_eq_true rfl⟩ dX3_readWay_44 ⟨Nat.le_of_ble_eq_true rfl, Nat.le_of_ble_eq_true rfl⟩ (fun r_21 σ_20 H locs h1 hZ => ?_)
  refine z_if_eq (tgt := 55) C0 h1 dX3_readWay_47 (by decide) (fun h1 => ?_) (fun h1 => ?_)
  · exact J55 x1_13 x2_18 _ _ _ _  hZ (lv_sub hl [2, 1, 0] rfl) h1
  exact J50 x1_13 x2_18 _ _ _ _  hZ (lv_sub hl [2, 1, 0] rfl) h1
noncomputable def FX3_readMirror_b84  (σ : zS) : Option (Int32 × zS) := some (0, σ)
noncomputable def FX3_readMirror_b61 (k0 : Nat) (x1 : Int32) (x2 : Int32) (σ : zS) : Option (Int32 × zS) := if (σ k0 8) = 0 then zgd (kd 0 (σ k0 1).toNatClampNeg == 5) (zlet (σ k0 1).toNatClampNeg (fun q_1 => zbd (FX1_addMirror (q_1 + 1) x1 x2 σ) (fun _ σ_2 => zbd (FX3_readToken k0 σ_2) (fun _ σ_4 => FX3_readMirror_b84  σ_4)))) else FX3_readMirror_b84  σ
noncomputable def FX3_readMirror_b56 (k0 : Nat) (x1 : Int32) (x2 : Int32) (σ : zS) : Option (Int32 × zS) := zbd (FX3_fail k0 4 σ) (fun _ σ_6 => FX3_readMirror_b61 k0 x1 x2 σ_6)
noncomputable def FX3_readMirror (k0 : Nat) (σ : zS) : Option (Int32 × zS) := zgd (kd 0 (σ k0 1).toNatClampNeg == 5) (zlet (σ k0 1).toNatClampNeg (fun q_8 => zbd (FX3_readFirst k0 (σ (q_8 + 1) 2) 6 σ) (fun _ σ_9 => zbd (FX3_aisleHere k0 σ_9) (fun r_12 σ_11 => zlet r_12 (fun x1_13 => zbd (FX3_readToken k0 σ_11) (fun _ σ_14 => zbd (FX3_aisleHere k0 σ_14) (fun r_17 σ_16 => zlet r_17 (fun x2_18 => if x1_13 = x2_18 then FX3_readMirror_b56 k0 x1_13 x2_18 σ_16 else zgd (kd 0 (σ_16 k0 1).toNatClampNeg == 5) (zlet (σ_16 k0 1).toNatClampNeg (fun q_19 => zbd (FX7_at ((q_19 + 1) + 4) x1_13 σ_16) (fun r_21 σ_20 => zbd (FX7_holds r_21 x2_18 σ_20) (fun r_23 σ_22 => if r_23 = 0 then FX3_readMirror_b61 k0 x1_13 x2_18 σ_22 else FX3_readMirror_b56 k0 x1_13 x2_18 σ_22))))))))))))
set_option maxHeartbeats 4000000 in
set_option maxRecDepth 100000 in
theorem kX3_readMirror (l : Launch) {V : zV} {σ : zS} {t0 : Int32 × zS} {k0 : Nat} (hk0 : kd 0 k0 = 3) (h1 : FX3_readMirror k0 σ = some t0) : zMv l yX3_readMirror cX3_readMirror 3 3 65 0 V σ t0 [.ref (zad V k0)] := by
  refine zMv_of (by decide) (Nat.le_of_ble_eq_true rfl) ?_
  intro p e s m below meth c A C0 hr hlk hZ ls hl
  generalize ([.ref (zad V k0)] : List Value).toArray = args at C0 ⊢
  obtain ⟨Q, hQ⟩ : ∃ Q, Q = MQ below (zQv 0 V t0 A) args s 0 0 A := ⟨_, rfl⟩
  rw [← hQ]
  have hx := C0.1
  have hb := C0.2.1
  have hl : lv_has ls 3 [(0, .ref (zad V k0))] := hl
  unfold FX3_readMirror at h1
  have J84 : ∀  (σ : zS) (H : Heap) (locs : List Loc) (ls : Array Slot), zZ 0 V A σ s H locs → lv_has ls 3 [] → FX3_readMirror_b84  σ = some t0 → W p l e (zrm 3 65) s m args below meth c H locs 0 0 Q (F0 m 84 ls []) := by
    intro  σ H locs ls  hZ hl h1
    unfold FX3_readMirror_b84 at h1
    rw [hQ]; exact z_vret C0 hr hlk hZ h1 dX3_readMirror_84
  have J61 : ∀ (x1 : Int32) (x2 : Int32) (σ : zS) (H : Heap) (locs : List Loc) (ls : Array Slot), zZ 0 V A σ s H locs → lv_has ls 3 [(0, .ref (zad V k0)), (1, .int x1), (2, .int x2)] → FX3_readMirror_b61 k0 x1 x2 σ = some t0 → W p l e (zrm 3 65) s m args below meth c H locs 0 0 Q (F0 m 61 ls []) := by
    intro x1 x2 σ H locs ls  hZ hl h1
    unfold FX3_readMirror_b61 at h1
    refine lv_aload_n hx hb dX3_readMirror_61 rfl (lv_at hl 0 rfl) ?_
    refine z_geti C0 hZ hk0 fRX3_41 rfl dX3_readMirror_62 ?_
    refine z_if_ne (tgt := 84) C0 h1 dX3_readMirror_65 (by decide) (fun h1 => ?_) (fun h1 => ?_)
    · exact J84  _ _ _ _  hZ (lv_sub hl [] rfl) h1
    refine lv_aload_n hx hb dX3_readMirror_68 rfl (lv_at hl 0 rfl) ?_
    refine z_getm C0 hZ h1 hk0 fRX3_18 rfl dX3_readMirror_69 (fun q_1 hq_1 h1 => ?_)
    refine z_getr C0 hZ hq_1 fRX3_56 rfl dX3_readMirror_72 ?_
    refine lv_iload_n hx hb dX3_readMirror_75 rfl (lv_at hl 1 rfl) ?_
    refine lv_iload_n hx hb dX3_readMirror_76 rfl (lv_at hl 2 rfl) ?_
    refine z_cVv (As := [.int x1, .int x2]) (rest := []) C0 hZ h1 (fun _ hf => kX1_addMirror l (zkt5_0 hq_1) hf) mRX3_192 vX1_addMirror (zkt5_0 hq_1) rfl rfl hl.1 (Nat.le_of_ble_eq_true rfl) ⟨Nat.le_of_ble_eq_true rfl, Nat.le_of_ble_eq_true rfl⟩ dX3_readMirror_77 ⟨Nat.le_of_ble_eq_true rfl, Nat.le_of_ble_eq_true rfl⟩ (fun _ σ_2 H locs h1 hZ => ?_)
    refine lv_aload_n hx hb dX3_readMirror_80 rfl (lv_at hl 0 rfl) ?_
    refine z_cVv (As := []) (rest := []) C0 hZ h1 (fun _ hf => kX3_readToken l hk0 hf) mRX3_50 vX3_readToken hk0 rfl rfl hl.1 (Nat.le_of_ble_eq_true rfl) ⟨Nat.le_of_ble_eq_true rfl, Nat.le_of_ble_eq_true rfl⟩ dX3_readMirror_81 ⟨Nat.le_of_ble_eq_true rfl, Nat.le_of_ble_eq_true rfl⟩ (fun _ σ_4 H locs h1 hZ => ?_)
    exact J84  _ _ _ _  hZ (lv_sub hl [] rfl) h1
  have J56 : ∀ (x1 : Int32) (x2 : Int32) (σ : zS) (H : Heap) (locs : List Loc) (ls : Array Slot), zZ 0 V A σ s H locs → lv_has ls 3 [(0, .ref (zad V k0)), (1, .int x1), (2, .int x2)] → FX3_readMirror_b56 k0 x1 x2 σ = some t0 → W p l e (zrm 3 65) s m args below meth c H locs 0 0 Q (F0 m 56 ls []) := by
    intro x1 x2 σ H locs ls  hZ hl h1
    unfold FX3_readMirror_b56 at h1
    refine lv_aload_n hx hb dX3_readMirror_56 rfl (lv_at hl 0 rfl) ?_
    refine lv_iconst (v := 4) hx hb dX3_readMirror_57 (by decide) ?_
    refine z_cVv (As := [.int 4]) (rest := []) C0 hZ h1 (fun _ hf => kX3_fail l hk0 hf) mRX3_136 vX3_fail hk0 rfl rfl hl.1 (Nat.le_of_ble_eq_true rfl) ⟨Nat.le_of_ble_eq_true rfl, Nat.le_of_ble_eq_true rfl⟩ dX3_readMirror_58 ⟨Nat.le_of_ble_eq_true rfl, Nat.le_of_ble_eq_true rfl⟩ (fun _ σ_6 H locs h1 hZ => ?_)
    exact J61 x1 x2 _ _ _ _  hZ (lv_sub hl [0, 1, 2] rfl) h1
  refine lv_aload_n hx hb dX3_readMirror_0 rfl (lv_at hl 0 rfl) ?_
  refine lv_aload_n hx hb dX3_readMirror_1 rfl (lv_at hl 0 rfl) ?_
  refine z_getm C0 hZ h1 hk0 fRX3_18 rfl dX3_readMirror_2 (fun q_8 hq_8 h1 => ?_)
  refine z_getr C0 hZ hq_8 fRX3_56 rfl dX3_readMirror_5 ?_
  refine z_geti C0 hZ (zkt5_0 hq_8) fRX3_183 rfl dX3_readMirror_8 ?_
  refine lv_bipush (v := 6) hx hb dX3_readMirror_11 (by decide) ?_
  refine z_cVv (As := [.int (σ (q_8 + 1) 2), .int 6]) (rest := []) C0 hZ h1 (fun _ hf => kX3_readFirst l hk0 hf) mRX3_159 vX3_readFirst hk0 rfl rfl hl.1 (Nat.le_of_ble_eq_true rfl) ⟨Nat.le_of_ble_eq_true rfl, Nat.le_of_ble_eq_true rfl⟩ dX3_readMirror_13 ⟨Nat.le_of_ble_eq_true rfl, Nat.le_of_ble_eq_true rfl⟩ (fun _ σ_9 H locs h1 hZ => ?_)
  refine lv_aload_n hx hb dX3_readMirror_16 rfl (lv_at hl 0 rfl) ?_
  refine z_cVi (As := []) (rest := []) C0 hZ h1 (fun _ hf => kX3_aisleHere l hk0 hf) mRX3_173 vX3_aisleHere hk0 rfl rfl hl.1 (Nat.le_of_ble_eq_true rfl) ⟨Nat.le_of_ble_eq_true rfl, Nat.le_of_ble_eq_true rfl⟩ dX3_readMirror_17 ⟨Nat.le_of_ble_eq_true rfl, Nat.le_of_ble_eq_true rfl⟩ (fun r_12 σ_11 H locs h1 hZ => ?_)
  refine z_istore_n C0 h1 hl (fun x1_13 => [(1, .int x1_13), (0, .ref (zad V k0))]) dX3_readMirror_20 rfl (by decide) (fun _ => rfl) (fun x1_13 ls h1 hl => ?_)
  refine lv_aload_n hx hb dX3_readMirror_21 rfl (lv_at hl 1 rfl) ?_
  refine z_cVv (As := []) (rest := []) C0 hZ h1 (fun _ hf => kX3_readToken l hk0 hf) mRX3_50 vX3_readToken hk0 rfl rfl hl.1 (Nat.le_of_ble_eq_true rfl) ⟨Nat.le_of_ble_eq_true rfl, Nat.le_of_ble_eq_true rfl⟩ dX3_readMirror_22 ⟨Nat.le_of_ble_eq_true rfl, Nat.le_of_ble_eq_true rfl⟩ (fun _ σ_14 H locs h1 hZ => ?_)
  refine lv_aload_n hx hb dX3_readMirror_25 rfl (lv_at hl 1 rfl) ?_
  refine z_cVi (As := []) (rest := []) C0 hZ h1 (fun _ hf => kX3_aisleHere l hk0 hf) mRX3_173 vX3_aisleHere hk0 rfl rfl hl.1 (Nat.le_of_ble_eq_true rfl) ⟨Nat.le_of_ble_eq_true rfl, Nat.le_of_ble_eq_true rfl⟩ dX3_readMirror_26 ⟨Nat.le_of_ble_eq_true rfl, Nat.le_of_ble_eq_true rfl⟩ (fun r_17 σ_16 H locs h1 hZ => ?_)
  refine z_istore_n C0 h1 hl (fun x2_18 => [(2, .int x2_18), (1, .int x1_13), (0, .ref (zad V k0))]) dX3_readMirror_29 rfl (by decide) (fun _ => rfl) (fun x2_18 ls h1 hl => ?_)
  refine lv_iload_n hx hb dX3_readMirror_30 rfl (lv_at hl 1 rfl) ?_
  refine lv_iload_n hx hb dX3_readMirror_31 rfl (lv_at hl 0 rfl) ?_
  refine z_ic_eq (tgt := 56) C0 h1 dX3_readMirror_32 (by decide) (fun h1 => ?_) (fun h1 => ?_)
  · exact J56 x1_13 x2_18 _ _ _ _  hZ (lv_sub hl [2, 1, 0] rfl) h1
  refine lv_aload_n hx hb dX3_readMirror_35 rfl (lv_at hl 2 rfl) ?_
  refine z_getm C0 hZ h1 hk0 fRX3_18 rfl dX3_readMirror_36 (fun q_19 hq_19 h1 => ?_)
  refine z_getr C0 hZ hq_19 fRX3_56 rfl dX3_readMirror_39 ?_
  refine z_getr C0 hZ (zkt5_0 hq_19) fRX3_186 rfl dX3_readMirror_42 ?_
  refine lv_iload_n hx hb dX3_readMirror_45 rfl (lv_at hl 1 rfl) ?_
  refine z_cSi (As := [.ref (zad V ((q_19 + 1) + 4)), .int x1_13]) (rest := []) C0 hZ h1 (fun _ hf => kX7_at l (zkt1_6 (zkt5_0 hq_19)) hf) mRX3_65 sX7_at rfl rfl hl.1 (Nat.le_of_ble_eq_true rfl) ⟨Nat.le_of_ble_eq_true rfl, Nat.le_of_ble_eq_true rfl⟩ dX3_readMirror_46 ⟨Nat.le_of_ble_eq_true rfl, Nat.le_of_ble_eq_true rfl⟩ (fun r_21 σ_20 H locs h1 hZ => ?_)
  refine lv_iload_n hx hb dX3_readMirror_49 rfl (lv_at hl 0 rfl) ?_
  refine z_cSi (As := [.int r_21, .int x2_18]) (rest := []) C0 hZ h1 (fun _ hf => kX7_holds l  hf) mRX3_189 sX7_holds rfl rfl hl.1 (Nat.le_of_ble_eq_true rfl) ⟨Nat.le_of_ble_eq_true rfl, Nat.le_of_ble_eq_true rfl⟩ dX3_readMirror_50 ⟨Nat.le_of_ble_eq_true rfl, Nat.le_of_ble_eq_true rfl⟩ (fun r_23 σ_22 H locs h1 hZ => ?_)
  refine z_if_eq (tgt := 61) C0 h1 dX3_readMirror_53 (by decide) (fun h1 => ?_) (fun h1 => ?_)
  · exact J61 x1_13 x2_18 _ _ _ _  hZ (lv_sub hl [2, 1, 0] rfl) h1
  exact J56 x1_13 x2_18 _ _ _ _  hZ (lv_sub hl [2, 1, 0] rfl) h1
noncomputable def FX3_isSign_b21 (y0 : Int32) (σ : zS) : Option (Int32 × zS) := zgd (y0 == 0 || y0 == 1) (some (y0, σ))
noncomputable def FX3_isSign_b20  (σ : zS) : Option (Int32 × zS) := FX3_isSign_b21 0 σ
noncomputable def FX3_isSign (k0 : Nat) (x1 : Int32) (σ : zS) : Option (Int32 × zS) := if (σ k0 3) = 3 then if (σ k0 6) = x1 then FX3_isSign_b21 1 σ else FX3_isSign_b20  σ else FX3_isSign_b20  σ
set_option maxHeartbeats 4000000 in
set_option maxRecDepth 100000 in
theorem kX3_isSign (l : Launch) {V : zV} {σ : zS} {t0 : Int32 × zS} {k0 : Nat} {x1 : Int32} (hk0 : kd 0 k0 = 3) (h1 : FX3_isSign k0 x1 σ = some t0) : zMi l yX3_isSign cX3_isSign 2 (some .boolean) 0 0 0 V σ t0 [.ref (zad V k0), .int x1] := by
  refine zMi_of (by decide) (Nat.le_of_ble_eq_true rfl) ?_
  intro p e s m below meth c A C0 hr hlk hZ ls hl
  generalize ([.ref (zad V k0), .int x1] : List Value).toArray = args at C0 ⊢
  obtain ⟨Q, hQ⟩ : ∃ Q, Q = MQ below (zQi 0 V t0 A) args s 0 0 A := ⟨_, rfl⟩
  rw [← hQ]
  have hx := C0.1
  have hb := C0.2.1
  have hl : lv_has ls 2 [(0, .ref (zad V k0)), (1, .int x1)] := hl
  unfold FX3_isSign at h1
  have J21 : ∀ (y0 : Int32) (σ : zS) (H : Heap) (locs : List Loc) (ls : Array Slot), zZ 0 V A σ s H locs → lv_has ls 2 [] → FX3_isSign_b21 y0 σ = some t0 → W p l e (zrm 0 0) s m args below meth c H locs 0 0 Q (F0 m 21 ls [.int y0]) := by
    intro y0 σ H locs ls  hZ hl h1
    unfold FX3_isSign_b21 at h1
    rw [hQ]; exact z_zret C0 hr hlk hZ h1 dX3_isSign_21
  have J20 : ∀  (σ : zS) (H : Heap) (locs : List Loc) (ls : Array Slot), zZ 0 V A σ s H locs → lv_has ls 2 [] → FX3_isSign_b20  σ = some t0 → W p l e (zrm 0 0) s m args below meth c H locs 0 0 Q (F0 m 20 ls []) := by
    intro  σ H locs ls  hZ hl h1
    unfold FX3_isSign_b20 at h1
    refine lv_iconst (v := 0) hx hb dX3_isSign_20 (by decide) ?_
    exact J21 0 _ _ _ _  hZ (lv_sub hl [] rfl) h1
  refine lv_aload_n hx hb dX3_isSign_0 rfl (lv_at hl 0 rfl) ?_
  refine z_geti C0 hZ hk0 fRX3_26 rfl dX3_isSign_1 ?_
  refine lv_iconst (v := 3) hx hb dX3_isSign_4 (by decide) ?_
  refine z_ic_ne (tgt := 20) C0 h1 dX3_isSign_5 (by decide) (fun h1 => ?_) (fun h1 => ?_)
  · exact J20  _ _ _ _  hZ (lv_sub hl [] rfl) h1
  refine lv_aload_n hx hb dX3_isSign_8 rfl (lv_at hl 0 rfl) ?_
  refine z_geti C0 hZ hk0 fRX3_35 rfl dX3_isSign_9 ?_
  refine lv_iload_n hx hb dX3_isSign_12 rfl (lv_at hl 1 rfl) ?_
  refine z_ic_ne (tgt := 20) C0 h1 dX3_isSign_13 (by decide) (fun h1 => ?_) (fun h1 => ?_)
  · exact J20  _ _ _ _  hZ (lv_sub hl [] rfl) h1
  refine lv_iconst (v := 1) hx hb dX3_isSign_16 (by decide) ?_
  refine lv_goto (tgt := 21) hx hb dX3_isSign_17 (by decide) ?_
  exact J21 1 _ _ _ _  hZ (lv_sub hl [] rfl) h1
noncomputable def FX4_add (k0 : Nat) (x1 : Int32) (σ : zS) : Option (Int32 × zS) := zbd (FX7_put (k0 + 2) (σ k0 1) x1 σ) (fun _ σ_1 => zlet (zup σ_1 k0 1 ((σ_1 k0 1) + 1)) (fun σ_3 => some (0, σ_3)))
set_option maxHeartbeats 4000000 in
set_option maxRecDepth 100000 in
theorem kX4_add (l : Launch) {V : zV} {σ : zS} {t0 : Int32 × zS} {k0 : Nat} {x1 : Int32} (hk0 : kd 0 k0 = 4) (h1 : FX4_add k0 x1 σ = some t0) : zMv l yX4_add cX4_add 2 1 22 0 V σ t0 [.ref (zad V k0), .int x1] := by
  refine zMv_of (by decide) (Nat.le_of_ble_eq_true rfl) ?_
  intro p e s m below meth c A C0 hr hlk hZ ls hl
  generalize ([.ref (zad V k0), .int x1] : List Value).toArray = args at C0 ⊢
  obtain ⟨Q, hQ⟩ : ∃ Q, Q = MQ below (zQv 0 V t0 A) args s 0 0 A := ⟨_, rfl⟩
  rw [← hQ]
  have hx := C0.1
  have hb := C0.2.1
  have hl : lv_has ls 2 [(0, .ref (zad V k0)), (1, .int x1)] := hl
  unfold FX4_add at h1
  refine lv_aload_n hx hb dX4_add_0 rfl (lv_at hl 0 rfl) ?_
  refine z_getr C0 hZ hk0 fRX4_22 rfl dX4_add_1 ?_
  refine lv_aload_n hx hb dX4_add_4 rfl (lv_at hl 0 rfl) ?_
  refine z_geti C0 hZ hk0 fRX4_15 rfl dX4_add_5 ?_
  refine lv_iload_n hx hb dX4_add_8 rfl (lv_at hl 1 rfl) ?_
  refine z_cSv (As := [.ref (zad V (k0 + 2)), .int (σ k0 1), .int x1]) (rest := []) C0 hZ h1 (fun _ hf => kX7_put l (zkt4_3 hk0) hf) mRX4_31 sX7_put rfl rfl hl.1 (Nat.le_of_ble_eq_true rfl) ⟨Nat.le_of_ble_eq_true rfl, Nat.le_of_ble_eq_true rfl⟩ dX4_add_9 ⟨Nat.le_of_ble_eq_true rfl, Nat.le_of_ble_eq_true rfl⟩ (fun _ σ_1 H locs h1 hZ => ?_)
  refine lv_aload_n hx hb dX4_add_12 rfl (lv_at hl 0 rfl) ?_
  refine lv_dup hx hb dX4_add_13 rfl ?_
  refine z_geti C0 hZ hk0 fRX4_15 rfl dX4_add_14 ?_
  refine lv_iconst (v := 1) hx hb dX4_add_17 (by decide) ?_
  refine lv_iadd hx hb dX4_add_18 ?_
  refine z_puti C0 hZ h1 hk0 fRX4_15 rfl tyX4_ok nmX4 rfl rfl rfl dX4_add_19 (fun σ_3 H locs h1 hZ => ?_)
  rw [hQ]; exact z_vret C0 hr hlk hZ h1 dX4_add_22
noncomputable def FX3_valueTold_b88 (y0 : Int32) (σ : zS) : Option (Int32 × zS) := some (y0, σ)
noncomputable def FX3_valueTold (k0 : Nat) (σ : zS) : Option (Int32 × zS) := zbd (FX3_isWord k0 14 σ) (fun r_2 σ_1 => if r_2 = 0 then zbd (FX3_isWord k0 15 σ_1) (fun r_4 σ_3 => if r_4 = 0 then zbd (FX3_isWord k0 16 σ_3) (fun r_6 σ_5 => if r_6 = 0 then zbd (FX3_isWord k0 17 σ_5) (fun r_8 σ_7 => if r_8 = 0 then zbd (FX3_isWord k0 18 σ_7) (fun r_10 σ_9 => if r_10 = 0 then zbd (FX3_isWord k0 19 σ_9) (fun r_12 σ_11 => if r_12 = 0 then zbd (FX3_isWord k0 20 σ_11) (fun r_14 σ_13 => if r_14 = 0 then FX3_valueTold_b88 (-1) σ_13 else FX3_valueTold_b88 6 σ_13) else some (5, σ_11)) else some (4, σ_9)) else some (3, σ_7)) else some (2, σ_5)) else some (1, σ_3)) else some (0, σ_1))
set_option maxHeartbeats 4000000 in
set_option maxRecDepth 100000 in
theorem kX3_valueTold (l : Launch) {V : zV} {σ : zS} {t0 : Int32 × zS} {k0 : Nat} (hk0 : kd 0 k0 = 3) (h1 : FX3_valueTold k0 σ = some t0) : zMi l yX3_valueTold cX3_valueTold 1 (some .int) 5 107 0 V σ t0 [.ref (zad V k0)] := by
  refine zMi_of (by decide) (Nat.le_of_ble_eq_true rfl) ?_
  intro p e s m below meth c A C0 hr hlk hZ ls hl
  generalize ([.ref (zad V k0)] : List Value).toArray = args at C0 ⊢
  obtain ⟨Q, hQ⟩ : ∃ Q, Q = MQ below (zQi 0 V t0 A) args s 0 0 A := ⟨_, rfl⟩
  rw [← hQ]
  have hx := C0.1
  have hb := C0.2.1
  have hl : lv_has ls 1 [(0, .ref (zad V k0))] := hl
  unfold FX3_valueTold at h1
  have J88 : ∀ (y0 : Int32) (σ : zS) (H : Heap) (locs : List Loc) (ls : Array Slot), zZ 0 V A σ s H locs → lv_has ls 1 [] → FX3_valueTold_b88 y0 σ = some t0 → W p l e (zrm 5 107) s m args below meth c H locs 0 0 Q (F0 m 88 ls [.int y0]) := by
    intro y0 σ H locs ls  hZ hl h1
    unfold FX3_valueTold_b88 at h1
    rw [hQ]; exact z_iret C0 hr hlk hZ h1 dX3_valueTold_88
  refine lv_aload_n hx hb dX3_valueTold_0 rfl (lv_at hl 0 rfl) ?_
  refine z_ldcSw (i := 14) (tx := "coat") C0 hZ (by decide +kernel) dX3_valueTold_1 ?_
  refine z_cVi (As := [.ref (V.2.2.2.1 14)]) (rest := []) C0 hZ h1 (fun _ hf => kX3_isWord l hk0 (by decide) hf) mRX3_97 vX3_isWord hk0 rfl rfl hl.1 (Nat.le_of_ble_eq_true rfl) ⟨Nat.le_of_ble_eq_true rfl, Nat.le_of_ble_eq_true rfl⟩ dX3_valueTold_4 ⟨Nat.le_of_ble_eq_true rfl, Nat.le_of_ble_eq_true rfl⟩ (fun r_2 σ_1 H locs h1 hZ => ?_)
  refine z_if_eq (tgt := 12) C0 h1 dX3_valueTold_7 (by decide) (fun h1 => ?_) (fun h1 => ?_)
  · refine lv_aload_n hx hb dX3_valueTold_12 rfl (lv_at hl 0 rfl) ?_
    refine z_ldcSw (i := 15) (tx := "here") C0 hZ (by decide +kernel) dX3_valueTold_13 ?_
    refine z_cVi (As := [.ref (V.2.2.2.1 15)]) (rest := []) C0 hZ h1 (fun _ hf => kX3_isWord l hk0 (by decide) hf) mRX3_97 vX3_isWord hk0 rfl rfl hl.1 (Nat.le_of_ble_eq_true rfl) ⟨Nat.le_of_ble_eq_true rfl, Nat.le_of_ble_eq_true rfl⟩ dX3_valueTold_16 ⟨Nat.le_of_ble_eq_true rfl, Nat.le_of_ble_eq_true rfl⟩ (fun r_4 σ_3 H locs h1 hZ => ?_)
    refine z_if_eq (tgt := 24) C0 h1 dX3_valueTold_19 (by decide) (fun h1 => ?_) (fun h1 => ?_)
    · refine lv_aload_n hx hb dX3_valueTold_24 rfl (lv_at hl 0 rfl) ?_
      refine z_ldcSw (i := 16) (tx := "took") C0 hZ (by decide +kernel) dX3_valueTold_25 ?_
      refine z_cVi (As := [.ref (V.2.2.2.1 16)]) (rest := []) C0 hZ h1 (fun _ hf => kX3_isWord l hk0 (by decide) hf) mRX3_97 vX3_isWord hk0 rfl rfl hl.1 (Nat.le_of_ble_eq_true rfl) ⟨Nat.le_of_ble_eq_true rfl, Nat.le_of_ble_eq_true rfl⟩ dX3_valueTold_28 ⟨Nat.le_of_ble_eq_true rfl, Nat.le_of_ble_eq_true rfl⟩ (fun r_6 σ_5 H locs h1 hZ => ?_)
      refine z_if_eq (tgt := 36) C0 h1 dX3_valueTold_31 (by decide) (fun h1 => ?_) (fun h1 => ?_)
      · refine lv_aload_n hx hb dX3_valueTold_36 rfl (lv_at hl 0 rfl) ?_
        refine z_ldcSw (i := 17) (tx := "far") C0 hZ (by decide +kernel) dX3_valueTold_37 ?_
        refine z_cVi (As := [.ref (V.2.2.2.1 17)]) (rest := []) C0 hZ h1 (fun _ hf => kX3_isWord l hk0 (by decide) hf) mRX3_97 vX3_isWord hk0 rfl rfl hl.1 (Nat.le_of_ble_eq_true rfl) ⟨Nat.le_of_ble_eq_true rfl, Nat.le_of_ble_eq_true rfl⟩ dX3_valueTold_40 ⟨Nat.le_of_ble_eq_true rfl, Nat.le_of_ble_eq_true rfl⟩ (fun r_8 σ_7 H locs h1 hZ => ?_)
        refine z_if_eq (tgt := 48) C0 h1 dX3_valueTold_43 (by decide) (fun h1 => ?_) (fun h1 => ?_)
        · refine lv_aload_n hx hb dX3_valueTold_48 rfl (lv_at hl 0 rfl) ?_
          refine z_ldcSw (i := 18) (tx := "worth") C0 hZ (by decide +kernel) dX3_valueTold_49 ?_
          refine z_cVi (As := [.ref (V.2.2.2.1 18)]) (rest := []) C0 hZ h1 (fun _ hf => kX3_isWord l hk0 (by decide) hf) mRX3_97 vX3_isWord hk0 rfl rfl hl.1 (Nat.le_of_ble_eq_true rfl) ⟨Nat.le_of_ble_eq_true rfl, Nat.le_of_ble_eq_true rfl⟩ dX3_valueTold_52 ⟨Nat.le_of_ble_eq_true rfl, Nat.le_of_ble_eq_true rfl⟩ (fun r_10 σ_9 H locs h1 hZ => ?_)
          refine z_if_eq (tgt := 60) C0 h1 dX3_valueTold_55 (by decide) (fun h1 => ?_) (fun h1 => ?_)
          · refine lv_aload_n hx hb dX3_valueTold_60 rfl (lv_at hl 0 rfl) ?_
            refine z_ldcSw (i := 19) (tx := "crowd") C0 hZ (by decide +kernel) dX3_valueTold_61 ?_
            refine z_cVi (As := [.ref (V.2.2.2.1 19)]) (rest := []) C0 hZ h1 (fun _ hf => kX3_isWord l hk0 (by decide) hf) mRX3_97 vX3_isWord hk0 rfl rfl hl.1 (Nat.le_of_ble_eq_true rfl) ⟨Nat.le_of_ble_eq_true rfl, Nat.le_of_ble_eq_true rfl⟩ dX3_valueTold_64 ⟨Nat.le_of_ble_eq_true rfl, Nat.le_of_ble_eq_true rfl⟩ (fun r_12 σ_11 H locs h1 hZ => ?_)
            refine z_if_eq (tgt := 72) C0 h1 dX3_valueTold_67 (by decide) (fun h1 => ?_) (fun h1 => ?_)
            · refine lv_aload_n hx hb dX3_valueTold_72 rfl (lv_at hl 0 rfl) ?_
              refine z_ldcSw (i := 20) (tx := "minute") C0 hZ (by decide +kernel) dX3_valueTold_73 ?_
              refine z_cVi (As := [.ref (V.2.2.2.1 20)]) (rest := []) C0 hZ h1 (fun _ hf => kX3_isWord l hk0 (by decide) hf) mRX3_97 vX3_isWord hk0 rfl rfl hl.1 (Nat.le_of_ble_eq_true rfl) ⟨Nat.le_of_ble_eq_true rfl, Nat.le_of_ble_eq_true rfl⟩ dX3_valueTold_76 ⟨Nat.le_of_ble_eq_true rfl, Nat.le_of_ble_eq_true rfl⟩ (fun r_14 σ_13 H locs h1 hZ => ?_)
              refine z_if_eq (tgt := 87) C0 h1 dX3_valueTold_79 (by decide) (fun h1 => ?_) (fun h1 => ?_)
              · refine lv_iconst (v := (-1)) hx hb dX3_valueTold_87 (by decide) ?_
                exact J88 (-1) _ _ _ _  hZ (lv_sub hl [] rfl) h1
              refine lv_bipush (v := 6) hx hb dX3_valueTold_82 (by decide) ?_
              refine lv_goto (tgt := 88) hx hb dX3_valueTold_84 (by decide) ?_
              exact J88 6 _ _ _ _  hZ (lv_sub hl [] rfl) h1
            refine lv_iconst (v := 5) hx hb dX3_valueTold_70 (by decide) ?_
            rw [hQ]; exact z_iret C0 hr hlk hZ h1 dX3_valueTold_71
          refine lv_iconst (v := 4) hx hb dX3_valueTold_58 (by decide) ?_
          rw [hQ]; exact z_iret C0 hr hlk hZ h1 dX3_valueTold_59
        refine lv_iconst (v := 3) hx hb dX3_valueTold_46 (by decide) ?_
        rw [hQ]; exact z_iret C0 hr hlk hZ h1 dX3_valueTold_47
      refine lv_iconst (v := 2) hx hb dX3_valueTold_34 (by decide) ?_
      rw [hQ]; exact z_iret C0 hr hlk hZ h1 dX3_valueTold_35
    refine lv_iconst (v := 1) hx hb dX3_valueTold_22 (by decide) ?_
    rw [hQ]; exact z_iret C0 hr hlk hZ h1 dX3_valueTold_23
  refine lv_iconst (v := 0) hx hb dX3_valueTold_10 (by decide) ?_
  rw [hQ]; exact z_iret C0 hr hlk hZ h1 dX3_valueTold_11
noncomputable def FX3_readValue_b30  (σ : zS) : Option (Int32 × zS) := some (0, σ)
noncomputable def FX3_readValue (k0 : Nat) (x1 : Int32) (σ : zS) : Option (Int32 × zS) := if x1 = (-1) then zbd (FX3_fail k0 3 σ) (fun _ σ_6 => FX3_readValue_b30  σ_6) else zgd (kd 0 (σ k0 1).toNatClampNeg == 5) (zlet (σ k0 1).toNatClampNeg (fun q_1 => zbd (FX4_add (q_1 + 14) ((-1) - x1) σ) (fun _ σ_2 => zbd (FX3_readToken k0 σ_2) (fun _ σ_4 => FX3_readValue_b30  σ_4))))
set_option maxHeartbeats 4000000 in
set_option maxRecDepth 100000 in
theorem kX3_readValue (l : Launch) {V : zV} {σ : zS} {t0 : Int32 × zS} {k0 : Nat} {x1 : Int32} (hk0 : kd 0 k0 = 3) (h1 : FX3_readValue k0 x1 σ = some t0) : zMv l yX3_readValue cX3_readValue 2 2 43 0 V σ t0 [.ref (zad V k0), .int x1] := by
  refine zMv_of (by decide) (Nat.le_of_ble_eq_true rfl) ?_
  intro p e s m below meth c A C0 hr hlk hZ ls hl
  generalize ([.ref (zad V k0), .int x1] : List Value).toArray = args at C0 ⊢
  obtain ⟨Q, hQ⟩ : ∃ Q, Q = MQ below (zQv 0 V t0 A) args s 0 0 A := ⟨_, rfl⟩
  rw [← hQ]
  have hx := C0.1
  have hb := C0.2.1
  have hl : lv_has ls 2 [(0, .ref (zad V k0)), (1, .int x1)] := hl
  unfold FX3_readValue at h1
  have J30 : ∀  (σ : zS) (H : Heap) (locs : List Loc) (ls : Array Slot), zZ 0 V A σ s H locs → lv_has ls 2 [] → FX3_readValue_b30  σ = some t0 → W p l e (zrm 2 43) s m args below meth c H locs 0 0 Q (F0 m 30 ls []) := by
    intro  σ H locs ls  hZ hl h1
    unfold FX3_readValue_b30 at h1
    rw [hQ]; exact z_vret C0 hr hlk hZ h1 dX3_readValue_30
  refine lv_iload_n hx hb dX3_readValue_0 rfl (lv_at hl 1 rfl) ?_
  refine lv_iconst (v := (-1)) hx hb dX3_readValue_1 (by decide) ?_
  refine z_ic_ne (tgt := 13) C0 h1 dX3_readValue_2 (by decide) (fun h1 => ?_) (fun h1 => ?_)
  · refine lv_aload_n hx hb dX3_readValue_13 rfl (lv_at hl 0 rfl) ?_
    refine z_getm C0 hZ h1 hk0 fRX3_18 rfl dX3_readValue_14 (fun q_1 hq_1 h1 => ?_)
    refine z_getr C0 hZ hq_1 fRX3_229 rfl dX3_readValue_17 ?_
    refine lv_iconst (v := (-1)) hx hb dX3_readValue_20 (by decide) ?_
    refine lv_iload_n hx hb dX3_readValue_21 rfl (lv_at hl 1 rfl) ?_
    refine lv_isub hx hb dX3_readValue_22 ?_
    refine z_cVv (As := [.int ((-1) - x1)]) (rest := []) C0 hZ h1 (fun _ hf => kX4_add l (zkt5_2 hq_1) hf) mRX3_247 vX4_add (zkt5_2 hq_1) rfl rfl hl.1 (Nat.le_of_ble_eq_true rfl) ⟨Nat.le_of_ble_eq_true rfl, Nat.le_of_ble_eq_true rfl⟩ dX3_readValue_23 ⟨Nat.le_of_ble_eq_true rfl, Nat.le_of_ble_eq_true rfl⟩ (fun _ σ_2 H locs h1 hZ => ?_)
    refine lv_aload_n hx hb dX3_readValue_26 rfl (lv_at hl 0 rfl) ?_
    refine z_cVv (As := []) (rest := []) C0 hZ h1 (fun _ hf => kX3_readToken l hk0 hf) mRX3_50 vX3_readToken hk0 rfl rfl hl.1 (Nat.le_of_ble_eq_true rfl) ⟨Nat.le_of_ble_eq_true rfl, Nat.le_of_ble_eq_true rfl⟩ dX3_readValue_27 ⟨Nat.le_of_ble_eq_true rfl, Nat.le_of_ble_eq_true rfl⟩ (fun _ σ_4 H locs h1 hZ => ?_)
    exact J30  _ _ _ _  hZ (lv_sub hl [] rfl) h1
  refine lv_aload_n hx hb dX3_readValue_5 rfl (lv_at hl 0 rfl) ?_
  refine lv_iconst (v := 3) hx hb dX3_readValue_6 (by decide) ?_
  refine z_cVv (As := [.int 3]) (rest := []) C0 hZ h1 (fun _ hf => kX3_fail l hk0 hf) mRX3_136 vX3_fail hk0 rfl rfl hl.1 (Nat.le_of_ble_eq_true rfl) ⟨Nat.le_of_ble_eq_true rfl, Nat.le_of_ble_eq_true rfl⟩ dX3_readValue_7 ⟨Nat.le_of_ble_eq_true rfl, Nat.le_of_ble_eq_true rfl⟩ (fun _ σ_6 H locs h1 hZ => ?_)
  refine lv_goto (tgt := 30) hx hb dX3_readValue_10 (by decide) ?_
  exact J30  _ _ _ _  hZ (lv_sub hl [] rfl) h1
noncomputable def FX3_readSign_b20  (σ : zS) : Option (Int32 × zS) := some (0, σ)
noncomputable def FX3_readSign (k0 : Nat) (x1 : Int32) (σ : zS) : Option (Int32 × zS) := zbd (FX3_isSign k0 x1 σ) (fun r_2 σ_1 => if r_2 = 0 then zbd (FX3_fail k0 1 σ_1) (fun _ σ_3 => FX3_readSign_b20  σ_3) else zbd (FX3_readToken k0 σ_1) (fun _ σ_5 => FX3_readSign_b20  σ_5))
set_option maxHeartbeats 4000000 in
set_option maxRecDepth 100000 in
theorem kX3_readSign (l : Launch) {V : zV} {σ : zS} {t0 : Int32 × zS} {k0 : Nat} {x1 : Int32} (hk0 : kd 0 k0 = 3) (h1 : FX3_readSign k0 x1 σ = some t0) : zMv l yX3_readSign cX3_readSign 2 2 43 0 V σ t0 [.ref (zad V k0), .int x1] := by
  refine zMv_of (by decide) (Nat.le_of_ble_eq_true rfl) ?_
  intro p e s m below meth c A C0 hr hlk hZ ls hl
  generalize ([.ref (zad V k0), .int x1] : List Value).toArray = args at C0 ⊢
  obtain ⟨Q, hQ⟩ : ∃ Q, Q = MQ below (zQv 0 V t0 A) args s 0 0 A := ⟨_, rfl⟩
  rw [← hQ]
  have hx := C0.1
  have hb := C0.2.1
  have hl : lv_has ls 2 [(0, .ref (zad V k0)), (1, .int x1)] := hl
  unfold FX3_readSign at h1
  have J20 : ∀  (σ : zS) (H : Heap) (locs : List Loc) (ls : Array Slot), zZ 0 V A σ s H locs → lv_has ls 2 [] → FX3_readSign_b20  σ = some t0 → W p l e (zrm 2 43) s m args below meth c H locs 0 0 Q (F0 m 20 ls []) := by
    intro  σ H locs ls  hZ hl h1
    unfold FX3_readSign_b20 at h1
    rw [hQ]; exact z_vret C0 hr hlk hZ h1 dX3_readSign_20
  refine lv_aload_n hx hb dX3_readSign_0 rfl (lv_at hl 0 rfl) ?_
  refine lv_iload_n hx hb dX3_readSign_1 rfl (lv_at hl 1 rfl) ?_
  refine z_cVi (As := [.int x1]) (rest := []) C0 hZ h1 (fun _ hf => kX3_isSign l hk0 hf) mRX3_150 vX3_isSign hk0 rfl rfl hl.1 (Nat.le_of_ble_eq_true rfl) ⟨Nat.le_of_ble_eq_true rfl, Nat.le_of_ble_eq_true rfl⟩ dX3_readSign_2 ⟨Nat.le_of_ble_eq_true rfl, Nat.le_of_ble_eq_true rfl⟩ (fun r_2 σ_1 H locs h1 hZ => ?_)
  refine z_if_eq (tgt := 15) C0 h1 dX3_readSign_5 (by decide) (fun h1 => ?_) (fun h1 => ?_)
  · refine lv_aload_n hx hb dX3_readSign_15 rfl (lv_at hl 0 rfl) ?_
    refine lv_iconst (v := 1) hx hb dX3_readSign_16 (by decide) ?_
    refine z_cVv (As := [.int 1]) (rest := []) C0 hZ h1 (fun _ hf => kX3_fail l hk0 hf) mRX3_136 vX3_fail hk0 rfl rfl hl.1 (Nat.le_of_ble_eq_true rfl) ⟨Nat.le_of_ble_eq_true rfl, Nat.le_of_ble_eq_true rfl⟩ dX3_readSign_17 ⟨Nat.le_of_ble_eq_true rfl, Nat.le_of_ble_eq_true rfl⟩ (fun _ σ_3 H locs h1 hZ => ?_)
    exact J20  _ _ _ _  hZ (lv_sub hl [] rfl) h1
  refine lv_aload_n hx hb dX3_readSign_8 rfl (lv_at hl 0 rfl) ?_
  refine z_cVv (As := []) (rest := []) C0 hZ h1 (fun _ hf => kX3_readToken l hk0 hf) mRX3_50 vX3_readToken hk0 rfl rfl hl.1 (Nat.le_of_ble_eq_true rfl) ⟨Nat.le_of_ble_eq_true rfl, Nat.le_of_ble_eq_true rfl⟩ dX3_readSign_9 ⟨Nat.le_of_ble_eq_true rfl, Nat.le_of_ble_eq_true rfl⟩ (fun _ σ_5 H locs h1 hZ => ?_)
  refine lv_goto (tgt := 20) hx hb dX3_readSign_12 (by decide) ?_
  exact J20  _ _ _ _  hZ (lv_sub hl [] rfl) h1
