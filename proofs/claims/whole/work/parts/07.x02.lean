noncomputable def FX0_chosen_b99 (x2 : Int32) (σ : zS) : Option (Int32 × zS) := some (x2, σ)
noncomputable def FX0_chosen_b93 (k0 : Nat) (x1 : Int32) (x2 : Int32) (x3 : Int32) (x4 : Int32) (σ : zS) : Option ((Int32 × Int32 × Int32 × zS) ⊕ (Int32 × zS)) := zlet (x4 + 1) (fun x4_1 => some (.inl (x2, x3, x4_1, σ)))
noncomputable def FX0_chosen_L7 (k0 : Nat) (x1 : Int32) (x2 : Int32) (x3 : Int32) (x4 : Int32) (σ : zS) : Option ((Int32 × Int32 × Int32 × zS) ⊕ (Int32 × zS)) := zgd (kd 0 (σ k0 0).toNatClampNeg == 5) (zlet (σ k0 0).toNatClampNeg (fun q_2 => if (σ (q_2 + 7) 0) ≤ x4 then zinr (FX0_chosen_b99 x2 σ) else zbd (FX7_at (k0 + 4) x4 σ) (fun r_4 σ_3 => if r_4 = (-1) then FX0_chosen_b93 k0 x1 x2 x3 x4 σ_3 else zgd (kd 0 (σ_3 k0 0).toNatClampNeg == 5) (zlet (σ_3 k0 0).toNatClampNeg (fun q_5 => zbd (FX7_at ((q_5 + 7) + 1) x4 σ_3) (fun r_7 σ_6 => if r_7 = 3 then FX0_chosen_b93 k0 x1 x2 x3 x4 σ_6 else zbd (FX0_tellValues k0 x4 x1 σ_6) (fun _ σ_8 => zgd (kd 0 (σ_8 k0 0).toNatClampNeg == 5) (zlet (σ_8 k0 0).toNatClampNeg (fun q_10 => zbd (FX4_valueOf (q_10 + 14) (σ_8 k0 2) (k0 + 7) σ_8) (fun r_12 σ_11 => zlet r_12 (fun x5_13 => if x5_13 ≤ x3 then FX0_chosen_b93 k0 x1 x2 x3 x4 σ_11 else zlet x4 (fun x2_14 => zlet x5_13 (fun x3_15 => FX0_chosen_b93 k0 x1 x2_14 x3_15 x4 σ_11)))))))))))))
noncomputable def FX0_chosen (k0 : Nat) (x1 : Int32) (σ : zS) : Option (Int32 × zS) := zlet (-1) (fun x2_16 => zlet 0 (fun x3_17 => zlet 0 (fun x4_18 => zlp (fun q => FX0_chosen_L7 k0 x1 q.1 q.2.1 q.2.2.1 q.2.2.2) (x2_16, x3_17, x4_18, σ))))
set_option maxHeartbeats 4000000 in
set_option maxRecDepth 100000 in
theorem kX0_chosen (l : Launch) {V : zV} {σ : zS} {t0 : Int32 × zS} {k0 : Nat} {x1 : Int32} (hk0 : kd 0 k0 = 0) (h1 : FX0_chosen k0 x1 σ = some t0) : zMi l yX0_chosen cX0_chosen 6 (some .int) 3 70 0 V σ t0 [.ref (zad V k0), .int x1] := by
  refine zMi_of (by decide) (Nat.le_of_ble_eq_true rfl) ?_
  intro p e s m below meth c A C0 hr hlk hZ ls hl
  generalize ([.ref (zad V k0), .int x1] : List Value).toArray = args at C0 ⊢
  obtain ⟨Q, hQ⟩ : ∃ Q, Q = MQ below (zQi 0 V t0 A) args s 0 0 A := ⟨_, rfl⟩
  rw [← hQ]
  have hx := C0.1
  have hb := C0.2.1
  have hl : lv_has ls 6 [(0, .ref (zad V k0)), (1, .int x1)] := hl
  unfold FX0_chosen at h1
  have J99 : ∀ (x2 : Int32) (σ : zS) (H : Heap) (locs : List Loc) (ls : Array Slot), zZ 0 V A σ s H locs → lv_has ls 6 [(2, .int x2)] → FX0_chosen_b99 x2 σ = some t0 → W p l e (zrm 3 70) s m args below meth c H locs 0 0 Q (F0 m 99 ls []) := by
    intro x2 σ H locs ls  hZ hl h1
    unfold FX0_chosen_b99 at h1
    refine lv_iload_n hx hb dX0_chosen_99 rfl (lv_at hl 0 rfl) ?_
    rw [hQ]; exact z_iret C0 hr hlk hZ h1 dX0_chosen_100
  have J7 : ∀ (n : Nat) (x2 : Int32) (x3 : Int32) (x4 : Int32) (σ : zS) (H : Heap) (locs : List Loc) (ls : Array Slot), zZ 0 V A σ s H locs → lv_has ls 6 [(0, .ref (zad V k0)), (1, .int x1), (2, .int x2), (3, .int x3), (4, .int x4)] → zit (fun q => FX0_chosen_L7 k0 x1 q.1 q.2.1 q.2.2.1 q.2.2.2) n (x2, x3, x4, σ) = some t0 → W p l e (zrm 3 70) s m args below meth c H locs 0 0 Q (F0 m 7 ls []) := by
    intro n
    induction n with
    | zero => intro x2 x3 x4 σ H locs ls  _ _ h1; cases h1
    | succ n ih7 =>
      intro x2 x3 x4 σ H locs ls  hZ hl h1
      obtain ⟨t1, h1, hz1⟩ := zit_1 h1
      have J93 : ∀ (x2 : Int32) (x3 : Int32) (x4 : Int32) (σ : zS) (H : Heap) (locs : List Loc) (ls : Array Slot), zZ 0 V A σ s H locs → lv_has ls 6 [(0, .ref (zad V k0)), (1, .int x1), (2, .int x2), (3, .int x3), (4, .int x4)] → FX0_chosen_b93 k0 x1 x2 x3 x4 σ = some t1 → W p l e (zrm 3 70) s m args below meth c H locs 0 0 Q (F0 m 93 ls []) := by
        intro x2 x3 x4 σ H locs ls  hZ hl h1
        unfold FX0_chosen_b93 at h1
        refine z_iinc (v := 1) C0 h1 hl (fun x4_1 => [(4, .int x4_1), (0, .ref (zad V k0)), (1, .int x1), (2, .int x2), (3, .int x3)]) dX0_chosen_93 (k := 4) rfl (by decide) (by decide) (fun _ => rfl) (fun x4_1 ls h1 hl => ?_)
        refine lv_goto (tgt := 7) hx hb dX0_chosen_96 (by decide) ?_
        exact ih7 x2 x3 x4_1 _ _ _ _  hZ (lv_sub hl [1, 2, 3, 4, 0] rfl) (zback h1 hz1)
      replace h1 : FX0_chosen_L7 k0 x1 x2 x3 x4 σ = some t1 := h1
      unfold FX0_chosen_L7 at h1
      refine lv_iload hx hb dX0_chosen_7 (lv_at hl 4 rfl) ?_
      refine lv_aload_n hx hb dX0_chosen_9 rfl (lv_at hl 0 rfl) ?_
      refine z_getm C0 hZ h1 hk0 fRX0_64 rfl dX0_chosen_10 (fun q_2 hq_2 h1 => ?_)
      refine z_getr C0 hZ hq_2 fRX0_122 rfl dX0_chosen_13 ?_
      refine z_geti C0 hZ (zkt5_1 hq_2) fRX0_126 rfl dX0_chosen_16 ?_
      refine z_ic_ge (tgt := 99) C0 h1 dX0_chosen_19 (by decide) (fun h1 => ?_) (fun h1 => ?_)
      · have h1 := zout h1 hz1
        exact J99 x2 _ _ _ _  hZ (lv_sub hl [2] rfl) h1
      refine lv_aload_n hx hb dX0_chosen_22 rfl (lv_at hl 0 rfl) ?_
      refine z_getr C0 hZ hk0 fRX0_37 rfl dX0_chosen_23 ?_
      refine lv_iload hx hb dX0_chosen_26 (lv_at hl 4 rfl) ?_
      refine z_cSi (As := [.ref (zad V (k0 + 4)), .int x4]) (rest := []) C0 hZ h1 (fun _ hf => kX7_at l (zkt0_9 hk0) hf) mRX0_118 sX7_at rfl rfl hl.1 (Nat.le_of_ble_eq_true rfl) ⟨Nat.le_of_ble_eq_true rfl, Nat.le_of_ble_eq_true rfl⟩ dX0_chosen_28 ⟨Nat.le_of_ble_eq_true rfl, Nat.le_of_ble_eq_true rfl⟩ (fun r_4 σ_3 H locs h1 hZ => ?_)
      refine lv_iconst (v := (-1)) hx hb dX0_chosen_31 (by decide) ?_
      refine z_ic_eq (tgt := 93) C0 h1 dX0_chosen_32 (by decide) (fun h1 => ?_) (fun h1 => ?_)
      · exact J93 x2 x3 x4 _ _ _ _  hZ (lv_sub hl [0, 1, 2, 3, 4] rfl) h1
      refine lv_aload_n hx hb dX0_chosen_35 rfl (lv_at hl 0 rfl) ?_
      refine z_getm C0 hZ h1 hk0 fRX0_64 rfl dX0_chosen_36 (fun q_5 hq_5 h1 => ?_)
      refine z_getr C0 hZ hq_5 fRX0_122 rfl dX0_chosen_39 ?_
      refine z_getr C0 hZ (zkt5_1 hq_5) fRX0_149 rfl dX0_chosen_42 ?_
      refine lv_iload hx hb dX0_chosen_45 (lv_at hl 4 rfl) ?_
      refine z_cSi (As := [.ref (zad V ((q_5 + 7) + 1)), .int x4]) (rest := []) C0 hZ h1 (fun _ hf => kX7_at l (zkt2_1 (zkt5_1 hq_5)) hf) mRX0_118 sX7_at rfl rfl hl.1 (Nat.le_of_ble_eq_true rfl) ⟨Nat.le_of_ble_eq_true rfl, Nat.le_of_ble_eq_true rfl⟩ dX0_chosen_47 ⟨Nat.le_of_ble_eq_true rfl, Nat.le_of_ble_eq_true rfl⟩ (fun r_7 σ_6 H locs h1 hZ => ?_)
      refine lv_iconst (v := 3) hx hb dX0_chosen_50 (by decide) ?_
      refine z_ic_eq (tgt := 93) C0 h1 dX0_chosen_51 (by decide) (fun h1 => ?_) (fun h1 => ?_)
      · exact J93 x2 x3 x4 _ _ _ _  hZ (lv_sub hl [0, 1, 2, 3, 4] rfl) h1
      refine lv_aload_n hx hb dX0_chosen_54 rfl (lv_at hl 0 rfl) ?_
      refine lv_iload hx hb dX0_chosen_55 (lv_at hl 4 rfl) ?_
      refine lv_iload_n hx hb dX0_chosen_57 rfl (lv_at hl 1 rfl) ?_
      refine z_cVv (As := [.int x4, .int x1]) (rest := []) C0 hZ h1 (fun _ hf => kX0_tellValues l hk0 hf) mRX0_175 vX0_tellValues hk0 rfl rfl hl.1 (Nat.le_of_ble_eq_true rfl) ⟨Nat.le_of_ble_eq_true rfl, Nat.le_of_ble_eq_true rfl⟩ dX0_chosen_58 ⟨Nat.le_of_ble_eq_true rfl, Nat.le_of_ble_eq_true rfl⟩ (fun _ σ_8 H locs h1 hZ => ?_)
      refine lv_aload_n hx hb dX0_chosen_61 rfl (lv_at hl 0 rfl) ?_
      refine z_getm C0 hZ h1 hk0 fRX0_64 rfl dX0_chosen_62 (fun q_10 hq_10 h1 => ?_)
      refine z_getr C0 hZ hq_10 fRX0_178 rfl dX0_chosen_65 ?_
      refine lv_aload_n hx hb dX0_chosen_68 rfl (lv_at hl 0 rfl) ?_
      refine z_geti C0 hZ hk0 fRX0_15 rfl dX0_chosen_69 ?_
      refine lv_aload_n hx hb dX0_chosen_72 rfl (lv_at hl 0 rfl) ?_
      refine z_getr C0 hZ hk0 fRX0_52 rfl dX0_chosen_73 ?_
      refine z_cVi (As := [.int (σ_8 k0 2), .ref (zad V (k0 + 7))]) (rest := []) C0 hZ h1 (fun _ hf => kX4_valueOf l (zkt5_2 hq_10) (zkt0_14 hk0) hf) mRX0_182 vX4_valueOf (zkt5_2 hq_10) rfl rfl hl.1 (Nat.le_of_ble_eq_true rfl) ⟨Nat.le_of_ble_eq_true rfl, Nat.le_of_ble_eq_true rfl⟩ dX0_chosen_76 ⟨Nat.le_of_ble_eq_true rfl, Nat.le_of_ble_eq_true rfl⟩ (fun r_12 σ_11 H locs h1 hZ => ?_)
      refine z_istore C0 h1 hl (fun x5_13 => [(5, .int x5_13), (0, .ref (zad V k0)), (1, .int x1), (2, .int x2), (3, .int x3), (4, .int x4)]) dX0_chosen_79 (by decide) (fun _ => rfl) (fun x5_13 ls h1 hl => ?_)
      refine lv_iload hx hb dX0_chosen_81 (lv_at hl 0 rfl) ?_
      refine lv_iload_n hx hb dX0_chosen_83 rfl (lv_at hl 4 rfl) ?_
      refine z_ic_le (tgt := 93) C0 h1 dX0_chosen_84 (by decide) (fun h1 => ?_) (fun h1 => ?_)
      · exact J93 x2 x3 x4 _ _ _ _  hZ (lv_sub hl [1, 2, 3, 4, 5] rfl) h1
      refine lv_iload hx hb dX0_chosen_87 (lv_at hl 5 rfl) ?_
      refine z_istore_n C0 h1 hl (fun x2_14 => [(2, .int x2_14), (5, .int x5_13), (0, .ref (zad V k0)), (1, .int x1), (3, .int x3), (4, .int x4)]) dX0_chosen_89 rfl (by decide) (fun _ => rfl) (fun x2_14 ls h1 hl => ?_)
      refine lv_iload hx hb dX0_chosen_90 (lv_at hl 1 rfl) ?_
      refine z_istore_n C0 h1 hl (fun x3_15 => [(3, .int x3_15), (2, .int x2_14), (5, .int x5_13), (0, .ref (zad V k0)), (1, .int x1), (4, .int x4)]) dX0_chosen_92 rfl (by decide) (fun _ => rfl) (fun x3_15 ls h1 hl => ?_)
      exact J93 x2_14 x3_15 x4 _ _ _ _  hZ (lv_sub hl [3, 4, 1, 0, 5] rfl) h1
  refine lv_iconst (v := (-1)) hx hb dX0_chosen_0 (by decide) ?_
  refine z_istore_n C0 h1 hl (fun x2_16 => [(2, .int x2_16), (0, .ref (zad V k0)), (1, .int x1)]) dX0_chosen_1 rfl (by decide) (fun _ => rfl) (fun x2_16 ls h1 hl => ?_)
  refine lv_iconst (v := 0) hx hb dX0_chosen_2 (by decide) ?_
  refine z_istore_n C0 h1 hl (fun x3_17 => [(3, .int x3_17), (2, .int x2_16), (0, .ref (zad V k0)), (1, .int x1)]) dX0_chosen_3 rfl (by decide) (fun _ => rfl) (fun x3_17 ls h1 hl => ?_)
  refine lv_iconst (v := 0) hx hb dX0_chosen_4 (by decide) ?_
  refine z_istore C0 h1 hl (fun x4_18 => [(4, .int x4_18), (3, .int x3_17), (2, .int x2_16), (0, .ref (zad V k0)), (1, .int x1)]) dX0_chosen_5 (by decide) (fun _ => rfl) (fun x4_18 ls h1 hl => ?_)
  obtain ⟨n, h1⟩ := zlp_iff.mp h1
  exact J7 n x2_16 x3_17 x4_18 _ _ _ _  hZ (lv_sub hl [3, 4, 2, 1, 0] rfl) h1
noncomputable def FX1_joins (k0 : Nat) (x1 : Int32) (x2 : Int32) (σ : zS) : Option (Int32 × zS) := zbd (FX7_at (k0 + 3) x1 σ) (fun r_2 σ_1 => zbd (FX7_holds r_2 x2 σ_1) (fun r_4 σ_3 => zgd (r_4 == 0 || r_4 == 1) (some (r_4, σ_3))))
set_option maxHeartbeats 4000000 in
set_option maxRecDepth 100000 in
theorem kX1_joins (l : Launch) {V : zV} {σ : zS} {t0 : Int32 × zS} {k0 : Nat} {x1 : Int32} {x2 : Int32} (hk0 : kd 0 k0 = 1) (h1 : FX1_joins k0 x1 x2 σ = some t0) : zMi l yX1_joins cX1_joins 3 (some .boolean) 1 21 0 V σ t0 [.ref (zad V k0), .int x1, .int x2] := by
  refine zMi_of (by decide) (Nat.le_of_ble_eq_true rfl) ?_
  intro p e s m below meth c A C0 hr hlk hZ ls hl
  generalize ([.ref (zad V k0), .int x1, .int x2] : List Value).toArray = args at C0 ⊢
  obtain ⟨Q, hQ⟩ : ∃ Q, Q = MQ below (zQi 0 V t0 A) args s 0 0 A := ⟨_, rfl⟩
  rw [← hQ]
  have hx := C0.1
  have hb := C0.2.1
  have hl : lv_has ls 3 [(0, .ref (zad V k0)), (1, .int x1), (2, .int x2)] := hl
  unfold FX1_joins at h1
  refine lv_aload_n hx hb dX1_joins_0 rfl (lv_at hl 0 rfl) ?_
  refine z_getr C0 hZ hk0 fRX1_28 rfl dX1_joins_1 ?_
  refine lv_iload_n hx hb dX1_joins_4 rfl (lv_at hl 1 rfl) ?_
  refine z_cSi (As := [.ref (zad V (k0 + 3)), .int x1]) (rest := []) C0 hZ h1 (fun _ hf => kX7_at l (zkt1_5 hk0) hf) mRX1_41 sX7_at rfl rfl hl.1 (Nat.le_of_ble_eq_true rfl) ⟨Nat.le_of_ble_eq_true rfl, Nat.le_of_ble_eq_true rfl⟩ dX1_joins_5 ⟨Nat.le_of_ble_eq_true rfl, Nat.le_of_ble_eq_true rfl⟩ (fun r_2 σ_1 H locs h1 hZ => ?_)
  refine lv_iload_n hx hb dX1_joins_8 rfl (lv_at hl 2 rfl) ?_
  refine z_cSi (As := [.int r_2, .int x2]) (rest := []) C0 hZ h1 (fun _ hf => kX7_holds l  hf) mRX1_45 sX7_holds rfl rfl hl.1 (Nat.le_of_ble_eq_true rfl) ⟨Nat.le_of_ble_eq_true rfl, Nat.le_of_ble_eq_true rfl⟩ dX1_joins_9 ⟨Nat.le_of_ble_eq_true rfl, Nat.le_of_ble_eq_true rfl⟩ (fun r_4 σ_3 H locs h1 hZ => ?_)
  rw [hQ]; exact z_zret C0 hr hlk hZ h1 dX1_joins_12
noncomputable def FX1_nearer_b55 (x1 : Int32) (σ : zS) : Option (Int32 × zS) := some (x1, σ)
noncomputable def FX1_nearer_b46 (x4 : Int32) (σ : zS) : Option (Int32 × zS) := some (x4, σ)
noncomputable def FX1_nearer_b49 (k0 : Nat) (x1 : Int32) (x2 : Int32) (x3 : Int32) (x4 : Int32) (σ : zS) : Option ((Int32 × zS) ⊕ (Int32 × zS)) := zlet (x4 + 1) (fun x4_1 => some (.inl (x4_1, σ)))
noncomputable def FX1_nearer_L10 (k0 : Nat) (x1 : Int32) (x2 : Int32) (x3 : Int32) (x4 : Int32) (σ : zS) : Option ((Int32 × zS) ⊕ (Int32 × zS)) := if (σ k0 0) ≤ x4 then zinr (FX1_nearer_b55 x1 σ) else if x3 = 99 then zinr (FX1_nearer_b55 x1 σ) else zbd (FX1_joins k0 x1 x4 σ) (fun r_3 σ_2 => if r_3 = 0 then FX1_nearer_b49 k0 x1 x2 x3 x4 σ_2 else zbd (FX1_between k0 x4 x2 σ_2) (fun r_5 σ_4 => if x3 ≤ r_5 then FX1_nearer_b49 k0 x1 x2 x3 x4 σ_4 else zinr (FX1_nearer_b46 x4 σ_4)))
noncomputable def FX1_nearer (k0 : Nat) (x1 : Int32) (x2 : Int32) (σ : zS) : Option (Int32 × zS) := zbd (FX1_between k0 x1 x2 σ) (fun r_7 σ_6 => zlet r_7 (fun x3_8 => zlet 0 (fun x4_9 => zlp (fun q => FX1_nearer_L10 k0 x1 x2 x3_8 q.1 q.2) (x4_9, σ_6))))
set_option maxHeartbeats 4000000 in
set_option maxRecDepth 100000 in
theorem kX1_nearer (l : Launch) {V : zV} {σ : zS} {t0 : Int32 × zS} {k0 : Nat} {x1 : Int32} {x2 : Int32} (hk0 : kd 0 k0 = 1) (h1 : FX1_nearer k0 x1 x2 σ = some t0) : zMi l yX1_nearer cX1_nearer 5 (some .int) 2 43 0 V σ t0 [.ref (zad V k0), .int x1, .int x2] := by
  refine zMi_of (by decide) (Nat.le_of_ble_eq_true rfl) ?_
  intro p e s m below meth c A C0 hr hlk hZ ls hl
  generalize ([.ref (zad V k0), .int x1, .int x2] : List Value).toArray = args at C0 ⊢
  obtain ⟨Q, hQ⟩ : ∃ Q, Q = MQ below (zQi 0 V t0 A) args s 0 0 A := ⟨_, rfl⟩
  rw [← hQ]
  have hx := C0.1
  have hb := C0.2.1
  have hl : lv_has ls 5 [(0, .ref (zad V k0)), (1, .int x1), (2, .int x2)] := hl
  unfold FX1_nearer at h1
  have J55 : ∀  (σ : zS) (H : Heap) (locs : List Loc) (ls : Array Slot), zZ 0 V A σ s H locs → lv_has ls 5 [(1, .int x1)] → FX1_nearer_b55 x1 σ = some t0 → W p l e (zrm 2 43) s m args below meth c H locs 0 0 Q (F0 m 55 ls []) := by
    intro  σ H locs ls  hZ hl h1
    unfold FX1_nearer_b55 at h1
    refine lv_iload_n hx hb dX1_nearer_55 rfl (lv_at hl 0 rfl) ?_
    rw [hQ]; exact z_iret C0 hr hlk hZ h1 dX1_nearer_56
  have J46 : ∀ (x4 : Int32) (σ : zS) (H : Heap) (locs : List Loc) (ls : Array Slot), zZ 0 V A σ s H locs → lv_has ls 5 [(4, .int x4)] → FX1_nearer_b46 x4 σ = some t0 → W p l e (zrm 2 43) s m args below meth c H locs 0 0 Q (F0 m 46 ls []) := by
    intro x4 σ H locs ls  hZ hl h1
    unfold FX1_nearer_b46 at h1
    refine lv_iload hx hb dX1_nearer_46 (lv_at hl 0 rfl) ?_
    rw [hQ]; exact z_iret C0 hr hlk hZ h1 dX1_nearer_48
  have J10 : ∀ (n : Nat) (x3 : Int32) (x4 : Int32) (σ : zS) (H : Heap) (locs : List Loc) (ls : Array Slot), zZ 0 V A σ s H locs → lv_has ls 5 [(0, .ref (zad V k0)), (1, .int x1), (2, .int x2), (3, .int x3), (4, .int x4)] → zit (fun q => FX1_nearer_L10 k0 x1 x2 x3 q.1 q.2) n (x4, σ) = some t0 → W p l e (zrm 2 43) s m args below meth c H locs 0 0 Q (F0 m 10 ls []) := by
    intro n
    induction n with
    | zero => intro x3 x4 σ H locs ls  _ _ h1; cases h1
    | succ n ih10 =>
      intro x3 x4 σ H locs ls  hZ hl h1
      obtain ⟨t1, h1, hz1⟩ := zit_1 h1
      have J49 : ∀ (x4 : Int32) (σ : zS) (H : Heap) (locs : List Loc) (ls : Array Slot), zZ 0 V A σ s H locs → lv_has ls 5 [(0, .ref (zad V k0)), (1, .int x1), (2, .int x2), (3, .int x3), (4, .int x4)] → FX1_nearer_b49 k0 x1 x2 x3 x4 σ = some t1 → W p l e (zrm 2 43) s m args below meth c H locs 0 0 Q (F0 m 49 ls []) := by
        intro x4 σ H locs ls  hZ hl h1
        unfold FX1_nearer_b49 at h1
        refine z_iinc (v := 1) C0 h1 hl (fun x4_1 => [(4, .int x4_1), (0, .ref (zad V k0)), (1, .int x1), (2, .int x2), (3, .int x3)]) dX1_nearer_49 (k := 4) rfl (by decide) (by decide) (fun _ => rfl) (fun x4_1 ls h1 hl => ?_)
        refine lv_goto (tgt := 10) hx hb dX1_nearer_52 (by decide) ?_
        exact ih10 x3 x4_1 _ _ _ _  hZ (lv_sub hl [1, 2, 3, 4, 0] rfl) (zback h1 hz1)
      replace h1 : FX1_nearer_L10 k0 x1 x2 x3 x4 σ = some t1 := h1
      unfold FX1_nearer_L10 at h1
      refine lv_iload hx hb dX1_nearer_10 (lv_at hl 4 rfl) ?_
      refine lv_aload_n hx hb dX1_nearer_12 rfl (lv_at hl 0 rfl) ?_
      refine z_geti C0 hZ hk0 fRX1_9 rfl dX1_nearer_13 ?_
      refine z_ic_ge (tgt := 55) C0 h1 dX1_nearer_16 (by decide) (fun h1 => ?_) (fun h1 => ?_)
      · have h1 := zout h1 hz1
        exact J55  _ _ _ _  hZ (lv_sub hl [1] rfl) h1
      refine lv_iload_n hx hb dX1_nearer_19 rfl (lv_at hl 3 rfl) ?_
      refine lv_bipush (v := 99) hx hb dX1_nearer_20 (by decide) ?_
      refine z_ic_eq (tgt := 55) C0 h1 dX1_nearer_22 (by decide) (fun h1 => ?_) (fun h1 => ?_)
      · have h1 := zout h1 hz1
        exact J55  _ _ _ _  hZ (lv_sub hl [1] rfl) h1
      refine lv_aload_n hx hb dX1_nearer_25 rfl (lv_at hl 0 rfl) ?_
      refine lv_iload_n hx hb dX1_nearer_26 rfl (lv_at hl 1 rfl) ?_
      refine lv_iload hx hb dX1_nearer_27 (lv_at hl 4 rfl) ?_
      refine z_cVi (As := [.int x1, .int x4]) (rest := []) C0 hZ h1 (fun _ hf => kX1_joins l hk0 hf) mRX1_57 vX1_joins hk0 rfl rfl hl.1 (Nat.le_of_ble_eq_true rfl) ⟨Nat.le_of_ble_eq_true rfl, Nat.le_of_ble_eq_true rfl⟩ dX1_nearer_29 ⟨Nat.le_of_ble_eq_true rfl, Nat.le_of_ble_eq_true rfl⟩ (fun r_3 σ_2 H locs h1 hZ => ?_)
      refine z_if_eq (tgt := 49) C0 h1 dX1_nearer_32 (by decide) (fun h1 => ?_) (fun h1 => ?_)
      · exact J49 x4 _ _ _ _  hZ (lv_sub hl [0, 1, 2, 3, 4] rfl) h1
      refine lv_aload_n hx hb dX1_nearer_35 rfl (lv_at hl 0 rfl) ?_
      refine lv_iload hx hb dX1_nearer_36 (lv_at hl 4 rfl) ?_
      refine lv_iload_n hx hb dX1_nearer_38 rfl (lv_at hl 2 rfl) ?_
      refine z_cVi (As := [.int x4, .int x2]) (rest := []) C0 hZ h1 (fun _ hf => kX1_between l hk0 hf) mRX1_60 vX1_between hk0 rfl rfl hl.1 (Nat.le_of_ble_eq_true rfl) ⟨Nat.le_of_ble_eq_true rfl, Nat.le_of_ble_eq_true rfl⟩ dX1_nearer_39 ⟨Nat.le_of_ble_eq_true rfl, Nat.le_of_ble_eq_true rfl⟩ (fun r_5 σ_4 H locs h1 hZ => ?_)
      refine lv_iload_n hx hb dX1_nearer_42 rfl (lv_at hl 3 rfl) ?_
      refine z_ic_ge (tgt := 49) C0 h1 dX1_nearer_43 (by decide) (fun h1 => ?_) (fun h1 => ?_)
      · exact J49 x4 _ _ _ _  hZ (lv_sub hl [0, 1, 2, 3, 4] rfl) h1
      have h1 := zout h1 hz1
      exact J46 x4 _ _ _ _  hZ (lv_sub hl [4] rfl) h1
  refine lv_aload_n hx hb dX1_nearer_0 rfl (lv_at hl 0 rfl) ?_
  refine lv_iload_n hx hb dX1_nearer_1 rfl (lv_at hl 1 rfl) ?_
  refine lv_iload_n hx hb dX1_nearer_2 rfl (lv_at hl 2 rfl) ?_
  refine z_cVi (As := [.int x1, .int x2]) (rest := []) C0 hZ h1 (fun _ hf => kX1_between l hk0 hf) mRX1_60 vX1_between hk0 rfl rfl hl.1 (Nat.le_of_ble_eq_true rfl) ⟨Nat.le_of_ble_eq_true rfl, Nat.le_of_ble_eq_true rfl⟩ dX1_nearer_3 ⟨Nat.le_of_ble_eq_true rfl, Nat.le_of_ble_eq_true rfl⟩ (fun r_7 σ_6 H locs h1 hZ => ?_)
  refine z_istore_n C0 h1 hl (fun x3_8 => [(3, .int x3_8), (0, .ref (zad V k0)), (1, .int x1), (2, .int x2)]) dX1_nearer_6 rfl (by decide) (fun _ => rfl) (fun x3_8 ls h1 hl => ?_)
  refine lv_iconst (v := 0) hx hb dX1_nearer_7 (by decide) ?_
  refine z_istore C0 h1 hl (fun x4_9 => [(4, .int x4_9), (3, .int x3_8), (0, .ref (zad V k0)), (1, .int x1), (2, .int x2)]) dX1_nearer_8 (by decide) (fun _ => rfl) (fun x4_9 ls h1 hl => ?_)
  obtain ⟨n, h1⟩ := zlp_iff.mp h1
  exact J10 n x3_8 x4_9 _ _ _ _  hZ (lv_sub hl [2, 3, 4, 1, 0] rfl) h1
noncomputable def FX0_follow_b16  (σ : zS) : Option (Int32 × zS) := some (0, σ)
noncomputable def FX0_follow_b81  (σ : zS) : Option (Int32 × zS) := some (0, σ)
noncomputable def FX0_follow_b37 (k0 : Nat) (y0 : Int32) (σ : zS) : Option (Int32 × zS) := zlet y0 (fun x2_1 => if x2_1 = (-1) then FX0_follow_b81  σ else zbd (FX7_at (k0 + 4) x2_1 σ) (fun r_3 σ_2 => if r_3 = (-1) then FX0_follow_b81  σ_2 else zgd (kd 0 (σ_2 k0 0).toNatClampNeg == 5) (zlet (σ_2 k0 0).toNatClampNeg (fun q_4 => zbd (FX7_at (k0 + 4) x2_1 σ_2) (fun r_6 σ_5 => zbd (FX1_nearer (q_4 + 1) (σ_2 k0 12) r_6 σ_5) (fun r_8 σ_7 => zlet (zup σ_7 k0 12 r_8) (fun σ_9 => FX0_follow_b81  σ_9)))))))
noncomputable def FX0_follow (k0 : Nat) (x1 : Int32) (σ : zS) : Option (Int32 × zS) := if (σ k0 12) = (-1) then FX0_follow_b16  σ else if (σ k0 1) = 3 then FX0_follow_b16  σ else if (σ k0 1) = 1 then zbd (FX0_chosen k0 x1 σ) (fun r_11 σ_10 => FX0_follow_b37 k0 r_11 σ_10) else FX0_follow_b37 k0 (σ k0 2) σ
set_option maxHeartbeats 4000000 in
set_option maxRecDepth 100000 in
theorem kX0_follow (l : Launch) {V : zV} {σ : zS} {t0 : Int32 × zS} {k0 : Nat} {x1 : Int32} (hk0 : kd 0 k0 = 0) (h1 : FX0_follow k0 x1 σ = some t0) : zMv l yX0_follow cX0_follow 3 4 95 0 V σ t0 [.ref (zad V k0), .int x1] := by
  refine zMv_of (by decide) (Nat.le_of_ble_eq_true rfl) ?_
  intro p e s m below meth c A C0 hr hlk hZ ls hl
  generalize ([.ref (zad V k0), .int x1] : List Value).toArray = args at C0 ⊢
  obtain ⟨Q, hQ⟩ : ∃ Q, Q = MQ below (zQv 0 V t0 A) args s 0 0 A := ⟨_, rfl⟩
  rw [← hQ]
  have hx := C0.1
  have hb := C0.2.1
  have hl : lv_has ls 3 [(0, .ref (zad V k0)), (1, .int x1)] := hl
  unfold FX0_follow at h1
  have J16 : ∀  (σ : zS) (H : Heap) (locs : List Loc) (ls : Array Slot), zZ 0 V A σ s H locs → lv_has ls 3 [] → FX0_follow_b16  σ = some t0 → W p l e (zrm 4 95) s m args below meth c H locs 0 0 Q (F0 m 16 ls []) := by
    intro  σ H locs ls  hZ hl h1
    unfold FX0_follow_b16 at h1
    rw [hQ]; exact z_vret C0 hr hlk hZ h1 dX0_follow_16
  have J81 : ∀  (σ : zS) (H : Heap) (locs : List Loc) (ls : Array Slot), zZ 0 V A σ s H locs → lv_has ls 3 [] → FX0_follow_b81  σ = some t0 → W p l e (zrm 4 95) s m args below meth c H locs 0 0 Q (F0 m 81 ls []) := by
    intro  σ H locs ls  hZ hl h1
    unfold FX0_follow_b81 at h1
    rw [hQ]; exact z_vret C0 hr hlk hZ h1 dX0_follow_81
  have J37 : ∀ (y0 : Int32) (σ : zS) (H : Heap) (locs : List Loc) (ls : Array Slot), zZ 0 V A σ s H locs → lv_has ls 3 [(0, .ref (zad V k0))] → FX0_follow_b37 k0 y0 σ = some t0 → W p l e (zrm 4 95) s m args below meth c H locs 0 0 Q (F0 m 37 ls [.int y0]) := by
    intro y0 σ H locs ls  hZ hl h1
    unfold FX0_follow_b37 at h1
    refine z_istore_n C0 h1 hl (fun x2_1 => [(2, .int x2_1), (0, .ref (zad V k0))]) dX0_follow_37 rfl (by decide) (fun _ => rfl) (fun x2_1 ls h1 hl => ?_)
    refine lv_iload_n hx hb dX0_follow_38 rfl (lv_at hl 0 rfl) ?_
    refine lv_iconst (v := (-1)) hx hb dX0_follow_39 (by decide) ?_
    refine z_ic_eq (tgt := 81) C0 h1 dX0_follow_40 (by decide) (fun h1 => ?_) (fun h1 => ?_)
    · exact J81  _ _ _ _  hZ (lv_sub hl [] rfl) h1
    refine lv_aload_n hx hb dX0_follow_43 rfl (lv_at hl 1 rfl) ?_
    refine z_getr C0 hZ hk0 fRX0_37 rfl dX0_follow_44 ?_
    refine lv_iload_n hx hb dX0_follow_47 rfl (lv_at hl 0 rfl) ?_
    refine z_cSi (As := [.ref (zad V (k0 + 4)), .int x2_1]) (rest := []) C0 hZ h1 (fun _ hf => kX7_at l (zkt0_9 hk0) hf) mRX0_118 sX7_at rfl rfl hl.1 (Nat.le_of_ble_eq_true rfl) ⟨Nat.le_of_ble_eq_true rfl, Nat.le_of_ble_eq_true rfl⟩ dX0_follow_48 ⟨Nat.le_of_ble_eq_true rfl, Nat.le_of_ble_eq_true rfl⟩ (fun r_3 σ_2 H locs h1 hZ => ?_)
    refine lv_iconst (v := (-1)) hx hb dX0_follow_51 (by decide) ?_
    refine z_ic_eq (tgt := 81) C0 h1 dX0_follow_52 (by decide) (fun h1 => ?_) (fun h1 => ?_)
    · exact J81  _ _ _ _  hZ (lv_sub hl [] rfl) h1
    refine lv_aload_n hx hb dX0_follow_55 rfl (lv_at hl 1 rfl) ?_
    refine lv_aload_n hx hb dX0_follow_56 rfl (lv_at hl 1 rfl) ?_
    refine z_getm C0 hZ h1 hk0 fRX0_64 rfl dX0_follow_57 (fun q_4 hq_4 h1 => ?_)
    refine z_getr C0 hZ hq_4 fRX0_74 rfl dX0_follow_60 ?_
    refine lv_aload_n hx hb dX0_follow_63 rfl (lv_at hl 1 rfl) ?_
    refine z_geti C0 hZ hk0 fRX0_46 rfl dX0_follow_64 ?_
    refine lv_aload_n hx hb dX0_follow_67 rfl (lv_at hl 1 rfl) ?_
    refine z_getr C0 hZ hk0 fRX0_37 rfl dX0_follow_68 ?_
    refine lv_iload_n hx hb dX0_follow_71 rfl (lv_at hl 0 rfl) ?_
    refine z_cSi (As := [.ref (zad V (k0 + 4)), .int x2_1]) (rest := [.int (σ_2 k0 12), .ref (zad V (q_4 + 1)), .ref (zad V k0)]) C0 hZ h1 (fun _ hf => kX7_at l (zkt0_9 hk0) hf) mRX0_118 sX7_at rfl rfl hl.1 (Nat.le_of_ble_eq_true rfl) ⟨Nat.le_of_ble_eq_true rfl, Nat.le_of_ble_eq_true rfl⟩ dX0_follow_72 ⟨Nat.le_of_ble_eq_true rfl, Nat.le_of_ble_eq_true rfl⟩ (fun r_6 σ_5 H locs h1 hZ => ?_)
    refine z_cVi (As := [.int (σ_2 k0 12), .int r_6]) (rest := [.ref (zad V k0)]) C0 hZ h1 (fun _ hf => kX1_nearer l (zkt5_0 hq_4) hf) mRX0_172 vX1_nearer (zkt5_0 hq_4) rfl rfl hl.1 (Nat.le_of_ble_eq_true rfl) ⟨Nat.le_of_ble_eq_true rfl, Nat.le_of_ble_eq_true rfl⟩ dX0_follow_75 ⟨Nat.le_of_ble_eq_true rfl, Nat.le_of_ble_eq_true rfl⟩ (fun r_8 σ_7 H locs h1 hZ => ?_)
    refine z_puti C0 hZ h1 hk0 fRX0_46 rfl tyX0_ok nmX0 rfl rfl rfl dX0_follow_78 (fun σ_9 H locs h1 hZ => ?_)
    exact J81  _ _ _ _  hZ (lv_sub hl [] rfl) h1
  refine lv_aload_n hx hb dX0_follow_0 rfl (lv_at hl 0 rfl) ?_
  refine z_geti C0 hZ hk0 fRX0_46 rfl dX0_follow_1 ?_
  refine lv_iconst (v := (-1)) hx hb dX0_follow_4 (by decide) ?_
  refine z_ic_eq (tgt := 16) C0 h1 dX0_follow_5 (by decide) (fun h1 => ?_) (fun h1 => ?_)
  · exact J16  _ _ _ _  hZ (lv_sub hl [] rfl) h1
  refine lv_aload_n hx hb dX0_follow_8 rfl (lv_at hl 0 rfl) ?_
  refine z_geti C0 hZ hk0 fRX0_9 rfl dX0_follow_9 ?_
  refine lv_iconst (v := 3) hx hb dX0_follow_12 (by decide) ?_
  refine z_ic_ne (tgt := 17) C0 h1 dX0_follow_13 (by decide) (fun h1 => ?_) (fun h1 => ?_)
  · refine lv_aload_n hx hb dX0_follow_17 rfl (lv_at hl 0 rfl) ?_
    refine z_geti C0 hZ hk0 fRX0_9 rfl dX0_follow_18 ?_
    refine lv_iconst (v := 1) hx hb dX0_follow_21 (by decide) ?_
    refine z_ic_ne (tgt := 33) C0 h1 dX0_follow_22 (by decide) (fun h1 => ?_) (fun h1 => ?_)
    · refine lv_aload_n hx hb dX0_follow_33 rfl (lv_at hl 0 rfl) ?_
      refine z_geti C0 hZ hk0 fRX0_15 rfl dX0_follow_34 ?_
      exact J37 (σ k0 2) _ _ _ _  hZ (lv_sub hl [0] rfl) h1
    refine lv_aload_n hx hb dX0_follow_25 rfl (lv_at hl 0 rfl) ?_
    refine lv_iload_n hx hb dX0_follow_26 rfl (lv_at hl 1 rfl) ?_
    refine z_cVi (As := [.int x1]) (rest := []) C0 hZ h1 (fun _ hf => kX0_chosen l hk0 hf) mRX0_169 vX0_chosen hk0 rfl rfl hl.1 (Nat.le_of_ble_eq_true rfl) ⟨Nat.le_of_ble_eq_true rfl, Nat.le_of_ble_eq_true rfl⟩ dX0_follow_27 ⟨Nat.le_of_ble_eq_true rfl, Nat.le_of_ble_eq_true rfl⟩ (fun r_11 σ_10 H locs h1 hZ => ?_)
    refine lv_goto (tgt := 37) hx hb dX0_follow_30 (by decide) ?_
    exact J37 r_11 _ _ _ _  hZ (lv_sub hl [0] rfl) h1
  exact J16  _ _ _ _  hZ (lv_sub hl [] rfl) h1
noncomputable def FX0_noticeHim_b40  (σ : zS) : Option (Int32 × zS) := some (0, σ)
noncomputable def FX0_noticeHim (k0 : Nat) (x1 : Int32) (σ : zS) : Option (Int32 × zS) := zbd (FX0_mark k0 6 x1 σ) (fun _ σ_1 => zbd (FX7_at (k0 + 5) x1 σ_1) (fun r_4 σ_3 => if r_4 = (-1) then FX0_noticeHim_b40  σ_3 else zbd (FX7_at (k0 + 5) x1 σ_3) (fun r_6 σ_5 => zbd (FX0_putBack k0 r_6 σ_5) (fun _ σ_7 => zbd (FX7_put (k0 + 5) x1 (-1) σ_7) (fun _ σ_9 => FX0_noticeHim_b40  σ_9)))))
set_option maxHeartbeats 4000000 in
set_option maxRecDepth 100000 in
theorem kX0_noticeHim (l : Launch) {V : zV} {σ : zS} {t0 : Int32 × zS} {k0 : Nat} {x1 : Int32} (hk0 : kd 0 k0 = 0) (h1 : FX0_noticeHim k0 x1 σ = some t0) : zMv l yX0_noticeHim cX0_noticeHim 2 2 44 0 V σ t0 [.ref (zad V k0), .int x1] := by
  refine zMv_of (by decide) (Nat.le_of_ble_eq_true rfl) ?_
  intro p e s m below meth c A C0 hr hlk hZ ls hl
  generalize ([.ref (zad V k0), .int x1] : List Value).toArray = args at C0 ⊢
  obtain ⟨Q, hQ⟩ : ∃ Q, Q = MQ below (zQv 0 V t0 A) args s 0 0 A := ⟨_, rfl⟩
  rw [← hQ]
  have hx := C0.1
  have hb := C0.2.1
  have hl : lv_has ls 2 [(0, .ref (zad V k0)), (1, .int x1)] := hl
  unfold FX0_noticeHim at h1
  have J40 : ∀  (σ : zS) (H : Heap) (locs : List Loc) (ls : Array Slot), zZ 0 V A σ s H locs → lv_has ls 2 [] → FX0_noticeHim_b40  σ = some t0 → W p l e (zrm 2 44) s m args below meth c H locs 0 0 Q (F0 m 40 ls []) := by
    intro  σ H locs ls  hZ hl h1
    unfold FX0_noticeHim_b40 at h1
    rw [hQ]; exact z_vret C0 hr hlk hZ h1 dX0_noticeHim_40
  refine lv_aload_n hx hb dX0_noticeHim_0 rfl (lv_at hl 0 rfl) ?_
  refine lv_bipush (v := 6) hx hb dX0_noticeHim_1 (by decide) ?_
  refine lv_iload_n hx hb dX0_noticeHim_3 rfl (lv_at hl 1 rfl) ?_
  refine z_cVv (As := [.int 6, .int x1]) (rest := []) C0 hZ h1 (fun _ hf => kX0_mark l hk0 hf) mRX0_159 vX0_mark hk0 rfl rfl hl.1 (Nat.le_of_ble_eq_true rfl) ⟨Nat.le_of_ble_eq_true rfl, Nat.le_of_ble_eq_true rfl⟩ dX0_noticeHim_4 ⟨Nat.le_of_ble_eq_true rfl, Nat.le_of_ble_eq_true rfl⟩ (fun _ σ_1 H locs h1 hZ => ?_)
  refine lv_aload_n hx hb dX0_noticeHim_7 rfl (lv_at hl 0 rfl) ?_
  refine z_getr C0 hZ hk0 fRX0_40 rfl dX0_noticeHim_8 ?_
  refine lv_iload_n hx hb dX0_noticeHim_11 rfl (lv_at hl 1 rfl) ?_
  refine z_cSi (As := [.ref (zad V (k0 + 5)), .int x1]) (rest := []) C0 hZ h1 (fun _ hf => kX7_at l (zkt0_10 hk0) hf) mRX0_118 sX7_at rfl rfl hl.1 (Nat.le_of_ble_eq_true rfl) ⟨Nat.le_of_ble_eq_true rfl, Nat.le_of_ble_eq_true rfl⟩ dX0_noticeHim_12 ⟨Nat.le_of_ble_eq_true rfl, Nat.le_of_ble_eq_true rfl⟩ (fun r_4 σ_3 H locs h1 hZ => ?_)
  refine lv_iconst (v := (-1)) hx hb dX0_noticeHim_15 (by decide) ?_
  refine z_ic_eq (tgt := 40) C0 h1 dX0_noticeHim_16 (by decide) (fun h1 => ?_) (fun h1 => ?_)
  · exact J40  _ _ _ _  hZ (lv_sub hl [] rfl) h1
  refine lv_aload_n hx hb dX0_noticeHim_19 rfl (lv_at hl 0 rfl) ?_
  refine lv_aload_n hx hb dX0_noticeHim_20 rfl (lv_at hl 0 rfl) ?_
  refine z_getr C0 hZ hk0 fRX0_40 rfl dX0_noticeHim_21 ?_
  refine lv_iload_n hx hb dX0_noticeHim_24 rfl (lv_at hl 1 rfl) ?_
  refine z_cSi (As := [.ref (zad V (k0 + 5)), .int x1]) (rest := [.ref (zad V k0)]) C0 hZ h1 (fun _ hf => kX7_at l (zkt0_10 hk0) hf) mRX0_118 sX7_at rfl rfl hl.1 (Nat.le_of_ble_eq_true rfl) ⟨Nat.le_of_ble_eq_true rfl, Nat.le_of_ble_eq_true rfl⟩ dX0_noticeHim_25 ⟨Nat.le_of_ble_eq_true rfl, Nat.le_of_ble_eq_true rfl⟩ (fun r_6 σ_5 H locs h1 hZ => ?_)
  refine z_cVv (As := [.int r_6]) (rest := []) C0 hZ h1 (fun _ hf => kX0_putBack l hk0 hf) mRX0_162 vX0_putBack hk0 rfl rfl hl.1 (Nat.le_of_ble_eq_true rfl) ⟨Nat.le_of_ble_eq_true rfl, Nat.le_of_ble_eq_true rfl⟩ dX0_noticeHim_28 ⟨Nat.le_of_ble_eq_true rfl, Nat.le_of_ble_eq_true rfl⟩ (fun _ σ_7 H locs h1 hZ => ?_)
  refine lv_aload_n hx hb dX0_noticeHim_31 rfl (lv_at hl 0 rfl) ?_
  refine z_getr C0 hZ hk0 fRX0_40 rfl dX0_noticeHim_32 ?_
  refine lv_iload_n hx hb dX0_noticeHim_35 rfl (lv_at hl 1 rfl) ?_
  refine lv_iconst (v := (-1)) hx hb dX0_noticeHim_36 (by decide) ?_
  refine z_cSv (As := [.ref (zad V (k0 + 5)), .int x1, .int (-1)]) (rest := []) C0 hZ h1 (fun _ hf => kX7_put l (zkt0_10 hk0) hf) mRX0_139 sX7_put rfl rfl hl.1 (Nat.le_of_ble_eq_true rfl) ⟨Nat.le_of_ble_eq_true rfl, Nat.le_of_ble_eq_true rfl⟩ dX0_noticeHim_37 ⟨Nat.le_of_ble_eq_true rfl, Nat.le_of_ble_eq_true rfl⟩ (fun _ σ_9 H locs h1 hZ => ?_)
  exact J40  _ _ _ _  hZ (lv_sub hl [] rfl) h1
noncomputable def FX0_notice_b144  (σ : zS) : Option (Int32 × zS) := some (0, σ)
noncomputable def FX0_notice_b138 (k0 : Nat) (x1 : Int32) (x2 : Int32) (σ : zS) : Option ((Int32 × zS) ⊕ (Int32 × zS)) := zlet (x2 + 1) (fun x2_1 => some (.inl (x2_1, σ)))
noncomputable def FX0_notice_b118 (k0 : Nat) (x1 : Int32) (x2 : Int32) (q0 : Nat) (y1 : Int32) (y2 : Int32) (σ : zS) : Option ((Int32 × zS) ⊕ (Int32 × zS)) := zbd (FX7_put q0 y1 y2 σ) (fun _ σ_2 => zbd (FX7_at (k0 + 6) x2 σ_2) (fun r_5 σ_4 => if r_5 < x1 then FX0_notice_b138 k0 x1 x2 σ_4 else zbd (FX0_noticeHim k0 x2 σ_4) (fun _ σ_6 => FX0_notice_b138 k0 x1 x2 σ_6)))
noncomputable def FX0_notice_b117 (k0 : Nat) (x1 : Int32) (x2 : Int32) (q0 : Nat) (y1 : Int32) (σ : zS) : Option ((Int32 × zS) ⊕ (Int32 × zS)) := FX0_notice_b118 k0 x1 x2 q0 y1 0 σ
noncomputable def FX0_notice_b88 (k0 : Nat) (x1 : Int32) (x2 : Int32) (x3 : Int32) (y0 : Int32) (σ : zS) : Option ((Int32 × zS) ⊕ (Int32 × zS)) := zlet y0 (fun x4_8 => if x3 = 0 then FX0_notice_b117 k0 x1 x2 (k0 + 6) x2 σ else if x4_8 = 0 then FX0_notice_b117 k0 x1 x2 (k0 + 6) x2 σ else zbd (FX7_at (k0 + 6) x2 σ) (fun r_10 σ_9 => FX0_notice_b118 k0 x1 x2 (k0 + 6) x2 (r_10 + 1) σ_9))
noncomputable def FX0_notice_b64 (k0 : Nat) (x1 : Int32) (x2 : Int32) (y0 : Int32) (σ : zS) : Option ((Int32 × zS) ⊕ (Int32 × zS)) := zlet y0 (fun x3_11 => zgd (kd 0 (σ k0 0).toNatClampNeg == 5) (zlet (σ k0 0).toNatClampNeg (fun q_12 => zbd (FX7_at ((q_12 + 7) + 1) x2 σ) (fun r_14 σ_13 => if r_14 = 1 then FX0_notice_b88 k0 x1 x2 x3_11 1 σ_13 else FX0_notice_b88 k0 x1 x2 x3_11 0 σ_13))))
noncomputable def FX0_notice_b63 (k0 : Nat) (x1 : Int32) (x2 : Int32) (σ : zS) : Option ((Int32 × zS) ⊕ (Int32 × zS)) := FX0_notice_b64 k0 x1 x2 0 σ
noncomputable def FX0_notice_L22 (k0 : Nat) (x1 : Int32) (x2 : Int32) (σ : zS) : Option ((Int32 × zS) ⊕ (Int32 × zS)) := zgd (kd 0 (σ k0 0).toNatClampNeg == 5) (zlet (σ k0 0).toNatClampNeg (fun q_15 => if (σ (q_15 + 7) 0) ≤ x2 then zinr (FX0_notice_b144  σ) else if (σ k0 12) = (-1) then FX0_notice_b63 k0 x1 x2 σ else zbd (FX7_at (k0 + 4) x2 σ) (fun r_17 σ_16 => if r_17 = (σ_16 k0 12) then FX0_notice_b64 k0 x1 x2 1 σ_16 else FX0_notice_b63 k0 x1 x2 σ_16)))
noncomputable def FX0_notice_b19 (k0 : Nat) (y0 : Int32) (σ : zS) : Option (Int32 × zS) := zlet y0 (fun x1_18 => zlet 0 (fun x2_19 => zlp (fun q => FX0_notice_L22 k0 x1_18 q.1 q.2) (x2_19, σ)))
noncomputable def FX0_notice (k0 : Nat) (σ : zS) : Option (Int32 × zS) := if (σ k0 3) = 1 then FX0_notice_b19 k0 1 σ else zgd (kd 0 (σ k0 0).toNatClampNeg == 5) (zlet (σ k0 0).toNatClampNeg (fun q_20 => FX0_notice_b19 k0 (σ q_20 3) σ))
set_option maxHeartbeats 4000000 in
set_option maxRecDepth 100000 in
theorem kX0_notice (l : Launch) {V : zV} {σ : zS} {t0 : Int32 × zS} {k0 : Nat} (hk0 : kd 0 k0 = 0) (h1 : FX0_notice k0 σ = some t0) : zMv l yX0_notice cX0_notice 5 3 65 0 V σ t0 [.ref (zad V k0)] := by
  refine zMv_of (by decide) (Nat.le_of_ble_eq_true rfl) ?_
  intro p e s m below meth c A C0 hr hlk hZ ls hl
  generalize ([.ref (zad V k0)] : List Value).toArray = args at C0 ⊢
  obtain ⟨Q, hQ⟩ : ∃ Q, Q = MQ below (zQv 0 V t0 A) args s 0 0 A := ⟨_, rfl⟩
  rw [← hQ]
  have hx := C0.1
  have hb := C0.2.1
  have hl : lv_has ls 5 [(0, .ref (zad V k0))] := hl
  unfold FX0_notice at h1
  have J144 : ∀  (σ : zS) (H : Heap) (locs : List Loc) (ls : Array Slot), zZ 0 V A σ s H locs → lv_has ls 5 [] → FX0_notice_b144  σ = some t0 → W p l e (zrm 3 65) s m args below meth c H locs 0 0 Q (F0 m 144 ls []) := by
    intro  σ H locs ls  hZ hl h1
    unfold FX0_notice_b144 at h1
    rw [hQ]; exact z_vret C0 hr hlk hZ h1 dX0_notice_144
  have J22 : ∀ (n : Nat) (x1 : Int32) (x2 : Int32) (σ : zS) (H : Heap) (locs : List Loc) (ls : Array Slot), zZ 0 V A σ s H locs → lv_has ls 5 [(0, .ref (zad V k0)), (1, .int x1), (2, .int x2)] → zit (fun q => FX0_notice_L22 k0 x1 q.1 q.2) n (x2, σ) = some t0 → W p l e (zrm 3 65) s m args below meth c H locs 0 0 Q (F0 m 22 ls []) := by
    intro n
    induction n with
    | zero => intro x1 x2 σ H locs ls  _ _ h1; cases h1
    | succ n ih22 =>
      intro x1 x2 σ H locs ls  hZ hl h1
      obtain ⟨t1, h1, hz1⟩ := zit_1 h1
      have J138 : ∀ (x2 : Int32) (σ : zS) (H : Heap) (locs : List Loc) (ls : Array Slot), zZ 0 V A σ s H locs → lv_has ls 5 [(0, .ref (zad V k0)), (1, .int x1), (2, .int x2)] → FX0_notice_b138 k0 x1 x2 σ = some t1 → W p l e (zrm 3 65) s m args below meth c H locs 0 0 Q (F0 m 138 ls []) := by
        intro x2 σ H locs ls  hZ hl h1
        unfold FX0_notice_b138 at h1
        refine z_iinc (v := 1) C0 h1 hl (fun x2_1 => [(2, .int x2_1), (0, .ref (zad V k0)), (1, .int x1)]) dX0_notice_138 (k := 2) rfl (by decide) (by decide) (fun _ => rfl) (fun x2_1 ls h1 hl => ?_)
        refine lv_goto (tgt := 22) hx hb dX0_notice_141 (by decide) ?_
        exact ih22 x1 x2_1 _ _ _ _  hZ (lv_sub hl [1, 2, 0] rfl) (zback h1 hz1)
      have J118 : ∀ (x2 : Int32) (q0 : Nat) (y1 : Int32) (y2 : Int32) (σ : zS) (H : Heap) (locs : List Loc) (ls : Array Slot), kd 0 q0 = 100 → zZ 0 V A σ s H locs → lv_has ls 5 [(0, .ref (zad V k0)), (1, .int x1), (2, .int x2)] → FX0_notice_b118 k0 x1 x2 q0 y1 y2 σ = some t1 → W p l e (zrm 3 65) s m args below meth c H locs 0 0 Q (F0 m 118 ls [.int y2, .int y1, .ref (zad V q0)]) := by
        intro x2 q0 y1 y2 σ H locs ls hq0 hZ hl h1
        unfold FX0_notice_b118 at h1
        refine z_cSv (As := [.ref (zad V q0), .int y1, .int y2]) (rest := []) C0 hZ h1 (fun _ hf => kX7_put l hq0 hf) mRX0_139 sX7_put rfl rfl hl.1 (Nat.le_of_ble_eq_true rfl) ⟨Nat.le_of_ble_eq_true rfl, Nat.le_of_ble_eq_true rfl⟩ dX0_notice_118 ⟨Nat.le_of_ble_eq_true rfl, Nat.le_of_ble_eq_true rfl⟩ (fun _ σ_2 H locs h1 hZ => ?_)
        refine lv_aload_n hx hb dX0_notice_121 rfl (lv_at hl 0 rfl) ?_
        refine z_getr C0 hZ hk0 fRX0_43 rfl dX0_notice_122 ?_
        refine lv_iload_n hx hb dX0_notice_125 rfl (lv_at hl 2 rfl) ?_
        refine z_cSi (As := [.ref (zad V (k0 + 6)), .int x2]) (rest := []) C0 hZ h1 (fun _ hf => kX7_at l (zkt0_11 hk0) hf) mRX0_118 sX7_at rfl rfl hl.1 (Nat.le_of_ble_eq_true rfl) ⟨Nat.le_of_ble_eq_true rfl, Nat.le_of_ble_eq_true rfl⟩ dX0_notice_126 ⟨Nat.le_of_ble_eq_true rfl, Nat.le_of_ble_eq_true rfl⟩ (fun r_5 σ_4 H locs h1 hZ => ?_)
        refine lv_iload_n hx hb dX0_notice_129 rfl (lv_at hl 1 rfl) ?_
        refine z_ic_lt (tgt := 138) C0 h1 dX0_notice_130 (by decide) (fun h1 => ?_) (fun h1 => ?_)
        · exact J138 x2 _ _ _ _  hZ (lv_sub hl [0, 1, 2] rfl) h1
        refine lv_aload_n hx hb dX0_notice_133 rfl (lv_at hl 0 rfl) ?_
        refine lv_iload_n hx hb dX0_notice_134 rfl (lv_at hl 2 rfl) ?_
        refine z_cVv (As := [.int x2]) (rest := []) C0 hZ h1 (fun _ hf => kX0_noticeHim l hk0 hf) mRX0_199 vX0_noticeHim hk0 rfl rfl hl.1 (Nat.le_of_ble_eq_true rfl) ⟨Nat.le_of_ble_eq_true rfl, Nat.le_of_ble_eq_true rfl⟩ dX0_notice_135 ⟨Nat.le_of_ble_eq_true rfl, Nat.le_of_ble_eq_true rfl⟩ (fun _ σ_6 H locs h1 hZ => ?_)
        exact J138 x2 _ _ _ _  hZ (lv_sub hl [0, 1, 2] rfl) h1
      have J117 : ∀ (x2 : Int32) (q0 : Nat) (y1 : Int32) (σ : zS) (H : Heap) (locs : List Loc) (ls : Array Slot), kd 0 q0 = 100 → zZ 0 V A σ s H locs → lv_has ls 5 [(0, .ref (zad V k0)), (1, .int x1), (2, .int x2)] → FX0_notice_b117 k0 x1 x2 q0 y1 σ = some t1 → W p l e (zrm 3 65) s m args below meth c H locs 0 0 Q (F0 m 117 ls [.int y1, .ref (zad V q0)]) := by
        intro x2 q0 y1 σ H locs ls hq0 hZ hl h1
        unfold FX0_notice_b117 at h1
        refine lv_iconst (v := 0) hx hb dX0_notice_117 (by decide) ?_
        exact J118 x2 q0 y1 0 _ _ _ _ hq0 hZ (lv_sub hl [0, 1, 2] rfl) h1
      have J88 : ∀ (x2 : Int32) (x3 : Int32) (y0 : Int32) (σ : zS) (H : Heap) (locs : List Loc) (ls : Array Slot), zZ 0 V A σ s H locs → lv_has ls 5 [(0, .ref (zad V k0)), (1, .int x1), (2, .int x2), (3, .int x3)] → FX0_notice_b88 k0 x1 x2 x3 y0 σ = some t1 → W p l e (zrm 3 65) s m args below meth c H locs 0 0 Q (F0 m 88 ls [.int y0]) := by
        intro x2 x3 y0 σ H locs ls  hZ hl h1
        unfold FX0_notice_b88 at h1
        refine z_istore C0 h1 hl (fun x4_8 => [(4, .int x4_8), (0, .ref (zad V k0)), (1, .int x1), (2, .int x2), (3, .int x3)]) dX0_notice_88 (by decide) (fun _ => rfl) (fun x4_8 ls h1 hl => ?_)
        refine lv_aload_n hx hb dX0_notice_90 rfl (lv_at hl 1 rfl) ?_
        refine z_getr C0 hZ hk0 fRX0_43 rfl dX0_notice_91 ?_
        refine lv_iload_n hx hb dX0_notice_94 rfl (lv_at hl 3 rfl) ?_
        refine lv_iload_n hx hb dX0_notice_95 rfl (lv_at hl 4 rfl) ?_
        refine z_if_eq (tgt := 117) C0 h1 dX0_notice_96 (by decide) (fun h1 => ?_) (fun h1 => ?_)
        · exact J117 x2 (k0 + 6) x2 _ _ _ _ (zkt0_11 hk0) hZ (lv_sub hl [1, 2, 3] rfl) h1
        refine lv_iload hx hb dX0_notice_99 (lv_at hl 0 rfl) ?_
        refine z_if_eq (tgt := 117) C0 h1 dX0_notice_101 (by decide) (fun h1 => ?_) (fun h1 => ?_)
        · exact J117 x2 (k0 + 6) x2 _ _ _ _ (zkt0_11 hk0) hZ (lv_sub hl [1, 2, 3] rfl) h1
        refine lv_aload_n hx hb dX0_notice_104 rfl (lv_at hl 1 rfl) ?_
        refine z_getr C0 hZ hk0 fRX0_43 rfl dX0_notice_105 ?_
        refine lv_iload_n hx hb dX0_notice_108 rfl (lv_at hl 3 rfl) ?_
        refine z_cSi (As := [.ref (zad V (k0 + 6)), .int x2]) (rest := [.int x2, .ref (zad V (k0 + 6))]) C0 hZ h1 (fun _ hf => kX7_at l (zkt0_11 hk0) hf) mRX0_118 sX7_at rfl rfl hl.1 (Nat.le_of_ble_eq_true rfl) ⟨Nat.le_of_ble_eq_true rfl, Nat.le_of_ble_eq_true rfl⟩ dX0_notice_109 ⟨Nat.le_of_ble_eq_true rfl, Nat.le_of_ble_eq_true rfl⟩ (fun r_10 σ_9 H locs h1 hZ => ?_)
        refine lv_iconst (v := 1) hx hb dX0_notice_112 (by decide) ?_
        refine lv_iadd hx hb dX0_notice_113 ?_
        refine lv_goto (tgt := 118) hx hb dX0_notice_114 (by decide) ?_
        exact J118 x2 (k0 + 6) x2 (r_10 + 1) _ _ _ _ (zkt0_11 hk0) hZ (lv_sub hl [1, 2, 3] rfl) h1
      have J64 : ∀ (x2 : Int32) (y0 : Int32) (σ : zS) (H : Heap) (locs : List Loc) (ls : Array Slot), zZ 0 V A σ s H locs → lv_has ls 5 [(0, .ref (zad V k0)), (1, .int x1), (2, .int x2)] → FX0_notice_b64 k0 x1 x2 y0 σ = some t1 → W p l e (zrm 3 65) s m args below meth c H locs 0 0 Q (F0 m 64 ls [.int y0]) := by
        intro x2 y0 σ H locs ls  hZ hl h1
        unfold FX0_notice_b64 at h1
        refine z_istore_n C0 h1 hl (fun x3_11 => [(3, .int x3_11), (0, .ref (zad V k0)), (1, .int x1), (2, .int x2)]) dX0_notice_64 rfl (by decide) (fun _ => rfl) (fun x3_11 ls h1 hl => ?_)
        refine lv_aload_n hx hb dX0_notice_65 rfl (lv_at hl 1 rfl) ?_
        refine z_getm C0 hZ h1 hk0 fRX0_64 rfl dX0_notice_66 (fun q_12 hq_12 h1 => ?_)
        refine z_getr C0 hZ hq_12 fRX0_122 rfl dX0_notice_69 ?_
        refine z_getr C0 hZ (zkt5_1 hq_12) fRX0_149 rfl dX0_notice_72 ?_
        refine lv_iload_n hx hb dX0_notice_75 rfl (lv_at hl 3 rfl) ?_
        refine z_cSi (As := [.ref (zad V ((q_12 + 7) + 1)), .int x2]) (rest := []) C0 hZ h1 (fun _ hf => kX7_at l (zkt2_1 (zkt5_1 hq_12)) hf) mRX0_118 sX7_at rfl rfl hl.1 (Nat.le_of_ble_eq_true rfl) ⟨Nat.le_of_ble_eq_true rfl, Nat.le_of_ble_eq_true rfl⟩ dX0_notice_76 ⟨Nat.le_of_ble_eq_true rfl, Nat.le_of_ble_eq_true rfl⟩ (fun r_14 σ_13 H locs h1 hZ => ?_)
        refine lv_iconst (v := 1) hx hb dX0_notice_79 (by decide) ?_
        refine z_ic_ne (tgt := 87) C0 h1 dX0_notice_80 (by decide) (fun h1 => ?_) (fun h1 => ?_)
        · refine lv_iconst (v := 0) hx hb dX0_notice_87 (by decide) ?_
          exact J88 x2 x3_11 0 _ _ _ _  hZ (lv_sub hl [1, 2, 3, 0] rfl) h1
        refine lv_iconst (v := 1) hx hb dX0_notice_83 (by decide) ?_
        refine lv_goto (tgt := 88) hx hb dX0_notice_84 (by decide) ?_
        exact J88 x2 x3_11 1 _ _ _ _  hZ (lv_sub hl [1, 2, 3, 0] rfl) h1
      have J63 : ∀ (x2 : Int32) (σ : zS) (H : Heap) (locs : List Loc) (ls : Array Slot), zZ 0 V A σ s H locs → lv_has ls 5 [(0, .ref (zad V k0)), (1, .int x1), (2, .int x2)] → FX0_notice_b63 k0 x1 x2 σ = some t1 → W p l e (zrm 3 65) s m args below meth c H locs 0 0 Q (F0 m 63 ls []) := by
        intro x2 σ H locs ls  hZ hl h1
        unfold FX0_notice_b63 at h1
        refine lv_iconst (v := 0) hx hb dX0_notice_63 (by decide) ?_
        exact J64 x2 0 _ _ _ _  hZ (lv_sub hl [0, 1, 2] rfl) h1
      replace h1 : FX0_notice_L22 k0 x1 x2 σ = some t1 := h1
      unfold FX0_notice_L22 at h1
      refine lv_iload_n hx hb dX0_notice_22 rfl (lv_at hl 2 rfl) ?_
      refine lv_aload_n hx hb dX0_notice_23 rfl (lv_at hl 0 rfl) ?_
      refine z_getm C0 hZ h1 hk0 fRX0_64 rfl dX0_notice_24 (fun q_15 hq_15 h1 => ?_)
      refine z_getr C0 hZ hq_15 fRX0_122 rfl dX0_notice_27 ?_
      refine z_geti C0 hZ (zkt5_1 hq_15) fRX0_126 rfl dX0_notice_30 ?_
      refine z_ic_ge (tgt := 144) C0 h1 dX0_notice_33 (by decide) (fun h1 => ?_) (fun h1 => ?_)
      · have h1 := zout h1 hz1
        exact J144  _ _ _ _  hZ (lv_sub hl [] rfl) h1
      refine lv_aload_n hx hb dX0_notice_36 rfl (lv_at hl 0 rfl) ?_
      refine z_geti C0 hZ hk0 fRX0_46 rfl dX0_notice_37 ?_
      refine lv_iconst (v := (-1)) hx hb dX0_notice_40 (by decide) ?_
      refine z_ic_eq (tgt := 63) C0 h1 dX0_notice_41 (by decide) (fun h1 => ?_) (fun h1 => ?_)
      · exact J63 x2 _ _ _ _  hZ (lv_sub hl [0, 1, 2] rfl) h1
      refine lv_aload_n hx hb dX0_notice_44 rfl (lv_at hl 0 rfl) ?_
      refine z_getr C0 hZ hk0 fRX0_37 rfl dX0_notice_45 ?_
      refine lv_iload_n hx hb dX0_notice_48 rfl (lv_at hl 2 rfl) ?_
      refine z_cSi (As := [.ref (zad V (k0 + 4)), .int x2]) (rest := []) C0 hZ h1 (fun _ hf => kX7_at l (zkt0_9 hk0) hf) mRX0_118 sX7_at rfl rfl hl.1 (Nat.le_of_ble_eq_true rfl) ⟨Nat.le_of_ble_eq_true rfl, Nat.le_of_ble_eq_true rfl⟩ dX0_notice_49 ⟨Nat.le_of_ble_eq_true rfl, Nat.le_of_ble_eq_true rfl⟩ (fun r_17 σ_16 H locs h1 hZ => ?_)
      refine lv_aload_n hx hb dX0_notice_52 rfl (lv_at hl 0 rfl) ?_
      refine z_geti C0 hZ hk0 fRX0_46 rfl dX0_notice_53 ?_
      refine z_ic_ne (tgt := 63) C0 h1 dX0_notice_56 (by decide) (fun h1 => ?_) (fun h1 => ?_)
      · exact J63 x2 _ _ _ _  hZ (lv_sub hl [0, 1, 2] rfl) h1
      refine lv_iconst (v := 1) hx hb dX0_notice_59 (by decide) ?_
      refine lv_goto (tgt := 64) hx hb dX0_notice_60 (by decide) ?_
      exact J64 x2 1 _ _ _ _  hZ (lv_sub hl [0, 1, 2] rfl) h1
  have J19 : ∀ (y0 : Int32) (σ : zS) (H : Heap) (locs : List Loc) (ls : Array Slot), zZ 0 V A σ s H locs → lv_has ls 5 [(0, .ref (zad V k0))] → FX0_notice_b19 k0 y0 σ = some t0 → W p l e (zrm 3 65) s m args below meth c H locs 0 0 Q (F0 m 19 ls [.int y0]) := by
    intro y0 σ H locs ls  hZ hl h1
    unfold FX0_notice_b19 at h1
    refine z_istore_n C0 h1 hl (fun x1_18 => [(1, .int x1_18), (0, .ref (zad V k0))]) dX0_notice_19 rfl (by decide) (fun _ => rfl) (fun x1_18 ls h1 hl => ?_)
    refine lv_iconst (v := 0) hx hb dX0_notice_20 (by decide) ?_
    refine z_istore_n C0 h1 hl (fun x2_19 => [(2, .int x2_19), (1, .int x1_18), (0, .ref (zad V k0))]) dX0_notice_21 rfl (by decide) (fun _ => rfl) (fun x2_19 ls h1 hl => ?_)
    obtain ⟨n, h1⟩ := zlp_iff.mp h1
    exact J22 n x1_18 x2_19 _ _ _ _  hZ (lv_sub hl [2, 1, 0] rfl) h1
  refine lv_aload_n hx hb dX0_notice_0 rfl (lv_at hl 0 rfl) ?_
  refine z_geti C0 hZ hk0 fRX0_18 rfl dX0_notice_1 ?_
  refine lv_iconst (v := 1) hx hb dX0_notice_4 (by decide) ?_
  refine z_ic_ne (tgt := 12) C0 h1 dX0_notice_5 (by decide) (fun h1 => ?_) (fun h1 => ?_)
  · refine lv_aload_n hx hb dX0_notice_12 rfl (lv_at hl 0 rfl) ?_
    refine z_getm C0 hZ h1 hk0 fRX0_64 rfl dX0_notice_13 (fun q_20 hq_20 h1 => ?_)
    refine z_geti C0 hZ hq_20 fRX0_197 rfl dX0_notice_16 ?_
    exact J19 (σ q_20 3) _ _ _ _  hZ (lv_sub hl [0] rfl) h1
  refine lv_iconst (v := 1) hx hb dX0_notice_8 (by decide) ?_
  refine lv_goto (tgt := 19) hx hb dX0_notice_9 (by decide) ?_
  exact J19 1 _ _ _ _  hZ (lv_sub hl [0] rfl) h1
noncomputable def FX2_comesToTake_b39 (y0 : Int32) (σ : zS) : Option (Int32 × zS) := zgd (y0 == 0 || y0 == 1) (some (y0, σ))
noncomputable def FX2_comesToTake_b38  (σ : zS) : Option (Int32 × zS) := FX2_comesToTake_b39 0 σ
noncomputable def FX2_comesToTake (k0 : Nat) (x1 : Int32) (x2 : Int32) (σ : zS) : Option (Int32 × zS) := zbd (FX7_at (k0 + 3) x1 σ) (fun r_2 σ_1 => if r_2 ≤ 0 then FX2_comesToTake_b38  σ_1 else zbd (FX7_at (k0 + 2) x1 σ_1) (fun r_4 σ_3 => zbd (FX7_at (k0 + 3) x1 σ_3) (fun r_6 σ_5 => if x2 = ((r_4 + r_6) - 1) then FX2_comesToTake_b39 1 σ_5 else FX2_comesToTake_b38  σ_5)))
set_option maxHeartbeats 4000000 in
set_option maxRecDepth 100000 in
theorem kX2_comesToTake (l : Launch) {V : zV} {σ : zS} {t0 : Int32 × zS} {k0 : Nat} {x1 : Int32} {x2 : Int32} (hk0 : kd 0 k0 = 2) (h1 : FX2_comesToTake k0 x1 x2 σ = some t0) : zMi l yX2_comesToTake cX2_comesToTake 3 (some .boolean) 1 21 0 V σ t0 [.ref (zad V k0), .int x1, .int x2] := by
  refine zMi_of (by decide) (Nat.le_of_ble_eq_true rfl) ?_
  intro p e s m below meth c A C0 hr hlk hZ ls hl
  generalize ([.ref (zad V k0), .int x1, .int x2] : List Value).toArray = args at C0 ⊢
  obtain ⟨Q, hQ⟩ : ∃ Q, Q = MQ below (zQi 0 V t0 A) args s 0 0 A := ⟨_, rfl⟩
  rw [← hQ]
  have hx := C0.1
  have hb := C0.2.1
  have hl : lv_has ls 3 [(0, .ref (zad V k0)), (1, .int x1), (2, .int x2)] := hl
  unfold FX2_comesToTake at h1
  have J39 : ∀ (y0 : Int32) (σ : zS) (H : Heap) (locs : List Loc) (ls : Array Slot), zZ 0 V A σ s H locs → lv_has ls 3 [] → FX2_comesToTake_b39 y0 σ = some t0 → W p l e (zrm 1 21) s m args below meth c H locs 0 0 Q (F0 m 39 ls [.int y0]) := by
    intro y0 σ H locs ls  hZ hl h1
    unfold FX2_comesToTake_b39 at h1
    rw [hQ]; exact z_zret C0 hr hlk hZ h1 dX2_comesToTake_39
  have J38 : ∀  (σ : zS) (H : Heap) (locs : List Loc) (ls : Array Slot), zZ 0 V A σ s H locs → lv_has ls 3 [] → FX2_comesToTake_b38  σ = some t0 → W p l e (zrm 1 21) s m args below meth c H locs 0 0 Q (F0 m 38 ls []) := by
    intro  σ H locs ls  hZ hl h1
    unfold FX2_comesToTake_b38 at h1
    refine lv_iconst (v := 0) hx hb dX2_comesToTake_38 (by decide) ?_
    exact J39 0 _ _ _ _  hZ (lv_sub hl [] rfl) h1
  refine lv_aload_n hx hb dX2_comesToTake_0 rfl (lv_at hl 0 rfl) ?_
  refine z_getr C0 hZ hk0 fRX2_22 rfl dX2_comesToTake_1 ?_
  refine lv_iload_n hx hb dX2_comesToTake_4 rfl (lv_at hl 1 rfl) ?_
  refine z_cSi (As := [.ref (zad V (k0 + 3)), .int x1]) (rest := []) C0 hZ h1 (fun _ hf => kX7_at l (zkt2_3 hk0) hf) mRX2_34 sX7_at rfl rfl hl.1 (Nat.le_of_ble_eq_true rfl) ⟨Nat.le_of_ble_eq_true rfl, Nat.le_of_ble_eq_true rfl⟩ dX2_comesToTake_5 ⟨Nat.le_of_ble_eq_true rfl, Nat.le_of_ble_eq_true rfl⟩ (fun r_2 σ_1 H locs h1 hZ => ?_)
  refine z_if_le (tgt := 38) C0 h1 dX2_comesToTake_8 (by decide) (fun h1 => ?_) (fun h1 => ?_)
  · exact J38  _ _ _ _  hZ (lv_sub hl [] rfl) h1
  refine lv_iload_n hx hb dX2_comesToTake_11 rfl (lv_at hl 2 rfl) ?_
  refine lv_aload_n hx hb dX2_comesToTake_12 rfl (lv_at hl 0 rfl) ?_
  refine z_getr C0 hZ hk0 fRX2_19 rfl dX2_comesToTake_13 ?_
  refine lv_iload_n hx hb dX2_comesToTake_16 rfl (lv_at hl 1 rfl) ?_
  refine z_cSi (As := [.ref (zad V (k0 + 2)), .int x1]) (rest := [.int x2]) C0 hZ h1 (fun _ hf => kX7_at l (zkt2_2 hk0) hf) mRX2_34 sX7_at rfl rfl hl.1 (Nat.le_of_ble_eq_true rfl) ⟨Nat.le_of_ble_eq_true rfl, Nat.le_of_ble_eq_true rfl⟩ dX2_comesToTake_17 ⟨Nat.le_of_ble_eq_true rfl, Nat.le_of_ble_eq_true rfl⟩ (fun r_4 σ_3 H locs h1 hZ => ?_)
  refine lv_aload_n hx hb dX2_comesToTake_20 rfl (lv_at hl 0 rfl) ?_
  refine z_getr C0 hZ hk0 fRX2_22 rfl dX2_comesToTake_21 ?_
  refine lv_iload_n hx hb dX2_comesToTake_24 rfl (lv_at hl 1 rfl) ?_
  refine z_cSi (As := [.ref (zad V (k0 + 3)), .int x1]) (rest := [.int r_4, .int x2]) C0 hZ h1 (fun _ hf => kX7_at l (zkt2_3 hk0) hf) mRX2_34 sX7_at rfl rfl hl.1 (Nat.le_of_ble_eq_true rfl) ⟨Nat.le_of_ble_eq_true rfl, Nat.le_of_ble_eq_true rfl⟩ dX2_comesToTake_25 ⟨Nat.le_of_ble_eq_true rfl, Nat.le_of_ble_eq_true rfl⟩ (fun r_6 σ_5 H locs h1 hZ => ?_)
  refine lv_iadd hx hb dX2_comesToTake_28 ?_
  refine lv_iconst (v := 1) hx hb dX2_comesToTake_29 (by decide) ?_
  refine lv_isub hx hb dX2_comesToTake_30 ?_
  refine z_ic_ne (tgt := 38) C0 h1 dX2_comesToTake_31 (by decide) (fun h1 => ?_) (fun h1 => ?_)
  · exact J38  _ _ _ _  hZ (lv_sub hl [] rfl) h1
  refine lv_iconst (v := 1) hx hb dX2_comesToTake_34 (by decide) ?_
  refine lv_goto (tgt := 39) hx hb dX2_comesToTake_35 (by decide) ?_
  exact J39 1 _ _ _ _  hZ (lv_sub hl [] rfl) h1
noncomputable def FX0_sees_b39 (y0 : Int32) (σ : zS) : Option (Int32 × zS) := zgd (y0 == 0 || y0 == 1) (some (y0, σ))
noncomputable def FX0_sees_b38  (σ : zS) : Option (Int32 × zS) := FX0_sees_b39 0 σ
noncomputable def FX0_sees_b34  (σ : zS) : Option (Int32 × zS) := FX0_sees_b39 1 σ
noncomputable def FX0_sees (k0 : Nat) (x1 : Int32) (σ : zS) : Option (Int32 × zS) := if (σ k0 12) = (-1) then FX0_sees_b38  σ else if x1 = (σ k0 12) then FX0_sees_b34  σ else zbd (FX7_at (k0 + 2) (σ k0 12) σ) (fun r_2 σ_1 => zbd (FX7_holds r_2 x1 σ_1) (fun r_4 σ_3 => if r_4 = 0 then FX0_sees_b38  σ_3 else FX0_sees_b34  σ_3))
set_option maxHeartbeats 4000000 in
set_option maxRecDepth 100000 in
theorem kX0_sees (l : Launch) {V : zV} {σ : zS} {t0 : Int32 × zS} {k0 : Nat} {x1 : Int32} (hk0 : kd 0 k0 = 0) (h1 : FX0_sees k0 x1 σ = some t0) : zMi l yX0_sees cX0_sees 2 (some .boolean) 1 21 0 V σ t0 [.ref (zad V k0), .int x1] := by
  refine zMi_of (by decide) (Nat.le_of_ble_eq_true rfl) ?_
  intro p e s m below meth c A C0 hr hlk hZ ls hl
  generalize ([.ref (zad V k0), .int x1] : List Value).toArray = args at C0 ⊢
  obtain ⟨Q, hQ⟩ : ∃ Q, Q = MQ below (zQi 0 V t0 A) args s 0 0 A := ⟨_, rfl⟩
  rw [← hQ]
  have hx := C0.1
  have hb := C0.2.1
  have hl : lv_has ls 2 [(0, .ref (zad V k0)), (1, .int x1)] := hl
  unfold FX0_sees at h1
  have J39 : ∀ (y0 : Int32) (σ : zS) (H : Heap) (locs : List Loc) (ls : Array Slot), zZ 0 V A σ s H locs → lv_has ls 2 [] → FX0_sees_b39 y0 σ = some t0 → W p l e (zrm 1 21) s m args below meth c H locs 0 0 Q (F0 m 39 ls [.int y0]) := by
    intro y0 σ H locs ls  hZ hl h1
    unfold FX0_sees_b39 at h1
    rw [hQ]; exact z_zret C0 hr hlk hZ h1 dX0_sees_39
  have J38 : ∀  (σ : zS) (H : Heap) (locs : List Loc) (ls : Array Slot), zZ 0 V A σ s H locs → lv_has ls 2 [] → FX0_sees_b38  σ = some t0 → W p l e (zrm 1 21) s m args below meth c H locs 0 0 Q (F0 m 38 ls []) := by
    intro  σ H locs ls  hZ hl h1
    unfold FX0_sees_b38 at h1
    refine lv_iconst (v := 0) hx hb dX0_sees_38 (by decide) ?_
    exact J39 0 _ _ _ _  hZ (lv_sub hl [] rfl) h1
  have J34 : ∀  (σ : zS) (H : Heap) (locs : List Loc) (ls : Array Slot), zZ 0 V A σ s H locs → lv_has ls 2 [] → FX0_sees_b34  σ = some t0 → W p l e (zrm 1 21) s m args below meth c H locs 0 0 Q (F0 m 34 ls []) := by
    intro  σ H locs ls  hZ hl h1
    unfold FX0_sees_b34 at h1
    refine lv_iconst (v := 1) hx hb dX0_sees_34 (by decide) ?_
    refine lv_goto (tgt := 39) hx hb dX0_sees_35 (by decide) ?_
    exact J39 1 _ _ _ _  hZ (lv_sub hl [] rfl) h1
  refine lv_aload_n hx hb dX0_sees_0 rfl (lv_at hl 0 rfl) ?_
  refine z_geti C0 hZ hk0 fRX0_46 rfl dX0_sees_1 ?_
  refine lv_iconst (v := (-1)) hx hb dX0_sees_4 (by decide) ?_
  refine z_ic_eq (tgt := 38) C0 h1 dX0_sees_5 (by decide) (fun h1 => ?_) (fun h1 => ?_)
  · exact J38  _ _ _ _  hZ (lv_sub hl [] rfl) h1
  refine lv_iload_n hx hb dX0_sees_8 rfl (lv_at hl 1 rfl) ?_
  refine lv_aload_n hx hb dX0_sees_9 rfl (lv_at hl 0 rfl) ?_
  refine z_geti C0 hZ hk0 fRX0_46 rfl dX0_sees_10 ?_
  refine z_ic_eq (tgt := 34) C0 h1 dX0_sees_13 (by decide) (fun h1 => ?_) (fun h1 => ?_)
  · exact J34  _ _ _ _  hZ (lv_sub hl [] rfl) h1
  refine lv_aload_n hx hb dX0_sees_16 rfl (lv_at hl 0 rfl) ?_
  refine z_getr C0 hZ hk0 fRX0_31 rfl dX0_sees_17 ?_
  refine lv_aload_n hx hb dX0_sees_20 rfl (lv_at hl 0 rfl) ?_
  refine z_geti C0 hZ hk0 fRX0_46 rfl dX0_sees_21 ?_
  refine z_cSi (As := [.ref (zad V (k0 + 2)), .int (σ k0 12)]) (rest := []) C0 hZ h1 (fun _ hf => kX7_at l (zkt0_7 hk0) hf) mRX0_118 sX7_at rfl rfl hl.1 (Nat.le_of_ble_eq_true rfl) ⟨Nat.le_of_ble_eq_true rfl, Nat.le_of_ble_eq_true rfl⟩ dX0_sees_24 ⟨Nat.le_of_ble_eq_true rfl, Nat.le_of_ble_eq_true rfl⟩ (fun r_2 σ_1 H locs h1 hZ => ?_)
  refine lv_iload_n hx hb dX0_sees_27 rfl (lv_at hl 1 rfl) ?_
  refine z_cSi (As := [.int r_2, .int x1]) (rest := []) C0 hZ h1 (fun _ hf => kX7_holds l  hf) mRX0_131 sX7_holds rfl rfl hl.1 (Nat.le_of_ble_eq_true rfl) ⟨Nat.le_of_ble_eq_true rfl, Nat.le_of_ble_eq_true rfl⟩ dX0_sees_28 ⟨Nat.le_of_ble_eq_true rfl, Nat.le_of_ble_eq_true rfl⟩ (fun r_4 σ_3 H locs h1 hZ => ?_)
  refine z_if_eq (tgt := 38) C0 h1 dX0_sees_31 (by decide) (fun h1 => ?_) (fun h1 => ?_)
  · exact J38  _ _ _ _  hZ (lv_sub hl [] rfl) h1
  exact J34  _ _ _ _  hZ (lv_sub hl [] rfl) h1
