noncomputable def FX0_walk_b85  (σ : zS) : Option (Int32 × zS) := some (0, σ)
noncomputable def FX0_walk_b79 (k0 : Nat) (x1 : Int32) (x2 : Int32) (σ : zS) : Option ((Int32 × zS) ⊕ (Int32 × zS)) := zlet (x2 + 1) (fun x2_1 => some (.inl (x2_1, σ)))
noncomputable def FX0_walk_L2 (k0 : Nat) (x1 : Int32) (x2 : Int32) (σ : zS) : Option ((Int32 × zS) ⊕ (Int32 × zS)) := zgd (kd 0 (σ k0 0).toNatClampNeg == 5) (zlet (σ k0 0).toNatClampNeg (fun q_2 => if (σ (q_2 + 7) 0) ≤ x2 then zinr (FX0_walk_b85  σ) else zbd (FX7_holds (σ k0 5) x2 σ) (fun r_4 σ_3 => if r_4 = 0 then zgd (kd 0 (σ_3 k0 0).toNatClampNeg == 5) (zlet (σ_3 k0 0).toNatClampNeg (fun q_5 => zbd (FX2_placeIn (q_5 + 7) x2 x1 σ_3) (fun r_7 σ_6 => zbd (FX7_put (k0 + 4) x2 r_7 σ_6) (fun _ σ_8 => zbd (FX7_at (k0 + 5) x2 σ_8) (fun r_11 σ_10 => if r_11 = (-1) then FX0_walk_b79 k0 x1 x2 σ_10 else zgd (kd 0 (σ_10 k0 0).toNatClampNeg == 5) (zlet (σ_10 k0 0).toNatClampNeg (fun q_12 => zbd (FX2_leavesIn (q_12 + 7) x2 x1 σ_10) (fun r_14 σ_13 => if r_14 = 0 then FX0_walk_b79 k0 x1 x2 σ_13 else zbd (FX0_leave k0 x2 σ_13) (fun _ σ_15 => FX0_walk_b79 k0 x1 x2 σ_15))))))))) else FX0_walk_b79 k0 x1 x2 σ_3)))
noncomputable def FX0_walk (k0 : Nat) (x1 : Int32) (σ : zS) : Option (Int32 × zS) := zlet 0 (fun x2_17 => zlp (fun q => FX0_walk_L2 k0 x1 q.1 q.2) (x2_17, σ))
set_option maxHeartbeats 4000000 in
set_option maxRecDepth 100000 in
theorem kX0_walk (l : Launch) {V : zV} {σ : zS} {t0 : Int32 × zS} {k0 : Nat} {x1 : Int32} (hk0 : kd 0 k0 = 0) (h1 : FX0_walk k0 x1 σ = some t0) : zMv l yX0_walk cX0_walk 3 4 87 0 V σ t0 [.ref (zad V k0), .int x1] := by
  refine zMv_of (by decide) (Nat.le_of_ble_eq_true rfl) ?_
  intro p e s m below meth c A C0 hr hlk hZ ls hl
  generalize ([.ref (zad V k0), .int x1] : List Value).toArray = args at C0 ⊢
  obtain ⟨Q, hQ⟩ : ∃ Q, Q = MQ below (zQv 0 V t0 A) args s 0 0 A := ⟨_, rfl⟩
  rw [← hQ]
  have hx := C0.1
  have hb := C0.2.1
  have hl : lv_has ls 3 [(0, .ref (zad V k0)), (1, .int x1)] := hl
  unfold FX0_walk at h1
  have J85 : ∀  (σ : zS) (H : Heap) (locs : List Loc) (ls : Array Slot), zZ 0 V A σ s H locs → lv_has ls 3 [] → FX0_walk_b85  σ = some t0 → W p l e (zrm 4 87) s m args below meth c H locs 0 0 Q (F0 m 85 ls []) := by
    intro  σ H locs ls  hZ hl h1
    unfold FX0_walk_b85 at h1
    rw [hQ]; exact z_vret C0 hr hlk hZ h1 dX0_walk_85
  have J2 : ∀ (n : Nat) (x2 : Int32) (σ : zS) (H : Heap) (locs : List Loc) (ls : Array Slot), zZ 0 V A σ s H locs → lv_has ls 3 [(0, .ref (zad V k0)), (1, .int x1), (2, .int x2)] → zit (fun q => FX0_walk_L2 k0 x1 q.1 q.2) n (x2, σ) = some t0 → W p l e (zrm 4 87) s m args below meth c H locs 0 0 Q (F0 m 2 ls []) := by
    intro n
    induction n with
    | zero => intro x2 σ H locs ls  _ _ h1; cases h1
    | succ n ih2 =>
      intro x2 σ H locs ls  hZ hl h1
      obtain ⟨t1, h1, hz1⟩ := zit_1 h1
      have J79 : ∀ (x2 : Int32) (σ : zS) (H : Heap) (locs : List Loc) (ls : Array Slot), zZ 0 V A σ s H locs → lv_has ls 3 [(0, .ref (zad V k0)), (1, .int x1), (2, .int x2)] → FX0_walk_b79 k0 x1 x2 σ = some t1 → W p l e (zrm 4 87) s m args below meth c H locs 0 0 Q (F0 m 79 ls []) := by
        intro x2 σ H locs ls  hZ hl h1
        unfold FX0_walk_b79 at h1
        refine z_iinc (v := 1) C0 h1 hl (fun x2_1 => [(2, .int x2_1), (0, .ref (zad V k0)), (1, .int x1)]) dX0_walk_79 (k := 2) rfl (by decide) (by decide) (fun _ => rfl) (fun x2_1 ls h1 hl => ?_)
        refine lv_goto (tgt := 2) hx hb dX0_walk_82 (by decide) ?_
        exact ih2 x2_1 _ _ _ _  hZ (lv_sub hl [1, 2, 0] rfl) (zback h1 hz1)
      replace h1 : FX0_walk_L2 k0 x1 x2 σ = some t1 := h1
      unfold FX0_walk_L2 at h1
      refine lv_iload_n hx hb dX0_walk_2 rfl (lv_at hl 2 rfl) ?_
      refine lv_aload_n hx hb dX0_walk_3 rfl (lv_at hl 0 rfl) ?_
      refine z_getm C0 hZ h1 hk0 fRX0_64 rfl dX0_walk_4 (fun q_2 hq_2 h1 => ?_)
      refine z_getr C0 hZ hq_2 fRX0_122 rfl dX0_walk_7 ?_
      refine z_geti C0 hZ (zkt5_1 hq_2) fRX0_126 rfl dX0_walk_10 ?_
      refine z_ic_ge (tgt := 85) C0 h1 dX0_walk_13 (by decide) (fun h1 => ?_) (fun h1 => ?_)
      · have h1 := zout h1 hz1
        exact J85  _ _ _ _  hZ (lv_sub hl [] rfl) h1
      refine lv_aload_n hx hb dX0_walk_16 rfl (lv_at hl 0 rfl) ?_
      refine z_geti C0 hZ hk0 fRX0_24 rfl dX0_walk_17 ?_
      refine lv_iload_n hx hb dX0_walk_20 rfl (lv_at hl 2 rfl) ?_
      refine z_cSi (As := [.int (σ k0 5), .int x2]) (rest := []) C0 hZ h1 (fun _ hf => kX7_holds l  hf) mRX0_131 sX7_holds rfl rfl hl.1 (Nat.le_of_ble_eq_true rfl) ⟨Nat.le_of_ble_eq_true rfl, Nat.le_of_ble_eq_true rfl⟩ dX0_walk_21 ⟨Nat.le_of_ble_eq_true rfl, Nat.le_of_ble_eq_true rfl⟩ (fun r_4 σ_3 H locs h1 hZ => ?_)
      refine z_if_ne (tgt := 79) C0 h1 dX0_walk_24 (by decide) (fun h1 => ?_) (fun h1 => ?_)
      · exact J79 x2 _ _ _ _  hZ (lv_sub hl [0, 1, 2] rfl) h1
      refine lv_aload_n hx hb dX0_walk_27 rfl (lv_at hl 0 rfl) ?_
      refine z_getr C0 hZ hk0 fRX0_37 rfl dX0_walk_28 ?_
      refine lv_iload_n hx hb dX0_walk_31 rfl (lv_at hl 2 rfl) ?_
      refine lv_aload_n hx hb dX0_walk_32 rfl (lv_at hl 0 rfl) ?_
      refine z_getm C0 hZ h1 hk0 fRX0_64 rfl dX0_walk_33 (fun q_5 hq_5 h1 => ?_)
      refine z_getr C0 hZ hq_5 fRX0_122 rfl dX0_walk_36 ?_
      refine lv_iload_n hx hb dX0_walk_39 rfl (lv_at hl 2 rfl) ?_
      refine lv_iload_n hx hb dX0_walk_40 rfl (lv_at hl 1 rfl) ?_
      refine z_cVi (As := [.int x2, .int x1]) (rest := [.int x2, .ref (zad V (k0 + 4))]) C0 hZ h1 (fun _ hf => kX2_placeIn l (zkt5_1 hq_5) hf) mRX0_135 vX2_placeIn (zkt5_1 hq_5) rfl rfl hl.1 (Nat.le_of_ble_eq_true rfl) ⟨Nat.le_of_ble_eq_true rfl, Nat.le_of_ble_eq_true rfl⟩ dX0_walk_41 ⟨Nat.le_of_ble_eq_true rfl, Nat.le_of_ble_eq_true rfl⟩ (fun r_7 σ_6 H locs h1 hZ => ?_)
      refine z_cSv (As := [.ref (zad V (k0 + 4)), .int x2, .int r_7]) (rest := []) C0 hZ h1 (fun _ hf => kX7_put l (zkt0_9 hk0) hf) mRX0_139 sX7_put rfl rfl hl.1 (Nat.le_of_ble_eq_true rfl) ⟨Nat.le_of_ble_eq_true rfl, Nat.le_of_ble_eq_true rfl⟩ dX0_walk_44 ⟨Nat.le_of_ble_eq_true rfl, Nat.le_of_ble_eq_true rfl⟩ (fun _ σ_8 H locs h1 hZ => ?_)
      refine lv_aload_n hx hb dX0_walk_47 rfl (lv_at hl 0 rfl) ?_
      refine z_getr C0 hZ hk0 fRX0_40 rfl dX0_walk_48 ?_
      refine lv_iload_n hx hb dX0_walk_51 rfl (lv_at hl 2 rfl) ?_
      refine z_cSi (As := [.ref (zad V (k0 + 5)), .int x2]) (rest := []) C0 hZ h1 (fun _ hf => kX7_at l (zkt0_10 hk0) hf) mRX0_118 sX7_at rfl rfl hl.1 (Nat.le_of_ble_eq_true rfl) ⟨Nat.le_of_ble_eq_true rfl, Nat.le_of_ble_eq_true rfl⟩ dX0_walk_52 ⟨Nat.le_of_ble_eq_true rfl, Nat.le_of_ble_eq_true rfl⟩ (fun r_11 σ_10 H locs h1 hZ => ?_)
      refine lv_iconst (v := (-1)) hx hb dX0_walk_55 (by decide) ?_
      refine z_ic_eq (tgt := 79) C0 h1 dX0_walk_56 (by decide) (fun h1 => ?_) (fun h1 => ?_)
      · exact J79 x2 _ _ _ _  hZ (lv_sub hl [0, 1, 2] rfl) h1
      refine lv_aload_n hx hb dX0_walk_59 rfl (lv_at hl 0 rfl) ?_
      refine z_getm C0 hZ h1 hk0 fRX0_64 rfl dX0_walk_60 (fun q_12 hq_12 h1 => ?_)
      refine z_getr C0 hZ hq_12 fRX0_122 rfl dX0_walk_63 ?_
      refine lv_iload_n hx hb dX0_walk_66 rfl (lv_at hl 2 rfl) ?_
      refine lv_iload_n hx hb dX0_walk_67 rfl (lv_at hl 1 rfl) ?_
      refine z_cVi (As := [.int x2, .int x1]) (rest := []) C0 hZ h1 (fun _ hf => kX2_leavesIn l (zkt5_1 hq_12) hf) mRX0_143 vX2_leavesIn (zkt5_1 hq_12) rfl rfl hl.1 (Nat.le_of_ble_eq_true rfl) ⟨Nat.le_of_ble_eq_true rfl, Nat.le_of_ble_eq_true rfl⟩ dX0_walk_68 ⟨Nat.le_of_ble_eq_true rfl, Nat.le_of_ble_eq_true rfl⟩ (fun r_14 σ_13 H locs h1 hZ => ?_)
      refine z_if_eq (tgt := 79) C0 h1 dX0_walk_71 (by decide) (fun h1 => ?_) (fun h1 => ?_)
      · exact J79 x2 _ _ _ _  hZ (lv_sub hl [0, 1, 2] rfl) h1
      refine lv_aload_n hx hb dX0_walk_74 rfl (lv_at hl 0 rfl) ?_
      refine lv_iload_n hx hb dX0_walk_75 rfl (lv_at hl 2 rfl) ?_
      refine z_cVv (As := [.int x2]) (rest := []) C0 hZ h1 (fun _ hf => kX0_leave l hk0 hf) mRX0_146 vX0_leave hk0 rfl rfl hl.1 (Nat.le_of_ble_eq_true rfl) ⟨Nat.le_of_ble_eq_true rfl, Nat.le_of_ble_eq_true rfl⟩ dX0_walk_76 ⟨Nat.le_of_ble_eq_true rfl, Nat.le_of_ble_eq_true rfl⟩ (fun _ σ_15 H locs h1 hZ => ?_)
      exact J79 x2 _ _ _ _  hZ (lv_sub hl [0, 1, 2] rfl) h1
  refine lv_iconst (v := 0) hx hb dX0_walk_0 (by decide) ?_
  refine z_istore_n C0 h1 hl (fun x2_17 => [(2, .int x2_17), (0, .ref (zad V k0)), (1, .int x1)]) dX0_walk_1 rfl (by decide) (fun _ => rfl) (fun x2_17 ls h1 hl => ?_)
  obtain ⟨n, h1⟩ := zlp_iff.mp h1
  exact J2 n x2_17 _ _ _ _  hZ (lv_sub hl [1, 2, 0] rfl) h1
noncomputable def FX1_between (k0 : Nat) (x1 : Int32) (x2 : Int32) (σ : zS) : Option (Int32 × zS) := zbd (FX7_at (k0 + 5) ((x1 * 10) + x2) σ) (fun r_2 σ_1 => some (r_2, σ_1))
set_option maxHeartbeats 4000000 in
set_option maxRecDepth 100000 in
theorem kX1_between (l : Launch) {V : zV} {σ : zS} {t0 : Int32 × zS} {k0 : Nat} {x1 : Int32} {x2 : Int32} (hk0 : kd 0 k0 = 1) (h1 : FX1_between k0 x1 x2 σ = some t0) : zMi l yX1_between cX1_between 3 (some .int) 1 21 0 V σ t0 [.ref (zad V k0), .int x1, .int x2] := by
  refine zMi_of (by decide) (Nat.le_of_ble_eq_true rfl) ?_
  intro p e s m below meth c A C0 hr hlk hZ ls hl
  generalize ([.ref (zad V k0), .int x1, .int x2] : List Value).toArray = args at C0 ⊢
  obtain ⟨Q, hQ⟩ : ∃ Q, Q = MQ below (zQi 0 V t0 A) args s 0 0 A := ⟨_, rfl⟩
  rw [← hQ]
  have hx := C0.1
  have hb := C0.2.1
  have hl : lv_has ls 3 [(0, .ref (zad V k0)), (1, .int x1), (2, .int x2)] := hl
  unfold FX1_between at h1
  refine lv_aload_n hx hb dX1_between_0 rfl (lv_at hl 0 rfl) ?_
  refine z_getr C0 hZ hk0 fRX1_34 rfl dX1_between_1 ?_
  refine lv_iload_n hx hb dX1_between_4 rfl (lv_at hl 1 rfl) ?_
  refine lv_bipush (v := 10) hx hb dX1_between_5 (by decide) ?_
  refine lv_imul hx hb dX1_between_7 ?_
  refine lv_iload_n hx hb dX1_between_8 rfl (lv_at hl 2 rfl) ?_
  refine lv_iadd hx hb dX1_between_9 ?_
  refine z_cSi (As := [.ref (zad V (k0 + 5)), .int ((x1 * 10) + x2)]) (rest := []) C0 hZ h1 (fun _ hf => kX7_at l (zkt1_7 hk0) hf) mRX1_41 sX7_at rfl rfl hl.1 (Nat.le_of_ble_eq_true rfl) ⟨Nat.le_of_ble_eq_true rfl, Nat.le_of_ble_eq_true rfl⟩ dX1_between_10 ⟨Nat.le_of_ble_eq_true rfl, Nat.le_of_ble_eq_true rfl⟩ (fun r_2 σ_1 H locs h1 hZ => ?_)
  rw [hQ]; exact z_iret C0 hr hlk hZ h1 dX1_between_13
noncomputable def FX0_tellValues_b132 (k0 : Nat) (x2 : Int32) (x3 : Int32) (x4 : Int32) (q0 : Nat) (y1 : Int32) (y2 : Int32) (σ : zS) : Option (Int32 × zS) := zbd (FX7_put q0 y1 y2 σ) (fun _ σ_1 => zgd (kd 0 (σ_1 k0 0).toNatClampNeg == 5) (zlet (σ_1 k0 0).toNatClampNeg (fun q_3 => zbd (FX1_between (q_3 + 1) (σ_1 k0 12) x3 σ_1) (fun r_5 σ_4 => zbd (FX7_put (k0 + 7) 3 r_5 σ_4) (fun _ σ_6 => zbd (FX7_at (k0 + 1) x3 σ_6) (fun r_9 σ_8 => zbd (FX7_put (k0 + 7) 4 r_9 σ_8) (fun _ σ_10 => zbd (FX7_put (k0 + 7) 5 x4 σ_10) (fun _ σ_12 => zbd (FX7_put (k0 + 7) 6 x2 σ_12) (fun _ σ_14 => some (0, σ_14))))))))))
noncomputable def FX0_tellValues_b59 (k0 : Nat) (x1 : Int32) (x2 : Int32) (x3 : Int32) (x4 : Int32) (σ : zS) : Option (Int32 × zS) := zgd (kd 0 (σ k0 0).toNatClampNeg == 5) (zlet (σ k0 0).toNatClampNeg (fun q_16 => zbd (FX7_at ((q_16 + 7) + 4) x1 σ) (fun r_18 σ_17 => zbd (FX7_put (k0 + 7) 0 r_18 σ_17) (fun _ σ_19 => zgd (kd 0 (σ_19 k0 0).toNatClampNeg == 5) (zlet (σ_19 k0 0).toNatClampNeg (fun q_21 => zbd (FX7_at ((q_21 + 7) + 2) x1 σ_19) (fun r_23 σ_22 => zbd (FX7_put (k0 + 7) 1 ((x2 - r_23) + 1) σ_22) (fun _ σ_24 => zbd (FX7_at (k0 + 8) 5 σ_24) (fun r_27 σ_26 => zbd (FX7_holds r_27 x1 σ_26) (fun r_29 σ_28 => if r_29 = 0 then FX0_tellValues_b132 k0 x2 x3 x4 (k0 + 7) 2 0 σ_28 else FX0_tellValues_b132 k0 x2 x3 x4 (k0 + 7) 2 1 σ_28))))))))))
noncomputable def FX0_tellValues_b50 (k0 : Nat) (x1 : Int32) (x2 : Int32) (x3 : Int32) (x5 : Int32) (y0 : Int32) (y1 : Int32) (σ : zS) : Option ((Int32 × Int32 × zS) ⊕ (Int32 × zS)) := zlet (y0 + y1) (fun x4_30 => zlet (x5 + 1) (fun x5_31 => some (.inl (x4_30, x5_31, σ))))
noncomputable def FX0_tellValues_L15 (k0 : Nat) (x1 : Int32) (x2 : Int32) (x3 : Int32) (x4 : Int32) (x5 : Int32) (σ : zS) : Option ((Int32 × Int32 × zS) ⊕ (Int32 × zS)) := zgd (kd 0 (σ k0 0).toNatClampNeg == 5) (zlet (σ k0 0).toNatClampNeg (fun q_32 => if (σ (q_32 + 7) 0) ≤ x5 then zinr (FX0_tellValues_b59 k0 x1 x2 x3 x4 σ) else zbd (FX7_at (k0 + 4) x5 σ) (fun r_34 σ_33 => if r_34 = x3 then FX0_tellValues_b50 k0 x1 x2 x3 x5 x4 1 σ_33 else FX0_tellValues_b50 k0 x1 x2 x3 x5 x4 0 σ_33)))
noncomputable def FX0_tellValues (k0 : Nat) (x1 : Int32) (x2 : Int32) (σ : zS) : Option (Int32 × zS) := zbd (FX7_at (k0 + 4) x1 σ) (fun r_36 σ_35 => zlet r_36 (fun x3_37 => zlet (-1) (fun x4_38 => zlet 0 (fun x5_39 => zlp (fun q => FX0_tellValues_L15 k0 x1 x2 x3_37 q.1 q.2.1 q.2.2) (x4_38, x5_39, σ_35)))))
set_option maxHeartbeats 4000000 in
set_option maxRecDepth 100000 in
theorem kX0_tellValues (l : Launch) {V : zV} {σ : zS} {t0 : Int32 × zS} {k0 : Nat} {x1 : Int32} {x2 : Int32} (hk0 : kd 0 k0 = 0) (h1 : FX0_tellValues k0 x1 x2 σ = some t0) : zMv l yX0_tellValues cX0_tellValues 6 2 43 0 V σ t0 [.ref (zad V k0), .int x1, .int x2] := by
  refine zMv_of (by decide) (Nat.le_of_ble_eq_true rfl) ?_
  intro p e s m below meth c A C0 hr hlk hZ ls hl
  generalize ([.ref (zad V k0), .int x1, .int x2] : List Value).toArray = args at C0 ⊢
  obtain ⟨Q, hQ⟩ : ∃ Q, Q = MQ below (zQv 0 V t0 A) args s 0 0 A := ⟨_, rfl⟩
  rw [← hQ]
  have hx := C0.1
  have hb := C0.2.1
  have hl : lv_has ls 6 [(0, .ref (zad V k0)), (1, .int x1), (2, .int x2)] := hl
  unfold FX0_tellValues at h1
  have J132 : ∀ (x3 : Int32) (x4 : Int32) (q0 : Nat) (y1 : Int32) (y2 : Int32) (σ : zS) (H : Heap) (locs : List Loc) (ls : Array Slot), kd 0 q0 = 100 → zZ 0 V A σ s H locs → lv_has ls 6 [(0, .ref (zad V k0)), (2, .int x2), (3, .int x3), (4, .int x4)] → FX0_tellValues_b132 k0 x2 x3 x4 q0 y1 y2 σ = some t0 → W p l e (zrm 2 43) s m args below meth c H locs 0 0 Q (F0 m 132 ls [.int y2, .int y1, .ref (zad V q0)]) := by
    intro x3 x4 q0 y1 y2 σ H locs ls hq0 hZ hl h1
    unfold FX0_tellValues_b132 at h1
    refine z_cSv (As := [.ref (zad V q0), .int y1, .int y2]) (rest := []) C0 hZ h1 (fun _ hf => kX7_put l hq0 hf) mRX0_139 sX7_put rfl rfl hl.1 (Nat.le_of_ble_eq_true rfl) ⟨Nat.le_of_ble_eq_true rfl, Nat.le_of_ble_eq_true rfl⟩ dX0_tellValues_132 ⟨Nat.le_of_ble_eq_true rfl, Nat.le_of_ble_eq_true rfl⟩ (fun _ σ_1 H locs h1 hZ => ?_)
    refine lv_aload_n hx hb dX0_tellValues_135 rfl (lv_at hl 0 rfl) ?_
    refine z_getr C0 hZ hk0 fRX0_52 rfl dX0_tellValues_136 ?_
    refine lv_iconst (v := 3) hx hb dX0_tellValues_139 (by decide) ?_
    refine lv_aload_n hx hb dX0_tellValues_140 rfl (lv_at hl 0 rfl) ?_
    refine z_getm C0 hZ h1 hk0 fRX0_64 rfl dX0_tellValues_141 (fun q_3 hq_3 h1 => ?_)
    refine z_getr C0 hZ hq_3 fRX0_74 rfl dX0_tellValues_144 ?_
    refine lv_aload_n hx hb dX0_tellValues_147 rfl (lv_at hl 0 rfl) ?_
    refine z_geti C0 hZ hk0 fRX0_46 rfl dX0_tellValues_148 ?_
    refine lv_iload_n hx hb dX0_tellValues_151 rfl (lv_at hl 2 rfl) ?_
    refine z_cVi (As := [.int (σ_1 k0 12), .int x3]) (rest := [.int 3, .ref (zad V (k0 + 7))]) C0 hZ h1 (fun _ hf => kX1_between l (zkt5_0 hq_3) hf) mRX0_194 vX1_between (zkt5_0 hq_3) rfl rfl hl.1 (Nat.le_of_ble_eq_true rfl) ⟨Nat.le_of_ble_eq_true rfl, Nat.le_of_ble_eq_true rfl⟩ dX0_tellValues_152 ⟨Nat.le_of_ble_eq_true rfl, Nat.le_of_ble_eq_true rfl⟩ (fun r_5 σ_4 H locs h1 hZ => ?_)
    refine z_cSv (As := [.ref (zad V (k0 + 7)), .int 3, .int r_5]) (rest := []) C0 hZ h1 (fun _ hf => kX7_put l (zkt0_14 hk0) hf) mRX0_139 sX7_put rfl rfl hl.1 (Nat.le_of_ble_eq_true rfl) ⟨Nat.le_of_ble_eq_true rfl, Nat.le_of_ble_eq_true rfl⟩ dX0_tellValues_155 ⟨Nat.le_of_ble_eq_true rfl, Nat.le_of_ble_eq_true rfl⟩ (fun _ σ_6 H locs h1 hZ => ?_)
    refine lv_aload_n hx hb dX0_tellValues_158 rfl (lv_at hl 0 rfl) ?_
    refine z_getr C0 hZ hk0 fRX0_52 rfl dX0_tellValues_159 ?_
    refine lv_iconst (v := 4) hx hb dX0_tellValues_162 (by decide) ?_
    refine lv_aload_n hx hb dX0_tellValues_163 rfl (lv_at hl 0 rfl) ?_
    refine z_getr C0 hZ hk0 fRX0_27 rfl dX0_tellValues_164 ?_
    refine lv_iload_n hx hb dX0_tellValues_167 rfl (lv_at hl 2 rfl) ?_
    refine z_cSi (As := [.ref (zad V (k0 + 1)), .int x3]) (rest := [.int 4, .ref (zad V (k0 + 7))]) C0 hZ h1 (fun _ hf => kX7_at l (zkt0_6 hk0) hf) mRX0_118 sX7_at rfl rfl hl.1 (Nat.le_of_ble_eq_true rfl) ⟨Nat.le_of_ble_eq_true rfl, Nat.le_of_ble_eq_true rfl⟩ dX0_tellValues_168 ⟨Nat.le_of_ble_eq_true rfl, Nat.le_of_ble_eq_true rfl⟩ (fun r_9 σ_8 H locs h1 hZ => ?_)
    refine z_cSv (As := [.ref (zad V (k0 + 7)), .int 4, .int r_9]) (rest := []) C0 hZ h1 (fun _ hf => kX7_put l (zkt0_14 hk0) hf) mRX0_139 sX7_put rfl rfl hl.1 (Nat.le_of_ble_eq_true rfl) ⟨Nat.le_of_ble_eq_true rfl, Nat.le_of_ble_eq_true rfl⟩ dX0_tellValues_171 ⟨Nat.le_of_ble_eq_true rfl, Nat.le_of_ble_eq_true rfl⟩ (fun _ σ_10 H locs h1 hZ => ?_)
    refine lv_aload_n hx hb dX0_tellValues_174 rfl (lv_at hl 0 rfl) ?_
    refine z_getr C0 hZ hk0 fRX0_52 rfl dX0_tellValues_175 ?_
    refine lv_iconst (v := 5) hx hb dX0_tellValues_178 (by decide) ?_
    refine lv_iload hx hb dX0_tellValues_179 (lv_at hl 3 rfl) ?_
    refine z_cSv (As := [.ref (zad V (k0 + 7)), .int 5, .int x4]) (rest := []) C0 hZ h1 (fun _ hf => kX7_put l (zkt0_14 hk0) hf) mRX0_139 sX7_put rfl rfl hl.1 (Nat.le_of_ble_eq_true rfl) ⟨Nat.le_of_ble_eq_true rfl, Nat.le_of_ble_eq_true rfl⟩ dX0_tellValues_181 ⟨Nat.le_of_ble_eq_true rfl, Nat.le_of_ble_eq_true rfl⟩ (fun _ σ_12 H locs h1 hZ => ?_)
    refine lv_aload_n hx hb dX0_tellValues_184 rfl (lv_at hl 0 rfl) ?_
    refine z_getr C0 hZ hk0 fRX0_52 rfl dX0_tellValues_185 ?_
    refine lv_bipush (v := 6) hx hb dX0_tellValues_188 (by decide) ?_
    refine lv_iload_n hx hb dX0_tellValues_190 rfl (lv_at hl 1 rfl) ?_
    refine z_cSv (As := [.ref (zad V (k0 + 7)), .int 6, .int x2]) (rest := []) C0 hZ h1 (fun _ hf => kX7_put l (zkt0_14 hk0) hf) mRX0_139 sX7_put rfl rfl hl.1 (Nat.le_of_ble_eq_true rfl) ⟨Nat.le_of_ble_eq_true rfl, Nat.le_of_ble_eq_true rfl⟩ dX0_tellValues_191 ⟨Nat.le_of_ble_eq_true rfl, Nat.le_of_ble_eq_true rfl⟩ (fun _ σ_14 H locs h1 hZ => ?_)
    rw [hQ]; exact z_vret C0 hr hlk hZ h1 dX0_tellValues_194
  have J59 : ∀ (x3 : Int32) (x4 : Int32) (σ : zS) (H : Heap) (locs : List Loc) (ls : Array Slot), zZ 0 V A σ s H locs → lv_has ls 6 [(0, .ref (zad V k0)), (1, .int x1), (2, .int x2), (3, .int x3), (4, .int x4)] → FX0_tellValues_b59 k0 x1 x2 x3 x4 σ = some t0 → W p l e (zrm 2 43) s m args below meth c H locs 0 0 Q (F0 m 59 ls []) := by
    intro x3 x4 σ H locs ls  hZ hl h1
    unfold FX0_tellValues_b59 at h1
    refine lv_aload_n hx hb dX0_tellValues_59 rfl (lv_at hl 0 rfl) ?_
    refine z_getr C0 hZ hk0 fRX0_52 rfl dX0_tellValues_60 ?_
    refine lv_iconst (v := 0) hx hb dX0_tellValues_63 (by decide) ?_
    refine lv_aload_n hx hb dX0_tellValues_64 rfl (lv_at hl 0 rfl) ?_
    refine z_getm C0 hZ h1 hk0 fRX0_64 rfl dX0_tellValues_65 (fun q_16 hq_16 h1 => ?_)
    refine z_getr C0 hZ hq_16 fRX0_122 rfl dX0_tellValues_68 ?_
    refine z_getr C0 hZ (zkt5_1 hq_16) fRX0_188 rfl dX0_tellValues_71 ?_
    refine lv_iload_n hx hb dX0_tellValues_74 rfl (lv_at hl 1 rfl) ?_
    refine z_cSi (As := [.ref (zad V ((q_16 + 7) + 4)), .int x1]) (rest := [.int 0, .ref (zad V (k0 + 7))]) C0 hZ h1 (fun _ hf => kX7_at l (zkt2_4 (zkt5_1 hq_16)) hf) mRX0_118 sX7_at rfl rfl hl.1 (Nat.le_of_ble_eq_true rfl) ⟨Nat.le_of_ble_eq_true rfl, Nat.le_of_ble_eq_true rfl⟩ dX0_tellValues_75 ⟨Nat.le_of_ble_eq_true rfl, Nat.le_of_ble_eq_true rfl⟩ (fun r_18 σ_17 H locs h1 hZ => ?_)
    refine z_cSv (As := [.ref (zad V (k0 + 7)), .int 0, .int r_18]) (rest := []) C0 hZ h1 (fun _ hf => kX7_put l (zkt0_14 hk0) hf) mRX0_139 sX7_put rfl rfl hl.1 (Nat.le_of_ble_eq_true rfl) ⟨Nat.le_of_ble_eq_true rfl, Nat.le_of_ble_eq_true rfl⟩ dX0_tellValues_78 ⟨Nat.le_of_ble_eq_true rfl, Nat.le_of_ble_eq_true rfl⟩ (fun _ σ_19 H locs h1 hZ => ?_)
    refine lv_aload_n hx hb dX0_tellValues_81 rfl (lv_at hl 0 rfl) ?_
    refine z_getr C0 hZ hk0 fRX0_52 rfl dX0_tellValues_82 ?_
    refine lv_iconst (v := 1) hx hb dX0_tellValues_85 (by decide) ?_
    refine lv_iload_n hx hb dX0_tellValues_86 rfl (lv_at hl 2 rfl) ?_
    refine lv_aload_n hx hb dX0_tellValues_87 rfl (lv_at hl 0 rfl) ?_
    refine z_getm C0 hZ h1 hk0 fRX0_64 rfl dX0_tellValues_88 (fun q_21 hq_21 h1 => ?_)
    refine z_getr C0 hZ hq_21 fRX0_122 rfl dX0_tellValues_91 ?_
    refine z_getr C0 hZ (zkt5_1 hq_21) fRX0_191 rfl dX0_tellValues_94 ?_
    refine lv_iload_n hx hb dX0_tellValues_97 rfl (lv_at hl 1 rfl) ?_
    refine z_cSi (As := [.ref (zad V ((q_21 + 7) + 2)), .int x1]) (rest := [.int x2, .int 1, .ref (zad V (k0 + 7))]) C0 hZ h1 (fun _ hf => kX7_at l (zkt2_2 (zkt5_1 hq_21)) hf) mRX0_118 sX7_at rfl rfl hl.1 (Nat.le_of_ble_eq_true rfl) ⟨Nat.le_of_ble_eq_true rfl, Nat.le_of_ble_eq_true rfl⟩ dX0_tellValues_98 ⟨Nat.le_of_ble_eq_true rfl, Nat.le_of_ble_eq_true rfl⟩ (fun r_23 σ_22 H locs h1 hZ => ?_)
    refine lv_isub hx hb dX0_tellValues_101 ?_
    refine lv_iconst (v := 1) hx hb dX0_tellValues_102 (by decide) ?_
    refine lv_iadd hx hb dX0_tellValues_103 ?_
    refine z_cSv (As := [.ref (zad V (k0 + 7)), .int 1, .int ((x2 - r_23) + 1)]) (rest := []) C0 hZ h1 (fun _ hf => kX7_put l (zkt0_14 hk0) hf) mRX0_139 sX7_put rfl rfl hl.1 (Nat.le_of_ble_eq_true rfl) ⟨Nat.le_of_ble_eq_true rfl, Nat.le_of_ble_eq_true rfl⟩ dX0_tellValues_104 ⟨Nat.le_of_ble_eq_true rfl, Nat.le_of_ble_eq_true rfl⟩ (fun _ σ_24 H locs h1 hZ => ?_)
    refine lv_aload_n hx hb dX0_tellValues_107 rfl (lv_at hl 0 rfl) ?_
    refine z_getr C0 hZ hk0 fRX0_52 rfl dX0_tellValues_108 ?_
    refine lv_iconst (v := 2) hx hb dX0_tellValues_111 (by decide) ?_
    refine lv_aload_n hx hb dX0_tellValues_112 rfl (lv_at hl 0 rfl) ?_
    refine z_getr C0 hZ hk0 fRX0_55 rfl dX0_tellValues_113 ?_
    refine lv_iconst (v := 5) hx hb dX0_tellValues_116 (by decide) ?_
    refine z_cSi (As := [.ref (zad V (k0 + 8)), .int 5]) (rest := [.int 2, .ref (zad V (k0 + 7))]) C0 hZ h1 (fun _ hf => kX7_at l (zkt0_15 hk0) hf) mRX0_118 sX7_at rfl rfl hl.1 (Nat.le_of_ble_eq_true rfl) ⟨Nat.le_of_ble_eq_true rfl, Nat.le_of_ble_eq_true rfl⟩ dX0_tellValues_117 ⟨Nat.le_of_ble_eq_true rfl, Nat.le_of_ble_eq_true rfl⟩ (fun r_27 σ_26 H locs h1 hZ => ?_)
    refine lv_iload_n hx hb dX0_tellValues_120 rfl (lv_at hl 1 rfl) ?_
    refine z_cSi (As := [.int r_27, .int x1]) (rest := [.int 2, .ref (zad V (k0 + 7))]) C0 hZ h1 (fun _ hf => kX7_holds l  hf) mRX0_131 sX7_holds rfl rfl hl.1 (Nat.le_of_ble_eq_true rfl) ⟨Nat.le_of_ble_eq_true rfl, Nat.le_of_ble_eq_true rfl⟩ dX0_tellValues_121 ⟨Nat.le_of_ble_eq_true rfl, Nat.le_of_ble_eq_true rfl⟩ (fun r_29 σ_28 H locs h1 hZ => ?_)
    refine z_if_eq (tgt := 131) C0 h1 dX0_tellValues_124 (by decide) (fun h1 => ?_) (fun h1 => ?_)
    · refine lv_iconst (v := 0) hx hb dX0_tellValues_131 (by decide) ?_
      exact J132 x3 x4 (k0 + 7) 2 0 _ _ _ _ (zkt0_14 hk0) hZ (lv_sub hl [0, 2, 3, 4] rfl) h1
    refine lv_iconst (v := 1) hx hb dX0_tellValues_127 (by decide) ?_
    refine lv_goto (tgt := 132) hx hb dX0_tellValues_128 (by decide) ?_
    exact J132 x3 x4 (k0 + 7) 2 1 _ _ _ _ (zkt0_14 hk0) hZ (lv_sub hl [0, 2, 3, 4] rfl) h1
  have J15 : ∀ (n : Nat) (x3 : Int32) (x4 : Int32) (x5 : Int32) (σ : zS) (H : Heap) (locs : List Loc) (ls : Array Slot), zZ 0 V A σ s H locs → lv_has ls 6 [(0, .ref (zad V k0)), (1, .int x1), (2, .int x2), (3, .int x3), (4, .int x4), (5, .int x5)] → zit (fun q => FX0_tellValues_L15 k0 x1 x2 x3 q.1 q.2.1 q.2.2) n (x4, x5, σ) = some t0 → W p l e (zrm 2 43) s m args below meth c H locs 0 0 Q (F0 m 15 ls []) := by
    intro n
    induction n with
    | zero => intro x3 x4 x5 σ H locs ls  _ _ h1; cases h1
    | succ n ih15 =>
      intro x3 x4 x5 σ H locs ls  hZ hl h1
      obtain ⟨t1, h1, hz1⟩ := zit_1 h1
      have J50 : ∀ (x5 : Int32) (y0 : Int32) (y1 : Int32) (σ : zS) (H : Heap) (locs : List Loc) (ls : Array Slot), zZ 0 V A σ s H locs → lv_has ls 6 [(0, .ref (zad V k0)), (1, .int x1), (2, .int x2), (3, .int x3), (5, .int x5)] → FX0_tellValues_b50 k0 x1 x2 x3 x5 y0 y1 σ = some t1 → W p l e (zrm 2 43) s m args below meth c H locs 0 0 Q (F0 m 50 ls [.int y1, .int y0]) := by
        intro x5 y0 y1 σ H locs ls  hZ hl h1
        unfold FX0_tellValues_b50 at h1
        refine lv_iadd hx hb dX0_tellValues_50 ?_
        refine z_istore C0 h1 hl (fun x4_30 => [(4, .int x4_30), (0, .ref (zad V k0)), (1, .int x1), (2, .int x2), (3, .int x3), (5, .int x5)]) dX0_tellValues_51 (by decide) (fun _ => rfl) (fun x4_30 ls h1 hl => ?_)
        refine z_iinc (v := 1) C0 h1 hl (fun x5_31 => [(5, .int x5_31), (4, .int x4_30), (0, .ref (zad V k0)), (1, .int x1), (2, .int x2), (3, .int x3)]) dX0_tellValues_53 (k := 5) rfl (by decide) (by decide) (fun _ => rfl) (fun x5_31 ls h1 hl => ?_)
        refine lv_goto (tgt := 15) hx hb dX0_tellValues_56 (by decide) ?_
        exact ih15 x3 x4_30 x5_31 _ _ _ _  hZ (lv_sub hl [2, 3, 4, 5, 1, 0] rfl) (zback h1 hz1)
      replace h1 : FX0_tellValues_L15 k0 x1 x2 x3 x4 x5 σ = some t1 := h1
      unfold FX0_tellValues_L15 at h1
      refine lv_iload hx hb dX0_tellValues_15 (lv_at hl 5 rfl) ?_
      refine lv_aload_n hx hb dX0_tellValues_17 rfl (lv_at hl 0 rfl) ?_
      refine z_getm C0 hZ h1 hk0 fRX0_64 rfl dX0_tellValues_18 (fun q_32 hq_32 h1 => ?_)
      refine z_getr C0 hZ hq_32 fRX0_122 rfl dX0_tellValues_21 ?_
      refine z_geti C0 hZ (zkt5_1 hq_32) fRX0_126 rfl dX0_tellValues_24 ?_
      refine z_ic_ge (tgt := 59) C0 h1 dX0_tellValues_27 (by decide) (fun h1 => ?_) (fun h1 => ?_)
      · have h1 := zout h1 hz1
        exact J59 x3 x4 _ _ _ _  hZ (lv_sub hl [0, 1, 2, 3, 4] rfl) h1
      refine lv_iload hx hb dX0_tellValues_30 (lv_at hl 4 rfl) ?_
      refine lv_aload_n hx hb dX0_tellValues_32 rfl (lv_at hl 0 rfl) ?_
      refine z_getr C0 hZ hk0 fRX0_37 rfl dX0_tellValues_33 ?_
      refine lv_iload hx hb dX0_tellValues_36 (lv_at hl 5 rfl) ?_
      refine z_cSi (As := [.ref (zad V (k0 + 4)), .int x5]) (rest := [.int x4]) C0 hZ h1 (fun _ hf => kX7_at l (zkt0_9 hk0) hf) mRX0_118 sX7_at rfl rfl hl.1 (Nat.le_of_ble_eq_true rfl) ⟨Nat.le_of_ble_eq_true rfl, Nat.le_of_ble_eq_true rfl⟩ dX0_tellValues_38 ⟨Nat.le_of_ble_eq_true rfl, Nat.le_of_ble_eq_true rfl⟩ (fun r_34 σ_33 H locs h1 hZ => ?_)
      refine lv_iload_n hx hb dX0_tellValues_41 rfl (lv_at hl 3 rfl) ?_
      refine z_ic_ne (tgt := 49) C0 h1 dX0_tellValues_42 (by decide) (fun h1 => ?_) (fun h1 => ?_)
      · refine lv_iconst (v := 0) hx hb dX0_tellValues_49 (by decide) ?_
        exact J50 x5 x4 0 _ _ _ _  hZ (lv_sub hl [0, 1, 2, 3, 5] rfl) h1
      refine lv_iconst (v := 1) hx hb dX0_tellValues_45 (by decide) ?_
      refine lv_goto (tgt := 50) hx hb dX0_tellValues_46 (by decide) ?_
      exact J50 x5 x4 1 _ _ _ _  hZ (lv_sub hl [0, 1, 2, 3, 5] rfl) h1
  refine lv_aload_n hx hb dX0_tellValues_0 rfl (lv_at hl 0 rfl) ?_
  refine z_getr C0 hZ hk0 fRX0_37 rfl dX0_tellValues_1 ?_
  refine lv_iload_n hx hb dX0_tellValues_4 rfl (lv_at hl 1 rfl) ?_
  refine z_cSi (As := [.ref (zad V (k0 + 4)), .int x1]) (rest := []) C0 hZ h1 (fun _ hf => kX7_at l (zkt0_9 hk0) hf) mRX0_118 sX7_at rfl rfl hl.1 (Nat.le_of_ble_eq_true rfl) ⟨Nat.le_of_ble_eq_true rfl, Nat.le_of_ble_eq_true rfl⟩ dX0_tellValues_5 ⟨Nat.le_of_ble_eq_true rfl, Nat.le_of_ble_eq_true rfl⟩ (fun r_36 σ_35 H locs h1 hZ => ?_)
  refine z_istore_n C0 h1 hl (fun x3_37 => [(3, .int x3_37), (0, .ref (zad V k0)), (1, .int x1), (2, .int x2)]) dX0_tellValues_8 rfl (by decide) (fun _ => rfl) (fun x3_37 ls h1 hl => ?_)
  refine lv_iconst (v := (-1)) hx hb dX0_tellValues_9 (by decide) ?_
  refine z_istore C0 h1 hl (fun x4_38 => [(4, .int x4_38), (3, .int x3_37), (0, .ref (zad V k0)), (1, .int x1), (2, .int x2)]) dX0_tellValues_10 (by decide) (fun _ => rfl) (fun x4_38 ls h1 hl => ?_)
  refine lv_iconst (v := 0) hx hb dX0_tellValues_12 (by decide) ?_
  refine z_istore C0 h1 hl (fun x5_39 => [(5, .int x5_39), (4, .int x4_38), (3, .int x3_37), (0, .ref (zad V k0)), (1, .int x1), (2, .int x2)]) dX0_tellValues_13 (by decide) (fun _ => rfl) (fun x5_39 ls h1 hl => ?_)
  obtain ⟨n, h1⟩ := zlp_iff.mp h1
  exact J15 n x3_37 x4_38 x5_39 _ _ _ _  hZ (lv_sub hl [3, 4, 5, 2, 1, 0] rfl) h1
noncomputable def FX4_push (k0 : Nat) (x1 : Int32) (σ : zS) : Option (Int32 × zS) := zbd (FX7_put (k0 + 3) (σ k0 5) x1 σ) (fun _ σ_1 => zlet (zup σ_1 k0 5 ((σ_1 k0 5) + 1)) (fun σ_3 => some (0, σ_3)))
set_option maxHeartbeats 4000000 in
set_option maxRecDepth 100000 in
theorem kX4_push (l : Launch) {V : zV} {σ : zS} {t0 : Int32 × zS} {k0 : Nat} {x1 : Int32} (hk0 : kd 0 k0 = 4) (h1 : FX4_push k0 x1 σ = some t0) : zMv l yX4_push cX4_push 2 1 22 0 V σ t0 [.ref (zad V k0), .int x1] := by
  refine zMv_of (by decide) (Nat.le_of_ble_eq_true rfl) ?_
  intro p e s m below meth c A C0 hr hlk hZ ls hl
  generalize ([.ref (zad V k0), .int x1] : List Value).toArray = args at C0 ⊢
  obtain ⟨Q, hQ⟩ : ∃ Q, Q = MQ below (zQv 0 V t0 A) args s 0 0 A := ⟨_, rfl⟩
  rw [← hQ]
  have hx := C0.1
  have hb := C0.2.1
  have hl : lv_has ls 2 [(0, .ref (zad V k0)), (1, .int x1)] := hl
  unfold FX4_push at h1
  refine lv_aload_n hx hb dX4_push_0 rfl (lv_at hl 0 rfl) ?_
  refine z_getr C0 hZ hk0 fRX4_25 rfl dX4_push_1 ?_
  refine lv_aload_n hx hb dX4_push_4 rfl (lv_at hl 0 rfl) ?_
  refine z_geti C0 hZ hk0 fRX4_28 rfl dX4_push_5 ?_
  refine lv_iload_n hx hb dX4_push_8 rfl (lv_at hl 1 rfl) ?_
  refine z_cSv (As := [.ref (zad V (k0 + 3)), .int (σ k0 5), .int x1]) (rest := []) C0 hZ h1 (fun _ hf => kX7_put l (zkt4_4 hk0) hf) mRX4_31 sX7_put rfl rfl hl.1 (Nat.le_of_ble_eq_true rfl) ⟨Nat.le_of_ble_eq_true rfl, Nat.le_of_ble_eq_true rfl⟩ dX4_push_9 ⟨Nat.le_of_ble_eq_true rfl, Nat.le_of_ble_eq_true rfl⟩ (fun _ σ_1 H locs h1 hZ => ?_)
  refine lv_aload_n hx hb dX4_push_12 rfl (lv_at hl 0 rfl) ?_
  refine lv_dup hx hb dX4_push_13 rfl ?_
  refine z_geti C0 hZ hk0 fRX4_28 rfl dX4_push_14 ?_
  refine lv_iconst (v := 1) hx hb dX4_push_17 (by decide) ?_
  refine lv_iadd hx hb dX4_push_18 ?_
  refine z_puti C0 hZ h1 hk0 fRX4_28 rfl tyX4_ok nmX4 rfl rfl rfl dX4_push_19 (fun σ_3 H locs h1 hZ => ?_)
  rw [hQ]; exact z_vret C0 hr hlk hZ h1 dX4_push_22
noncomputable def FX4_pop (k0 : Nat) (σ : zS) : Option (Int32 × zS) := zlet (zup σ k0 5 ((σ k0 5) - 1)) (fun σ_1 => zbd (FX7_at (k0 + 3) (σ_1 k0 5) σ_1) (fun r_3 σ_2 => some (r_3, σ_2)))
set_option maxHeartbeats 4000000 in
set_option maxRecDepth 100000 in
theorem kX4_pop (l : Launch) {V : zV} {σ : zS} {t0 : Int32 × zS} {k0 : Nat} (hk0 : kd 0 k0 = 4) (h1 : FX4_pop k0 σ = some t0) : zMi l yX4_pop cX4_pop 1 (some .int) 1 21 0 V σ t0 [.ref (zad V k0)] := by
  refine zMi_of (by decide) (Nat.le_of_ble_eq_true rfl) ?_
  intro p e s m below meth c A C0 hr hlk hZ ls hl
  generalize ([.ref (zad V k0)] : List Value).toArray = args at C0 ⊢
  obtain ⟨Q, hQ⟩ : ∃ Q, Q = MQ below (zQi 0 V t0 A) args s 0 0 A := ⟨_, rfl⟩
  rw [← hQ]
  have hx := C0.1
  have hb := C0.2.1
  have hl : lv_has ls 1 [(0, .ref (zad V k0))] := hl
  unfold FX4_pop at h1
  refine lv_aload_n hx hb dX4_pop_0 rfl (lv_at hl 0 rfl) ?_
  refine lv_dup hx hb dX4_pop_1 rfl ?_
  refine z_geti C0 hZ hk0 fRX4_28 rfl dX4_pop_2 ?_
  refine lv_iconst (v := 1) hx hb dX4_pop_5 (by decide) ?_
  refine lv_isub hx hb dX4_pop_6 ?_
  refine z_puti C0 hZ h1 hk0 fRX4_28 rfl tyX4_ok nmX4 rfl rfl rfl dX4_pop_7 (fun σ_1 H locs h1 hZ => ?_)
  refine lv_aload_n hx hb dX4_pop_10 rfl (lv_at hl 0 rfl) ?_
  refine z_getr C0 hZ hk0 fRX4_25 rfl dX4_pop_11 ?_
  refine lv_aload_n hx hb dX4_pop_14 rfl (lv_at hl 0 rfl) ?_
  refine z_geti C0 hZ hk0 fRX4_28 rfl dX4_pop_15 ?_
  refine z_cSi (As := [.ref (zad V (k0 + 3)), .int (σ_1 k0 5)]) (rest := []) C0 hZ h1 (fun _ hf => kX7_at l (zkt4_4 hk0) hf) mRX4_35 sX7_at rfl rfl hl.1 (Nat.le_of_ble_eq_true rfl) ⟨Nat.le_of_ble_eq_true rfl, Nat.le_of_ble_eq_true rfl⟩ dX4_pop_18 ⟨Nat.le_of_ble_eq_true rfl, Nat.le_of_ble_eq_true rfl⟩ (fun r_3 σ_2 H locs h1 hZ => ?_)
  rw [hQ]; exact z_iret C0 hr hlk hZ h1 dX4_pop_21
noncomputable def FX4_join_b97 (y0 : Int32) (σ : zS) : Option (Int32 × zS) := some (y0, σ)
noncomputable def FX4_join_b86 (y0 : Int32) (σ : zS) : Option (Int32 × zS) := some (y0, σ)
noncomputable def FX4_join_b121 (y0 : Int32) (σ : zS) : Option (Int32 × zS) := some (y0, σ)
noncomputable def FX4_join_b110 (x1 : Int32) (x2 : Int32) (σ : zS) : Option (Int32 × zS) := if x2 = 0 then FX4_join_b121 0 σ else zgd (x2 != 0) (FX4_join_b121 (x1 / x2) σ)
noncomputable def FX4_join_b75 (y0 : Int32) (σ : zS) : Option (Int32 × zS) := some (y0, σ)
noncomputable def FX4_join_b74  (σ : zS) : Option (Int32 × zS) := FX4_join_b75 0 σ
noncomputable def FX4_join_b61 (y0 : Int32) (σ : zS) : Option (Int32 × zS) := some (y0, σ)
noncomputable def FX4_join_b56  (σ : zS) : Option (Int32 × zS) := FX4_join_b61 1 σ
noncomputable def FX4_join (x0 : Int32) (x1 : Int32) (x2 : Int32) (σ : zS) : Option (Int32 × zS) := if x0 = (-17) then some ((x1 * x2), σ) else if x0 = (-16) then some ((x1 - x2), σ) else if x0 = (-15) then some ((x1 + x2), σ) else if x0 = (-14) then if x1 = x2 then FX4_join_b97 1 σ else FX4_join_b97 0 σ else if x0 = (-13) then if x2 ≤ x1 then FX4_join_b86 0 σ else FX4_join_b86 1 σ else if x0 = (-12) then FX4_join_b110 x1 x2 σ else if x0 = (-11) then if x1 = 0 then FX4_join_b74  σ else if x2 = 0 then FX4_join_b74  σ else FX4_join_b75 1 σ else if x0 = (-10) then if x1 = 0 then if x2 = 0 then FX4_join_b61 0 σ else FX4_join_b56  σ else FX4_join_b56  σ else FX4_join_b110 x1 x2 σ
set_option maxHeartbeats 4000000 in
set_option maxRecDepth 100000 in
theorem kX4_join (l : Launch) {V : zV} {σ : zS} {t0 : Int32 × zS} {x0 : Int32} {x1 : Int32} {x2 : Int32}  (h1 : FX4_join x0 x1 x2 σ = some t0) : zMi l yX4_join cX4_join 3 (some .int) 0 0 0 V σ t0 [.int x0, .int x1, .int x2] := by
  refine zMi_of (by decide) (Nat.le_of_ble_eq_true rfl) ?_
  intro p e s m below meth c A C0 hr hlk hZ ls hl
  generalize ([.int x0, .int x1, .int x2] : List Value).toArray = args at C0 ⊢
  obtain ⟨Q, hQ⟩ : ∃ Q, Q = MQ below (zQi 0 V t0 A) args s 0 0 A := ⟨_, rfl⟩
  rw [← hQ]
  have hx := C0.1
  have hb := C0.2.1
  have hl : lv_has ls 3 [(0, .int x0), (1, .int x1), (2, .int x2)] := hl
  unfold FX4_join at h1
  have J97 : ∀ (y0 : Int32) (σ : zS) (H : Heap) (locs : List Loc) (ls : Array Slot), zZ 0 V A σ s H locs → lv_has ls 3 [] → FX4_join_b97 y0 σ = some t0 → W p l e (zrm 0 0) s m args below meth c H locs 0 0 Q (F0 m 97 ls [.int y0]) := by
    intro y0 σ H locs ls  hZ hl h1
    unfold FX4_join_b97 at h1
    rw [hQ]; exact z_iret C0 hr hlk hZ h1 dX4_join_97
  have J86 : ∀ (y0 : Int32) (σ : zS) (H : Heap) (locs : List Loc) (ls : Array Slot), zZ 0 V A σ s H locs → lv_has ls 3 [] → FX4_join_b86 y0 σ = some t0 → W p l e (zrm 0 0) s m args below meth c H locs 0 0 Q (F0 m 86 ls [.int y0]) := by
    intro y0 σ H locs ls  hZ hl h1
    unfold FX4_join_b86 at h1
    rw [hQ]; exact z_iret C0 hr hlk hZ h1 dX4_join_86
  have J121 : ∀ (y0 : Int32) (σ : zS) (H : Heap) (locs : List Loc) (ls : Array Slot), zZ 0 V A σ s H locs → lv_has ls 3 [] → FX4_join_b121 y0 σ = some t0 → W p l e (zrm 0 0) s m args below meth c H locs 0 0 Q (F0 m 121 ls [.int y0]) := by
    intro y0 σ H locs ls  hZ hl h1
    unfold FX4_join_b121 at h1
    rw [hQ]; exact z_iret C0 hr hlk hZ h1 dX4_join_121
  have J110 : ∀  (σ : zS) (H : Heap) (locs : List Loc) (ls : Array Slot), zZ 0 V A σ s H locs → lv_has ls 3 [(1, .int x1), (2, .int x2)] → FX4_join_b110 x1 x2 σ = some t0 → W p l e (zrm 0 0) s m args below meth c H locs 0 0 Q (F0 m 110 ls []) := by
    intro  σ H locs ls  hZ hl h1
    unfold FX4_join_b110 at h1
    refine lv_iload_n hx hb dX4_join_110 rfl (lv_at hl 1 rfl) ?_
    refine z_if_ne (tgt := 118) C0 h1 dX4_join_111 (by decide) (fun h1 => ?_) (fun h1 => ?_)
    · refine lv_iload_n hx hb dX4_join_118 rfl (lv_at hl 0 rfl) ?_
      refine lv_iload_n hx hb dX4_join_119 rfl (lv_at hl 1 rfl) ?_
      refine z_idiv C0 h1 dX4_join_120 (fun h1 => ?_)
      exact J121 (x1 / x2) _ _ _ _  hZ (lv_sub hl [] rfl) h1
    refine lv_iconst (v := 0) hx hb dX4_join_114 (by decide) ?_
    refine lv_goto (tgt := 121) hx hb dX4_join_115 (by decide) ?_
    exact J121 0 _ _ _ _  hZ (lv_sub hl [] rfl) h1
  have J75 : ∀ (y0 : Int32) (σ : zS) (H : Heap) (locs : List Loc) (ls : Array Slot), zZ 0 V A σ s H locs → lv_has ls 3 [] → FX4_join_b75 y0 σ = some t0 → W p l e (zrm 0 0) s m args below meth c H locs 0 0 Q (F0 m 75 ls [.int y0]) := by
    intro y0 σ H locs ls  hZ hl h1
    unfold FX4_join_b75 at h1
    rw [hQ]; exact z_iret C0 hr hlk hZ h1 dX4_join_75
  have J74 : ∀  (σ : zS) (H : Heap) (locs : List Loc) (ls : Array Slot), zZ 0 V A σ s H locs → lv_has ls 3 [] → FX4_join_b74  σ = some t0 → W p l e (zrm 0 0) s m args below meth c H locs 0 0 Q (F0 m 74 ls []) := by
    intro  σ H locs ls  hZ hl h1
    unfold FX4_join_b74 at h1
    refine lv_iconst (v := 0) hx hb dX4_join_74 (by decide) ?_
    exact J75 0 _ _ _ _  hZ (lv_sub hl [] rfl) h1
  have J61 : ∀ (y0 : Int32) (σ : zS) (H : Heap) (locs : List Loc) (ls : Array Slot), zZ 0 V A σ s H locs → lv_has ls 3 [] → FX4_join_b61 y0 σ = some t0 → W p l e (zrm 0 0) s m args below meth c H locs 0 0 Q (F0 m 61 ls [.int y0]) := by
    intro y0 σ H locs ls  hZ hl h1
    unfold FX4_join_b61 at h1
    rw [hQ]; exact z_iret C0 hr hlk hZ h1 dX4_join_61
  have J56 : ∀  (σ : zS) (H : Heap) (locs : List Loc) (ls : Array Slot), zZ 0 V A σ s H locs → lv_has ls 3 [] → FX4_join_b56  σ = some t0 → W p l e (zrm 0 0) s m args below meth c H locs 0 0 Q (F0 m 56 ls []) := by
    intro  σ H locs ls  hZ hl h1
    unfold FX4_join_b56 at h1
    refine lv_iconst (v := 1) hx hb dX4_join_56 (by decide) ?_
    refine lv_goto (tgt := 61) hx hb dX4_join_57 (by decide) ?_
    exact J61 1 _ _ _ _  hZ (lv_sub hl [] rfl) h1
  refine lv_iload_n hx hb dX4_join_0 rfl (lv_at hl 0 rfl) ?_
  refine z_case h1 (fun hv h1 => ?_) (fun e1_0 h1 => ?_)
  · refine lv_tableIn (tgt := 106) hx hb dX4_join_1 (by rw [hv]; decide) (by rw [hv]; decide) (by rw [hv]; rfl) (by decide) ?_
    refine lv_iload_n hx hb dX4_join_106 rfl (lv_at hl 1 rfl) ?_
    refine lv_iload_n hx hb dX4_join_107 rfl (lv_at hl 2 rfl) ?_
    refine lv_imul hx hb dX4_join_108 ?_
    rw [hQ]; exact z_iret C0 hr hlk hZ h1 dX4_join_109
  refine z_case h1 (fun hv h1 => ?_) (fun e1_1 h1 => ?_)
  · refine lv_tableIn (tgt := 102) hx hb dX4_join_1 (by rw [hv]; decide) (by rw [hv]; decide) (by rw [hv]; rfl) (by decide) ?_
    refine lv_iload_n hx hb dX4_join_102 rfl (lv_at hl 1 rfl) ?_
    refine lv_iload_n hx hb dX4_join_103 rfl (lv_at hl 2 rfl) ?_
    refine lv_isub hx hb dX4_join_104 ?_
    rw [hQ]; exact z_iret C0 hr hlk hZ h1 dX4_join_105
  refine z_case h1 (fun hv h1 => ?_) (fun e1_2 h1 => ?_)
  · refine lv_tableIn (tgt := 98) hx hb dX4_join_1 (by rw [hv]; decide) (by rw [hv]; decide) (by rw [hv]; rfl) (by decide) ?_
    refine lv_iload_n hx hb dX4_join_98 rfl (lv_at hl 1 rfl) ?_
    refine lv_iload_n hx hb dX4_join_99 rfl (lv_at hl 2 rfl) ?_
    refine lv_iadd hx hb dX4_join_100 ?_
    rw [hQ]; exact z_iret C0 hr hlk hZ h1 dX4_join_101
  refine z_case h1 (fun hv h1 => ?_) (fun e1_3 h1 => ?_)
  · refine lv_tableIn (tgt := 87) hx hb dX4_join_1 (by rw [hv]; decide) (by rw [hv]; decide) (by rw [hv]; rfl) (by decide) ?_
    refine lv_iload_n hx hb dX4_join_87 rfl (lv_at hl 1 rfl) ?_
    refine lv_iload_n hx hb dX4_join_88 rfl (lv_at hl 2 rfl) ?_
    refine z_ic_ne (tgt := 96) C0 h1 dX4_join_89 (by decide) (fun h1 => ?_) (fun h1 => ?_)
    · refine lv_iconst (v := 0) hx hb dX4_join_96 (by decide) ?_
      exact J97 0 _ _ _ _  hZ (lv_sub hl [] rfl) h1
    refine lv_iconst (v := 1) hx hb dX4_join_92 (by decide) ?_
    refine lv_goto (tgt := 97) hx hb dX4_join_93 (by decide) ?_
    exact J97 1 _ _ _ _  hZ (lv_sub hl [] rfl) h1
  refine z_case h1 (fun hv h1 => ?_) (fun e1_4 h1 => ?_)
  · refine lv_tableIn (tgt := 76) hx hb dX4_join_1 (by rw [hv]; decide) (by rw [hv]; decide) (by rw [hv]; rfl) (by decide) ?_
    refine lv_iload_n hx hb dX4_join_76 rfl (lv_at hl 1 rfl) ?_
    refine lv_iload_n hx hb dX4_join_77 rfl (lv_at hl 2 rfl) ?_
    refine z_ic_ge (tgt := 85) C0 h1 dX4_join_78 (by decide) (fun h1 => ?_) (fun h1 => ?_)
    · refine lv_iconst (v := 0) hx hb dX4_join_85 (by decide) ?_
      exact J86 0 _ _ _ _  hZ (lv_sub hl [] rfl) h1
    refine lv_iconst (v := 1) hx hb dX4_join_81 (by decide) ?_
    refine lv_goto (tgt := 86) hx hb dX4_join_82 (by decide) ?_
    exact J86 1 _ _ _ _  hZ (lv_sub hl [] rfl) h1
  refine z_case h1 (fun hv h1 => ?_) (fun e1_5 h1 => ?_)
  · refine lv_tableIn (tgt := 110) hx hb dX4_join_1 (by rw [hv]; decide) (by rw [hv]; decide) (by rw [hv]; rfl) (by decide) ?_
    exact J110  _ _ _ _  hZ (lv_sub hl [1, 2] rfl) h1
  refine z_case h1 (fun hv h1 => ?_) (fun e1_6 h1 => ?_)
  · refine lv_tableIn (tgt := 62) hx hb dX4_join_1 (by rw [hv]; decide) (by rw [hv]; decide) (by rw [hv]; rfl) (by decide) ?_
    refine lv_iload_n hx hb dX4_join_62 rfl (lv_at hl 1 rfl) ?_
    refine z_if_eq (tgt := 74) C0 h1 dX4_join_63 (by decide) (fun h1 => ?_) (fun h1 => ?_)
    · exact J74  _ _ _ _  hZ (lv_sub hl [] rfl) h1
    refine lv_iload_n hx hb dX4_join_66 rfl (lv_at hl 2 rfl) ?_
    refine z_if_eq (tgt := 74) C0 h1 dX4_join_67 (by decide) (fun h1 => ?_) (fun h1 => ?_)
    · exact J74  _ _ _ _  hZ (lv_sub hl [] rfl) h1
    refine lv_iconst (v := 1) hx hb dX4_join_70 (by decide) ?_
    refine lv_goto (tgt := 75) hx hb dX4_join_71 (by decide) ?_
    exact J75 1 _ _ _ _  hZ (lv_sub hl [] rfl) h1
  refine z_case h1 (fun hv h1 => ?_) (fun e1_7 h1 => ?_)
  · refine lv_tableIn (tgt := 48) hx hb dX4_join_1 (by rw [hv]; decide) (by rw [hv]; decide) (by rw [hv]; rfl) (by decide) ?_
    refine lv_iload_n hx hb dX4_join_48 rfl (lv_at hl 1 rfl) ?_
    refine z_if_ne (tgt := 56) C0 h1 dX4_join_49 (by decide) (fun h1 => ?_) (fun h1 => ?_)
    · exact J56  _ _ _ _  hZ (lv_sub hl [] rfl) h1
    refine lv_iload_n hx hb dX4_join_52 rfl (lv_at hl 2 rfl) ?_
    refine z_if_eq (tgt := 60) C0 h1 dX4_join_53 (by decide) (fun h1 => ?_) (fun h1 => ?_)
    · refine lv_iconst (v := 0) hx hb dX4_join_60 (by decide) ?_
      exact J61 0 _ _ _ _  hZ (lv_sub hl [] rfl) h1
    exact J56  _ _ _ _  hZ (lv_sub hl [] rfl) h1
  refine lv_tableOut (tgt := 110) hx hb dX4_join_1 (z_tout [(-17), (-16), (-15), (-14), (-13), (-12), (-11), (-10)] (by decide) (by decide) (List.forall_mem_cons.mpr ⟨e1_0, List.forall_mem_cons.mpr ⟨e1_1, List.forall_mem_cons.mpr ⟨e1_2, List.forall_mem_cons.mpr ⟨e1_3, List.forall_mem_cons.mpr ⟨e1_4, List.forall_mem_cons.mpr ⟨e1_5, List.forall_mem_cons.mpr ⟨e1_6, List.forall_mem_cons.mpr ⟨e1_7, fun _ h => absurd h List.not_mem_nil⟩⟩⟩⟩⟩⟩⟩⟩)) (by decide) ?_
  exact J110  _ _ _ _  hZ (lv_sub hl [1, 2] rfl) h1
noncomputable def FX4_valueOf_b144 (k0 : Nat) (σ : zS) : Option (Int32 × zS) := zbd (FX4_pop k0 σ) (fun r_2 σ_1 => some (r_2, σ_1))
noncomputable def FX4_valueOf_b138 (k0 : Nat) (k2 : Nat) (x4 : Int32) (x5 : Int32) (σ : zS) : Option ((Int32 × zS) ⊕ (Int32 × zS)) := zlet (x5 + 1) (fun x5_3 => some (.inl (x5_3, σ)))
noncomputable def FX4_valueOf_b111 (k0 : Nat) (k2 : Nat) (x4 : Int32) (x5 : Int32) (q0 : Nat) (y1 : Int32) (σ : zS) : Option ((Int32 × zS) ⊕ (Int32 × zS)) := zbd (FX4_push q0 y1 σ) (fun _ σ_4 => FX4_valueOf_b138 k0 k2 x4 x5 σ_4)
noncomputable def FX4_valueOf_L37 (k0 : Nat) (k2 : Nat) (x4 : Int32) (x5 : Int32) (σ : zS) : Option ((Int32 × zS) ⊕ (Int32 × zS)) := if x4 ≤ x5 then zinr (FX4_valueOf_b144 k0 σ) else zbd (FX7_at (k0 + 2) x5 σ) (fun r_7 σ_6 => zlet r_7 (fun x6_8 => if x6_8 < 0 then if x6_8 ≤ (-10) then if x6_8 = (-12) then zbd (FX4_pop k0 σ_6) (fun r_19 σ_18 => if r_19 = 0 then FX4_valueOf_b111 k0 k2 x4 x5 k0 1 σ_18 else FX4_valueOf_b111 k0 k2 x4 x5 k0 0 σ_18) else zbd (FX4_pop k0 σ_6) (fun r_10 σ_9 => zlet r_10 (fun x7_11 => zbd (FX4_pop k0 σ_9) (fun r_13 σ_12 => zbd (FX4_join x6_8 r_13 x7_11 σ_12) (fun r_15 σ_14 => zbd (FX4_push k0 r_15 σ_14) (fun _ σ_16 => FX4_valueOf_b138 k0 k2 x4 x5 σ_16))))) else zbd (FX7_at k2 ((-1) - x6_8) σ_6) (fun r_21 σ_20 => zbd (FX4_push k0 r_21 σ_20) (fun _ σ_22 => FX4_valueOf_b138 k0 k2 x4 x5 σ_22)) else zbd (FX4_push k0 x6_8 σ_6) (fun _ σ_24 => FX4_valueOf_b138 k0 k2 x4 x5 σ_24)))
noncomputable def FX4_valueOf_b18 (k0 : Nat) (x1 : Int32) (k2 : Nat) (y0 : Int32) (σ : zS) : Option (Int32 × zS) := zlet y0 (fun x3_26 => zbd (FX7_at (k0 + 1) x1 σ) (fun r_28 σ_27 => zlet r_28 (fun x4_29 => zlet (zup σ_27 k0 5 0) (fun σ_30 => zlet x3_26 (fun x5_31 => zlp (fun q => FX4_valueOf_L37 k0 k2 x4_29 q.1 q.2) (x5_31, σ_30))))))
noncomputable def FX4_valueOf (k0 : Nat) (x1 : Int32) (k2 : Nat) (σ : zS) : Option (Int32 × zS) := if x1 ≤ 0 then FX4_valueOf_b18 k0 x1 k2 0 σ else zbd (FX7_at (k0 + 1) (x1 - 1) σ) (fun r_33 σ_32 => FX4_valueOf_b18 k0 x1 k2 r_33 σ_32)
set_option maxHeartbeats 4000000 in
set_option maxRecDepth 100000 in
theorem kX4_valueOf (l : Launch) {V : zV} {σ : zS} {t0 : Int32 × zS} {k0 : Nat} {x1 : Int32} {k2 : Nat} (hk0 : kd 0 k0 = 4) (hk2 : kd 0 k2 = 100) (h1 : FX4_valueOf k0 x1 k2 σ = some t0) : zMi l yX4_valueOf cX4_valueOf 8 (some .int) 2 43 0 V σ t0 [.ref (zad V k0), .int x1, .ref (zad V k2)] := by
  refine zMi_of (by decide) (Nat.le_of_ble_eq_true rfl) ?_
  intro p e s m below meth c A C0 hr hlk hZ ls hl
  generalize ([.ref (zad V k0), .int x1, .ref (zad V k2)] : List Value).toArray = args at C0 ⊢
  obtain ⟨Q, hQ⟩ : ∃ Q, Q = MQ below (zQi 0 V t0 A) args s 0 0 A := ⟨_, rfl⟩
  rw [← hQ]
  have hx := C0.1
  have hb := C0.2.1
  have hl : lv_has ls 8 [(0, .ref (zad V k0)), (1, .int x1), (2, .ref (zad V k2))] := hl
  unfold FX4_valueOf at h1
  have J144 : ∀  (σ : zS) (H : Heap) (locs : List Loc) (ls : Array Slot), zZ 0 V A σ s H locs → lv_has ls 8 [(0, .ref (zad V k0))] → FX4_valueOf_b144 k0 σ = some t0 → W p l e (zrm 2 43) s m args below meth c H locs 0 0 Q (F0 m 144 ls []) := by
    intro  σ H locs ls  hZ hl h1
    unfold FX4_valueOf_b144 at h1
    refine lv_aload_n hx hb dX4_valueOf_144 rfl (lv_at hl 0 rfl) ?_
    refine z_cVi (As := []) (rest := []) C0 hZ h1 (fun _ hf => kX4_pop l hk0 hf) mRX4_43 vX4_pop hk0 rfl rfl hl.1 (Nat.le_of_ble_eq_true rfl) ⟨Nat.le_of_ble_eq_true rfl, Nat.le_of_ble_eq_true rfl⟩ dX4_valueOf_145 ⟨Nat.le_of_ble_eq_true rfl, Nat.le_of_ble_eq_true rfl⟩ (fun r_2 σ_1 H locs h1 hZ => ?_)
    rw [hQ]; exact z_iret C0 hr hlk hZ h1 dX4_valueOf_148
  have J37 : ∀ (n : Nat) (x4 : Int32) (x5 : Int32) (σ : zS) (H : Heap) (locs : List Loc) (ls : Array Slot), zZ 0 V A σ s H locs → lv_has ls 8 [(0, .ref (zad V k0)), (2, .ref (zad V k2)), (4, .int x4), (5, .int x5)] → zit (fun q => FX4_valueOf_L37 k0 k2 x4 q.1 q.2) n (x5, σ) = some t0 → W p l e (zrm 2 43) s m args below meth c H locs 0 0 Q (F0 m 37 ls []) := by
    intro n
    induction n with
    | zero => intro x4 x5 σ H locs ls  _ _ h1; cases h1
    | succ n ih37 =>
      intro x4 x5 σ H locs ls  hZ hl h1
      obtain ⟨t1, h1, hz1⟩ := zit_1 h1
      have J138 : ∀ (x5 : Int32) (σ : zS) (H : Heap) (locs : List Loc) (ls : Array Slot), zZ 0 V A σ s H locs → lv_has ls 8 [(0, .ref (zad V k0)), (2, .ref (zad V k2)), (4, .int x4), (5, .int x5)] → FX4_valueOf_b138 k0 k2 x4 x5 σ = some t1 → W p l e (zrm 2 43) s m args below meth c H locs 0 0 Q (F0 m 138 ls []) := by
        intro x5 σ H locs ls  hZ hl h1
        unfold FX4_valueOf_b138 at h1
        refine z_iinc (v := 1) C0 h1 hl (fun x5_3 => [(5, .int x5_3), (0, .ref (zad V k0)), (2, .ref (zad V k2)), (4, .int x4)]) dX4_valueOf_138 (k := 3) rfl (by decide) (by decide) (fun _ => rfl) (fun x5_3 ls h1 hl => ?_)
        refine lv_goto (tgt := 37) hx hb dX4_valueOf_141 (by decide) ?_
        exact ih37 x4 x5_3 _ _ _ _  hZ (lv_sub hl [1, 2, 3, 0] rfl) (zback h1 hz1)
      have J111 : ∀ (x5 : Int32) (q0 : Nat) (y1 : Int32) (σ : zS) (H : Heap) (locs : List Loc) (ls : Array Slot), kd 0 q0 = 4 → zZ 0 V A σ s H locs → lv_has ls 8 [(0, .ref (zad V k0)), (2, .ref (zad V k2)), (4, .int x4), (5, .int x5)] → FX4_valueOf_b111 k0 k2 x4 x5 q0 y1 σ = some t1 → W p l e (zrm 2 43) s m args below meth c H locs 0 0 Q (F0 m 111 ls [.int y1, .ref (zad V q0)]) := by
        intro x5 q0 y1 σ H locs ls hq0 hZ hl h1
        unfold FX4_valueOf_b111 at h1
        refine z_cVv (As := [.int y1]) (rest := []) C0 hZ h1 (fun _ hf => kX4_push l hq0 hf) mRX4_39 vX4_push hq0 rfl rfl hl.1 (Nat.le_of_ble_eq_true rfl) ⟨Nat.le_of_ble_eq_true rfl, Nat.le_of_ble_eq_true rfl⟩ dX4_valueOf_111 ⟨Nat.le_of_ble_eq_true rfl, Nat.le_of_ble_eq_true rfl⟩ (fun _ σ_4 H locs h1 hZ => ?_)
        refine lv_goto (tgt := 138) hx hb dX4_valueOf_114 (by decide) ?_
        exact J138 x5 _ _ _ _  hZ (lv_sub hl [0, 1, 2, 3] rfl) h1
      replace h1 : FX4_valueOf_L37 k0 k2 x4 x5 σ = some t1 := h1
      unfold FX4_valueOf_L37 at h1
      refine lv_iload hx hb dX4_valueOf_37 (lv_at hl 3 rfl) ?_
      refine lv_iload hx hb dX4_valueOf_39 (lv_at hl 2 rfl) ?_
      refine z_ic_ge (tgt := 144) C0 h1 dX4_valueOf_41 (by decide) (fun h1 => ?_) (fun h1 => ?_)
      · have h1 := zout h1 hz1
        exact J144  _ _ _ _  hZ (lv_sub hl [0] rfl) h1
      refine lv_aload_n hx hb dX4_valueOf_44 rfl (lv_at hl 0 rfl) ?_
      refine z_getr C0 hZ hk0 fRX4_22 rfl dX4_valueOf_45 ?_
      refine lv_iload hx hb dX4_valueOf_48 (lv_at hl 3 rfl) ?_
      refine z_cSi (As := [.ref (zad V (k0 + 2)), .int x5]) (rest := []) C0 hZ h1 (fun _ hf => kX7_at l (zkt4_3 hk0) hf) mRX4_35 sX7_at rfl rfl hl.1 (Nat.le_of_ble_eq_true rfl) ⟨Nat.le_of_ble_eq_true rfl, Nat.le_of_ble_eq_true rfl⟩ dX4_valueOf_50 ⟨Nat.le_of_ble_eq_true rfl, Nat.le_of_ble_eq_true rfl⟩ (fun r_7 σ_6 H locs h1 hZ => ?_)
      refine z_istore C0 h1 hl (fun x6_8 => [(6, .int x6_8), (0, .ref (zad V k0)), (2, .ref (zad V k2)), (4, .int x4), (5, .int x5)]) dX4_valueOf_53 (by decide) (fun _ => rfl) (fun x6_8 ls h1 hl => ?_)
      refine lv_iload hx hb dX4_valueOf_55 (lv_at hl 0 rfl) ?_
      refine z_if_lt (tgt := 69) C0 h1 dX4_valueOf_57 (by decide) (fun h1 => ?_) (fun h1 => ?_)
      · refine lv_iload hx hb dX4_valueOf_69 (lv_at hl 0 rfl) ?_
        refine lv_bipush (v := (-10)) hx hb dX4_valueOf_71 (by decide) ?_
        refine z_ic_le (tgt := 91) C0 h1 dX4_valueOf_73 (by decide) (fun h1 => ?_) (fun h1 => ?_)
        · refine lv_iload hx hb dX4_valueOf_91 (lv_at hl 0 rfl) ?_
          refine lv_bipush (v := (-12)) hx hb dX4_valueOf_93 (by decide) ?_
          refine z_ic_ne (tgt := 117) C0 h1 dX4_valueOf_95 (by decide) (fun h1 => ?_) (fun h1 => ?_)
          · refine lv_aload_n hx hb dX4_valueOf_117 rfl (lv_at hl 1 rfl) ?_
            refine z_cVi (As := []) (rest := []) C0 hZ h1 (fun _ hf => kX4_pop l hk0 hf) mRX4_43 vX4_pop hk0 rfl rfl hl.1 (Nat.le_of_ble_eq_true rfl) ⟨Nat.le_of_ble_eq_true rfl, Nat.le_of_ble_eq_true rfl⟩ dX4_valueOf_118 ⟨Nat.le_of_ble_eq_true rfl, Nat.le_of_ble_eq_true rfl⟩ (fun r_10 σ_9 H locs h1 hZ => ?_)
            refine z_istore C0 h1 hl (fun x7_11 => [(7, .int x7_11), (6, .int x6_8), (0, .ref (zad V k0)), (2, .ref (zad V k2)), (4, .int x4), (5, .int x5)]) dX4_valueOf_121 (by decide) (fun _ => rfl) (fun x7_11 ls h1 hl => ?_)
            refine lv_aload_n hx hb dX4_valueOf_123 rfl (lv_at hl 2 rfl) ?_
            refine lv_iload hx hb dX4_valueOf_124 (lv_at hl 1 rfl) ?_
            refine lv_aload_n hx hb dX4_valueOf_126 rfl (lv_at hl 2 rfl) ?_
            refine z_cVi (As := []) (rest := [.int x6_8, .ref (zad V k0)]) C0 hZ h1 (fun _ hf => kX4_pop l hk0 hf) mRX4_43 vX4_pop hk0 rfl rfl hl.1 (Nat.le_of_ble_eq_true rfl) ⟨Nat.le_of_ble_eq_true rfl, Nat.le_of_ble_eq_true rfl⟩ dX4_valueOf_127 ⟨Nat.le_of_ble_eq_true rfl, Nat.le_of_ble_eq_true rfl⟩ (fun r_13 σ_12 H locs h1 hZ => ?_)
            refine lv_iload hx hb dX4_valueOf_130 (lv_at hl 0 rfl) ?_
            refine z_cSi (As := [.int x6_8, .int r_13, .int x7_11]) (rest := [.ref (zad V k0)]) C0 hZ h1 (fun _ hf => kX4_join l  hf) mRX4_47 sX4_join rfl rfl hl.1 (Nat.le_of_ble_eq_true rfl) ⟨Nat.le_of_ble_eq_true rfl, Nat.le_of_ble_eq_true rfl⟩ dX4_valueOf_132 ⟨Nat.le_of_ble_eq_true rfl, Nat.le_of_ble_eq_true rfl⟩ (fun r_15 σ_14 H locs h1 hZ => ?_)
            refine z_cVv (As := [.int r_15]) (rest := []) C0 hZ h1 (fun _ hf => kX4_push l hk0 hf) mRX4_39 vX4_push hk0 rfl rfl hl.1 (Nat.le_of_ble_eq_true rfl) ⟨Nat.le_of_ble_eq_true rfl, Nat.le_of_ble_eq_true rfl⟩ dX4_valueOf_135 ⟨Nat.le_of_ble_eq_true rfl, Nat.le_of_ble_eq_true rfl⟩ (fun _ σ_16 H locs h1 hZ => ?_)
            exact J138 x5 _ _ _ _  hZ (lv_sub hl [2, 3, 4, 5] rfl) h1
          refine lv_aload_n hx hb dX4_valueOf_98 rfl (lv_at hl 1 rfl) ?_
          refine lv_aload_n hx hb dX4_valueOf_99 rfl (lv_at hl 1 rfl) ?_
          refine z_cVi (As := []) (rest := [.ref (zad V k0)]) C0 hZ h1 (fun _ hf => kX4_pop l hk0 hf) mRX4_43 vX4_pop hk0 rfl rfl hl.1 (Nat.le_of_ble_eq_true rfl) ⟨Nat.le_of_ble_eq_true rfl, Nat.le_of_ble_eq_true rfl⟩ dX4_valueOf_100 ⟨Nat.le_of_ble_eq_true rfl, Nat.le_of_ble_eq_true rfl⟩ (fun r_19 σ_18 H locs h1 hZ => ?_)
          refine z_if_ne (tgt := 110) C0 h1 dX4_valueOf_103 (by decide) (fun h1 => ?_) (fun h1 => ?_)
          · refine lv_iconst (v := 0) hx hb dX4_valueOf_110 (by decide) ?_
            exact J111 x5 k0 0 _ _ _ _ hk0 hZ (lv_sub hl [1, 2, 3, 4] rfl) h1
          refine lv_iconst (v := 1) hx hb dX4_valueOf_106 (by decide) ?_
          refine lv_goto (tgt := 111) hx hb dX4_valueOf_107 (by decide) ?_
          exact J111 x5 k0 1 _ _ _ _ hk0 hZ (lv_sub hl [1, 2, 3, 4] rfl) h1
        refine lv_aload_n hx hb dX4_valueOf_76 rfl (lv_at hl 1 rfl) ?_
        refine lv_aload_n hx hb dX4_valueOf_77 rfl (lv_at hl 2 rfl) ?_
        refine lv_iconst (v := (-1)) hx hb dX4_valueOf_78 (by decide) ?_
        refine lv_iload hx hb dX4_valueOf_79 (lv_at hl 0 rfl) ?_
        refine lv_isub hx hb dX4_valueOf_81 ?_
        refine z_cSi (As := [.ref (zad V k2), .int ((-1) - x6_8)]) (rest := [.ref (zad V k0)]) C0 hZ h1 (fun _ hf => kX7_at l hk2 hf) mRX4_35 sX7_at rfl rfl hl.1 (Nat.le_of_ble_eq_true rfl) ⟨Nat.le_of_ble_eq_true rfl, Nat.le_of_ble_eq_true rfl⟩ dX4_valueOf_82 ⟨Nat.le_of_ble_eq_true rfl, Nat.le_of_ble_eq_true rfl⟩ (fun r_21 σ_20 H locs h1 hZ => ?_)
        refine z_cVv (As := [.int r_21]) (rest := []) C0 hZ h1 (fun _ hf => kX4_push l hk0 hf) mRX4_39 vX4_push hk0 rfl rfl hl.1 (Nat.le_of_ble_eq_true rfl) ⟨Nat.le_of_ble_eq_true rfl, Nat.le_of_ble_eq_true rfl⟩ dX4_valueOf_85 ⟨Nat.le_of_ble_eq_true rfl, Nat.le_of_ble_eq_true rfl⟩ (fun _ σ_22 H locs h1 hZ => ?_)
        refine lv_goto (tgt := 138) hx hb dX4_valueOf_88 (by decide) ?_
        exact J138 x5 _ _ _ _  hZ (lv_sub hl [1, 2, 3, 4] rfl) h1
      refine lv_aload_n hx hb dX4_valueOf_60 rfl (lv_at hl 1 rfl) ?_
      refine lv_iload hx hb dX4_valueOf_61 (lv_at hl 0 rfl) ?_
      refine z_cVv (As := [.int x6_8]) (rest := []) C0 hZ h1 (fun _ hf => kX4_push l hk0 hf) mRX4_39 vX4_push hk0 rfl rfl hl.1 (Nat.le_of_ble_eq_true rfl) ⟨Nat.le_of_ble_eq_true rfl, Nat.le_of_ble_eq_true rfl⟩ dX4_valueOf_63 ⟨Nat.le_of_ble_eq_true rfl, Nat.le_of_ble_eq_true rfl⟩ (fun _ σ_24 H locs h1 hZ => ?_)
      refine lv_goto (tgt := 138) hx hb dX4_valueOf_66 (by decide) ?_
      exact J138 x5 _ _ _ _  hZ (lv_sub hl [1, 2, 3, 4] rfl) h1
  have J18 : ∀ (y0 : Int32) (σ : zS) (H : Heap) (locs : List Loc) (ls : Array Slot), zZ 0 V A σ s H locs → lv_has ls 8 [(0, .ref (zad V k0)), (1, .int x1), (2, .ref (zad V k2))] → FX4_valueOf_b18 k0 x1 k2 y0 σ = some t0 → W p l e (zrm 2 43) s m args below meth c H locs 0 0 Q (F0 m 18 ls [.int y0]) := by
    intro y0 σ H locs ls  hZ hl h1
    unfold FX4_valueOf_b18 at h1
    refine z_istore_n C0 h1 hl (fun x3_26 => [(3, .int x3_26), (0, .ref (zad V k0)), (1, .int x1), (2, .ref (zad V k2))]) dX4_valueOf_18 rfl (by decide) (fun _ => rfl) (fun x3_26 ls h1 hl => ?_)
    refine lv_aload_n hx hb dX4_valueOf_19 rfl (lv_at hl 1 rfl) ?_
    refine z_getr C0 hZ hk0 fRX4_18 rfl dX4_valueOf_20 ?_
    refine lv_iload_n hx hb dX4_valueOf_23 rfl (lv_at hl 2 rfl) ?_
    refine z_cSi (As := [.ref (zad V (k0 + 1)), .int x1]) (rest := []) C0 hZ h1 (fun _ hf => kX7_at l (zkt4_2 hk0) hf) mRX4_35 sX7_at rfl rfl hl.1 (Nat.le_of_ble_eq_true rfl) ⟨Nat.le_of_ble_eq_true rfl, Nat.le_of_ble_eq_true rfl⟩ dX4_valueOf_24 ⟨Nat.le_of_ble_eq_true rfl, Nat.le_of_ble_eq_true rfl⟩ (fun r_28 σ_27 H locs h1 hZ => ?_)
    refine z_istore C0 h1 hl (fun x4_29 => [(4, .int x4_29), (3, .int x3_26), (0, .ref (zad V k0)), (1, .int x1), (2, .ref (zad V k2))]) dX4_valueOf_27 (by decide) (fun _ => rfl) (fun x4_29 ls h1 hl => ?_)
    refine lv_aload_n hx hb dX4_valueOf_29 rfl (lv_at hl 2 rfl) ?_
    refine lv_iconst (v := 0) hx hb dX4_valueOf_30 (by decide) ?_
    refine z_puti C0 hZ h1 hk0 fRX4_28 rfl tyX4_ok nmX4 rfl rfl rfl dX4_valueOf_31 (fun σ_30 H locs h1 hZ => ?_)
    refine lv_iload_n hx hb dX4_valueOf_34 rfl (lv_at hl 1 rfl) ?_
    refine z_istore C0 h1 hl (fun x5_31 => [(5, .int x5_31), (4, .int x4_29), (3, .int x3_26), (0, .ref (zad V k0)), (1, .int x1), (2, .ref (zad V k2))]) dX4_valueOf_35 (by decide) (fun _ => rfl) (fun x5_31 ls h1 hl => ?_)
    obtain ⟨n, h1⟩ := zlp_iff.mp h1
    exact J37 n x4_29 x5_31 _ _ _ _  hZ (lv_sub hl [3, 5, 1, 0] rfl) h1
  refine lv_iload_n hx hb dX4_valueOf_0 rfl (lv_at hl 1 rfl) ?_
  refine z_if_le (tgt := 17) C0 h1 dX4_valueOf_1 (by decide) (fun h1 => ?_) (fun h1 => ?_)
  · refine lv_iconst (v := 0) hx hb dX4_valueOf_17 (by decide) ?_
    exact J18 0 _ _ _ _  hZ (lv_sub hl [0, 1, 2] rfl) h1
  refine lv_aload_n hx hb dX4_valueOf_4 rfl (lv_at hl 0 rfl) ?_
  refine z_getr C0 hZ hk0 fRX4_18 rfl dX4_valueOf_5 ?_
  refine lv_iload_n hx hb dX4_valueOf_8 rfl (lv_at hl 1 rfl) ?_
  refine lv_iconst (v := 1) hx hb dX4_valueOf_9 (by decide) ?_
  refine lv_isub hx hb dX4_valueOf_10 ?_
  refine z_cSi (As := [.ref (zad V (k0 + 1)), .int (x1 - 1)]) (rest := []) C0 hZ h1 (fun _ hf => kX7_at l (zkt4_2 hk0) hf) mRX4_35 sX7_at rfl rfl hl.1 (Nat.le_of_ble_eq_true rfl) ⟨Nat.le_of_ble_eq_true rfl, Nat.le_of_ble_eq_true rfl⟩ dX4_valueOf_11 ⟨Nat.le_of_ble_eq_true rfl, Nat.le_of_ble_eq_true rfl⟩ (fun r_33 σ_32 H locs h1 hZ => ?_)
  refine lv_goto (tgt := 18) hx hb dX4_valueOf_14 (by decide) ?_
  exact J18 r_33 _ _ _ _  hZ (lv_sub hl [0, 1, 2] rfl) h1
