noncomputable def FX7_mirror_b21 (k0 : Nat) (σ : zS) : Option (Int32 × zS) := zbd (FX6_refuse (k0 + 6) 1 σ) (fun _ σ_1 => some ((-1), σ_1))
noncomputable def FX7_mirror (k0 : Nat) (x1 : Int32) (x2 : Int32) (σ : zS) : Option (Int32 × zS) := if 6 ≤ (σ (k0 + 6) 4) then FX7_mirror_b21 k0 σ else zbd (FX7_canHang k0 x1 x2 σ) (fun r_4 σ_3 => if r_4 = 0 then FX7_mirror_b21 k0 σ_3 else zbd (FX7_beginAct k0 σ_3) (fun _ σ_5 => zbd (FX7_at ((k0 + 6) + 1) x1 σ_5) (fun r_8 σ_7 => zbd (FX7_bit x2 σ_7) (fun r_10 σ_9 => zbd (FX7_put ((k0 + 6) + 1) x1 (r_8 ||| r_10) σ_9) (fun _ σ_11 => zlet (zup σ_11 (k0 + 6) 4 ((σ_11 (k0 + 6) 4) + 1)) (fun σ_13 => some ((σ_13 (k0 + 6) 4), σ_13)))))))
set_option maxHeartbeats 4000000 in
set_option maxRecDepth 100000 in
theorem kX7_mirror (l : Launch) {V : zV} {σ : zS} {t0 : Int32 × zS} {k0 : Nat} {x1 : Int32} {x2 : Int32} (hk0 : kd 0 k0 = 7) (h1 : FX7_mirror k0 x1 x2 σ = some t0) : zMi l yX7_mirror cX7_mirror 3 (some .int) 3 102 0 V σ t0 [.ref (zad V k0), .int x1, .int x2] := by
  refine zMi_of (by decide) (Nat.le_of_ble_eq_true rfl) ?_
  intro p e s m below meth c A C0 hr hlk hZ ls hl
  generalize ([.ref (zad V k0), .int x1, .int x2] : List Value).toArray = args at C0 ⊢
  obtain ⟨Q, hQ⟩ : ∃ Q, Q = MQ below (zQi 0 V t0 A) args s 0 0 A := ⟨_, rfl⟩
  rw [← hQ]
  have hx := C0.1
  have hb := C0.2.1
  have hl : lv_has ls 3 [(0, .ref (zad V k0)), (1, .int x1), (2, .int x2)] := hl
  unfold FX7_mirror at h1
  have J21 : ∀  (σ : zS) (H : Heap) (locs : List Loc) (ls : Array Slot), zZ 0 V A σ s H locs → lv_has ls 3 [(0, .ref (zad V k0))] → FX7_mirror_b21 k0 σ = some t0 → W p l e (zrm 3 102) s m args below meth c H locs 0 0 Q (F0 m 21 ls []) := by
    intro  σ H locs ls  hZ hl h1
    unfold FX7_mirror_b21 at h1
    refine lv_aload_n hx hb dX7_mirror_21 rfl (lv_at hl 0 rfl) ?_
    refine z_getr C0 hZ hk0 fRX7_33 rfl dX7_mirror_22 ?_
    refine lv_iconst (v := 1) hx hb dX7_mirror_25 (by decide) ?_
    refine z_cVv (As := [.int 1]) (rest := []) C0 hZ h1 (fun _ hf => kX6_refuse l (zkt7_4 hk0) hf) mRX7_93 vX6_refuse (zkt7_4 hk0) rfl rfl hl.1 (Nat.le_of_ble_eq_true rfl) ⟨Nat.le_of_ble_eq_true rfl, Nat.le_of_ble_eq_true rfl⟩ dX7_mirror_26 ⟨Nat.le_of_ble_eq_true rfl, Nat.le_of_ble_eq_true rfl⟩ (fun _ σ_1 H locs h1 hZ => ?_)
    refine lv_iconst (v := (-1)) hx hb dX7_mirror_29 (by decide) ?_
    rw [hQ]; exact z_iret C0 hr hlk hZ h1 dX7_mirror_30
  refine lv_aload_n hx hb dX7_mirror_0 rfl (lv_at hl 0 rfl) ?_
  refine z_getr C0 hZ hk0 fRX7_33 rfl dX7_mirror_1 ?_
  refine z_geti C0 hZ (zkt7_4 hk0) fRX7_115 rfl dX7_mirror_4 ?_
  refine lv_bipush (v := 6) hx hb dX7_mirror_7 (by decide) ?_
  refine z_ic_ge (tgt := 21) C0 h1 dX7_mirror_9 (by decide) (fun h1 => ?_) (fun h1 => ?_)
  · exact J21  _ _ _ _  hZ (lv_sub hl [0] rfl) h1
  refine lv_aload_n hx hb dX7_mirror_12 rfl (lv_at hl 0 rfl) ?_
  refine lv_iload_n hx hb dX7_mirror_13 rfl (lv_at hl 1 rfl) ?_
  refine lv_iload_n hx hb dX7_mirror_14 rfl (lv_at hl 2 rfl) ?_
  refine z_cVi (As := [.int x1, .int x2]) (rest := []) C0 hZ h1 (fun _ hf => kX7_canHang l hk0 hf) mRX7_228 vX7_canHang hk0 rfl rfl hl.1 (Nat.le_of_ble_eq_true rfl) ⟨Nat.le_of_ble_eq_true rfl, Nat.le_of_ble_eq_true rfl⟩ dX7_mirror_15 ⟨Nat.le_of_ble_eq_true rfl, Nat.le_of_ble_eq_true rfl⟩ (fun r_4 σ_3 H locs h1 hZ => ?_)
  refine z_if_ne (tgt := 31) C0 h1 dX7_mirror_18 (by decide) (fun h1 => ?_) (fun h1 => ?_)
  · refine lv_aload_n hx hb dX7_mirror_31 rfl (lv_at hl 0 rfl) ?_
    refine z_cVv (As := []) (rest := []) C0 hZ h1 (fun _ hf => kX7_beginAct l hk0 hf) mRX7_218 vX7_beginAct hk0 rfl rfl hl.1 (Nat.le_of_ble_eq_true rfl) ⟨Nat.le_of_ble_eq_true rfl, Nat.le_of_ble_eq_true rfl⟩ dX7_mirror_32 ⟨Nat.le_of_ble_eq_true rfl, Nat.le_of_ble_eq_true rfl⟩ (fun _ σ_5 H locs h1 hZ => ?_)
    refine lv_aload_n hx hb dX7_mirror_35 rfl (lv_at hl 0 rfl) ?_
    refine z_getr C0 hZ hk0 fRX7_33 rfl dX7_mirror_36 ?_
    refine z_getr C0 hZ (zkt7_4 hk0) fRX7_186 rfl dX7_mirror_39 ?_
    refine lv_iload_n hx hb dX7_mirror_42 rfl (lv_at hl 1 rfl) ?_
    refine lv_aload_n hx hb dX7_mirror_43 rfl (lv_at hl 0 rfl) ?_
    refine z_getr C0 hZ hk0 fRX7_33 rfl dX7_mirror_44 ?_
    refine z_getr C0 hZ (zkt7_4 hk0) fRX7_186 rfl dX7_mirror_47 ?_
    refine lv_iload_n hx hb dX7_mirror_50 rfl (lv_at hl 1 rfl) ?_
    refine z_cSi (As := [.ref (zad V ((k0 + 6) + 1)), .int x1]) (rest := [.int x1, .ref (zad V ((k0 + 6) + 1))]) C0 hZ h1 (fun _ hf => kX7_at l (zkt6_6 (zkt7_4 hk0)) hf) mRX7_167 sX7_at rfl rfl hl.1 (Nat.le_of_ble_eq_true rfl) ⟨Nat.le_of_ble_eq_true rfl, Nat.le_of_ble_eq_true rfl⟩ dX7_mirror_51 ⟨Nat.le_of_ble_eq_true rfl, Nat.le_of_ble_eq_true rfl⟩ (fun r_8 σ_7 H locs h1 hZ => ?_)
    refine lv_iload_n hx hb dX7_mirror_54 rfl (lv_at hl 2 rfl) ?_
    refine z_cSi (As := [.int x2]) (rest := [.int r_8, .int x1, .ref (zad V ((k0 + 6) + 1))]) C0 hZ h1 (fun _ hf => kX7_bit l  hf) mRX7_231 sX7_bit rfl rfl hl.1 (Nat.le_of_ble_eq_true rfl) ⟨Nat.le_of_ble_eq_true rfl, Nat.le_of_ble_eq_true rfl⟩ dX7_mirror_55 ⟨Nat.le_of_ble_eq_true rfl, Nat.le_of_ble_eq_true rfl⟩ (fun r_10 σ_9 H locs h1 hZ => ?_)
    refine lv_ior hx hb dX7_mirror_58 ?_
    refine z_cSv (As := [.ref (zad V ((k0 + 6) + 1)), .int x1, .int (r_8 ||| r_10)]) (rest := []) C0 hZ h1 (fun _ hf => kX7_put l (zkt6_6 (zkt7_4 hk0)) hf) mRX7_79 sX7_put rfl rfl hl.1 (Nat.le_of_ble_eq_true rfl) ⟨Nat.le_of_ble_eq_true rfl, Nat.le_of_ble_eq_true rfl⟩ dX7_mirror_59 ⟨Nat.le_of_ble_eq_true rfl, Nat.le_of_ble_eq_true rfl⟩ (fun _ σ_11 H locs h1 hZ => ?_)
    refine lv_aload_n hx hb dX7_mirror_62 rfl (lv_at hl 0 rfl) ?_
    refine z_getr C0 hZ hk0 fRX7_33 rfl dX7_mirror_63 ?_
    refine lv_dup hx hb dX7_mirror_66 rfl ?_
    refine z_geti C0 hZ (zkt7_4 hk0) fRX7_115 rfl dX7_mirror_67 ?_
    refine lv_iconst (v := 1) hx hb dX7_mirror_70 (by decide) ?_
    refine lv_iadd hx hb dX7_mirror_71 ?_
    refine z_puti C0 hZ h1 (zkt7_4 hk0) fRX7_115 rfl tyX6_ok nmX6 rfl rfl rfl dX7_mirror_72 (fun σ_13 H locs h1 hZ => ?_)
    refine lv_aload_n hx hb dX7_mirror_75 rfl (lv_at hl 0 rfl) ?_
    refine z_getr C0 hZ hk0 fRX7_33 rfl dX7_mirror_76 ?_
    refine z_geti C0 hZ (zkt7_4 hk0) fRX7_115 rfl dX7_mirror_79 ?_
    rw [hQ]; exact z_iret C0 hr hlk hZ h1 dX7_mirror_82
  exact J21  _ _ _ _  hZ (lv_sub hl [0] rfl) h1
noncomputable def FX7_stock_b15 (k0 : Nat) (σ : zS) : Option zT3 := zbd (FX6_refuse (k0 + 6) 1 σ) (fun _ σ_1 => some (0, (-1), σ_1))
noncomputable def FX7_stock (k0 : Nat) (x1 : Int32) (x2 : Int32) (σ : zS) : Option zT3 := zbx (FX7_needAisle k0 x1 σ) (fun _ σ_3 => if x2 < 0 then FX7_stock_b15 k0 σ_3 else if x2 ≤ 99 then zbd (FX7_at ((k0 + 6) + 2) x1 σ_3) (fun r_5 σ_4 => zlet r_5 (fun x3_6 => zbd (FX7_beginAct k0 σ_4) (fun _ σ_7 => zbd (FX7_put ((k0 + 6) + 2) x1 x2 σ_7) (fun _ σ_9 => some (0, x3_6, σ_9))))) else FX7_stock_b15 k0 σ_3) (fun n σ => some (n, 0, σ))
set_option maxHeartbeats 4000000 in
set_option maxRecDepth 100000 in
theorem kX7_stock (l : Launch) (hfl : l.stackTraces = false) {V : zV} {σ : zS} {t0 : zT3} {k0 : Nat} {x1 : Int32} {x2 : Int32} (hk0 : kd 0 k0 = 7) (h1 : FX7_stock k0 x1 x2 σ = some t0) : zXi l yX7_stock cX7_stock 4 (some .int) 7 111 1 6 0 V σ t0 [.ref (zad V k0), .int x1, .int x2] := by
  refine zXi_of (by decide) (Nat.le_of_ble_eq_true rfl) ?_
  intro p e s m below meth c A C0 hr hlk hnt hZ ls hl
  generalize ([.ref (zad V k0), .int x1, .int x2] : List Value).toArray = args at C0 ⊢
  obtain ⟨Q, hQ⟩ : ∃ Q, Q = vx_MQ below (zxQ 0 V t0 A) (zxX 0 V t0 A) args s 1 6 A := ⟨_, rfl⟩
  rw [← hQ]
  have hx := C0.1
  have hb := C0.2.1
  have hl : lv_has ls 4 [(0, .ref (zad V k0)), (1, .int x1), (2, .int x2)] := hl
  unfold FX7_stock at h1
  have J15 : ∀  (σ : zS) (H : Heap) (locs : List Loc) (ls : Array Slot), zZ 0 V A σ s H locs → lv_has ls 4 [(0, .ref (zad V k0))] → FX7_stock_b15 k0 σ = some t0 → W p l e { frames := 7, cells := 1, slots := 6, locals := 111 } s m args below meth c H locs 1 6 Q (F0 m 15 ls []) := by
    intro  σ H locs ls  hZ hl h1
    unfold FX7_stock_b15 at h1
    refine lv_aload_n hx hb dX7_stock_15 rfl (lv_at hl 0 rfl) ?_
    refine z_getr C0 hZ hk0 fRX7_33 rfl dX7_stock_16 ?_
    refine lv_iconst (v := 1) hx hb dX7_stock_19 (by decide) ?_
    refine z_cVv (As := [.int 1]) (rest := []) C0 hZ h1 (fun _ hf => kX6_refuse l (zkt7_4 hk0) hf) mRX7_93 vX6_refuse (zkt7_4 hk0) rfl rfl hl.1 (Nat.le_of_ble_eq_true rfl) ⟨Nat.le_of_ble_eq_true rfl, Nat.le_of_ble_eq_true rfl⟩ dX7_stock_20 ⟨Nat.le_of_ble_eq_true rfl, Nat.le_of_ble_eq_true rfl⟩ (fun _ σ_1 H locs h1 hZ => ?_)
    refine lv_iconst (v := (-1)) hx hb dX7_stock_23 (by decide) ?_
    rw [hQ]; exact z_xiret C0 hr hlk hZ h1 ⟨Nat.le_of_ble_eq_true rfl, Nat.le_of_ble_eq_true rfl⟩ dX7_stock_24
  refine lv_aload_n hx hb dX7_stock_0 rfl (lv_at hl 0 rfl) ?_
  refine lv_iload_n hx hb dX7_stock_1 rfl (lv_at hl 1 rfl) ?_
  rw [hQ]
  refine z_xVv (As := [.int x1]) (rest := []) C0 hlk hnt hZ h1 (fun _ hf => kX7_needAisle l hfl hk0 hf) (zmem 1195 (by decide +kernel) (by decide +kernel)) mRX7_174 vX7_needAisle hk0 rfl rfl hl.1 (Nat.le_of_ble_eq_true rfl) ⟨Nat.le_of_ble_eq_true rfl, Nat.le_of_ble_eq_true rfl⟩ dX7_stock_2 ⟨Nat.le_of_ble_eq_true rfl, Nat.le_of_ble_eq_true rfl⟩ ⟨Nat.le_of_ble_eq_true rfl, Nat.le_of_ble_eq_true rfl⟩ (fun _ σ_3 H locs h1 hZ => ?_)
  rw [← hQ]
  refine lv_iload_n hx hb dX7_stock_5 rfl (lv_at hl 2 rfl) ?_
  refine z_if_lt (tgt := 15) C0 h1 dX7_stock_6 (by decide) (fun h1 => ?_) (fun h1 => ?_)
  · exact J15  _ _ _ _  hZ (lv_sub hl [0] rfl) h1
  refine lv_iload_n hx hb dX7_stock_9 rfl (lv_at hl 2 rfl) ?_
  refine lv_bipush (v := 99) hx hb dX7_stock_10 (by decide) ?_
  refine z_ic_le (tgt := 25) C0 h1 dX7_stock_12 (by decide) (fun h1 => ?_) (fun h1 => ?_)
  · refine lv_aload_n hx hb dX7_stock_25 rfl (lv_at hl 0 rfl) ?_
    refine z_getr C0 hZ hk0 fRX7_33 rfl dX7_stock_26 ?_
    refine z_getr C0 hZ (zkt7_4 hk0) fRX7_180 rfl dX7_stock_29 ?_
    refine lv_iload_n hx hb dX7_stock_32 rfl (lv_at hl 1 rfl) ?_
    refine z_cSi (As := [.ref (zad V ((k0 + 6) + 2)), .int x1]) (rest := []) C0 hZ h1 (fun _ hf => kX7_at l (zkt6_7 (zkt7_4 hk0)) hf) mRX7_167 sX7_at rfl rfl hl.1 (Nat.le_of_ble_eq_true rfl) ⟨Nat.le_of_ble_eq_true rfl, Nat.le_of_ble_eq_true rfl⟩ dX7_stock_33 ⟨Nat.le_of_ble_eq_true rfl, Nat.le_of_ble_eq_true rfl⟩ (fun r_5 σ_4 H locs h1 hZ => ?_)
    refine z_istore_n C0 h1 hl (fun x3_6 => [(3, .int x3_6), (0, .ref (zad V k0)), (1, .int x1), (2, .int x2)]) dX7_stock_36 rfl (by decide) (fun _ => rfl) (fun x3_6 ls h1 hl => ?_)
    refine lv_aload_n hx hb dX7_stock_37 rfl (lv_at hl 1 rfl) ?_
    refine z_cVv (As := []) (rest := []) C0 hZ h1 (fun _ hf => kX7_beginAct l hk0 hf) mRX7_218 vX7_beginAct hk0 rfl rfl hl.1 (Nat.le_of_ble_eq_true rfl) ⟨Nat.le_of_ble_eq_true rfl, Nat.le_of_ble_eq_true rfl⟩ dX7_stock_38 ⟨Nat.le_of_ble_eq_true rfl, Nat.le_of_ble_eq_true rfl⟩ (fun _ σ_7 H locs h1 hZ => ?_)
    refine lv_aload_n hx hb dX7_stock_41 rfl (lv_at hl 1 rfl) ?_
    refine z_getr C0 hZ hk0 fRX7_33 rfl dX7_stock_42 ?_
    refine z_getr C0 hZ (zkt7_4 hk0) fRX7_180 rfl dX7_stock_45 ?_
    refine lv_iload_n hx hb dX7_stock_48 rfl (lv_at hl 2 rfl) ?_
    refine lv_iload_n hx hb dX7_stock_49 rfl (lv_at hl 3 rfl) ?_
    refine z_cSv (As := [.ref (zad V ((k0 + 6) + 2)), .int x1, .int x2]) (rest := []) C0 hZ h1 (fun _ hf => kX7_put l (zkt6_7 (zkt7_4 hk0)) hf) mRX7_79 sX7_put rfl rfl hl.1 (Nat.le_of_ble_eq_true rfl) ⟨Nat.le_of_ble_eq_true rfl, Nat.le_of_ble_eq_true rfl⟩ dX7_stock_50 ⟨Nat.le_of_ble_eq_true rfl, Nat.le_of_ble_eq_true rfl⟩ (fun _ σ_9 H locs h1 hZ => ?_)
    refine lv_iload_n hx hb dX7_stock_53 rfl (lv_at hl 0 rfl) ?_
    rw [hQ]; exact z_xiret C0 hr hlk hZ h1 ⟨Nat.le_of_ble_eq_true rfl, Nat.le_of_ble_eq_true rfl⟩ dX7_stock_54
  exact J15  _ _ _ _  hZ (lv_sub hl [0] rfl) h1
noncomputable def FX7_days_b11 (k0 : Nat) (σ : zS) : Option (Int32 × zS) := zbd (FX6_refuse (k0 + 6) 1 σ) (fun _ σ_1 => some ((-1), σ_1))
noncomputable def FX7_days_b65 (k0 : Nat) (x1 : Int32) (x2 : Int32) (σ : zS) : Option (Int32 × zS) := zbd (FX7_copyRow ((k0 + 35) + 3) ((k0 + 6) + 2) σ) (fun _ σ_3 => zlet (zup σ_3 (k0 + 6) 5 ((σ_3 (k0 + 6) 5) + x1)) (fun σ_5 => some (x2, σ_5)))
noncomputable def FX7_days_L44 (k0 : Nat) (x1 : Int32) (x2 : Int32) (x3 : Int32) (σ : zS) : Option ((Int32 × Int32 × zS) ⊕ (Int32 × zS)) := if x1 ≤ x3 then zinr (FX7_days_b65 k0 x1 x2 σ) else zbd (FX0_run (k0 + 35) σ) (fun r_7 σ_6 => zlet (x2 + r_7) (fun x2_8 => zlet (x3 + 1) (fun x3_9 => some (.inl (x2_8, x3_9, σ_6)))))
noncomputable def FX7_days (k0 : Nat) (x1 : Int32) (σ : zS) : Option (Int32 × zS) := if x1 < 1 then FX7_days_b11 k0 σ else if x1 ≤ 30 then zbd (FX7_beginAct k0 σ) (fun _ σ_10 => zgd (kd 0 (σ_10 k0 2).toNatClampNeg == 5) (zlet (σ_10 k0 2).toNatClampNeg (fun q_12 => zbd (FX0_prepare (k0 + 35) q_12 (k0 + 6) σ_10) (fun _ σ_13 => zlet 0 (fun x2_15 => zlet 0 (fun x3_16 => zlp (fun q => FX7_days_L44 k0 x1 q.1 q.2.1 q.2.2) (x2_15, x3_16, σ_13))))))) else FX7_days_b11 k0 σ
set_option maxHeartbeats 4000000 in
set_option maxRecDepth 100000 in
theorem kX7_days (l : Launch) {V : zV} {σ : zS} {t0 : Int32 × zS} {k0 : Nat} {x1 : Int32} (hk0 : kd 0 k0 = 7) (h1 : FX7_days k0 x1 σ = some t0) : zMi l yX7_days cX7_days 4 (some .int) 6 139 0 V σ t0 [.ref (zad V k0), .int x1] := by
  refine zMi_of (by decide) (Nat.le_of_ble_eq_true rfl) ?_
  intro p e s m below meth c A C0 hr hlk hZ ls hl
  generalize ([.ref (zad V k0), .int x1] : List Value).toArray = args at C0 ⊢
  obtain ⟨Q, hQ⟩ : ∃ Q, Q = MQ below (zQi 0 V t0 A) args s 0 0 A := ⟨_, rfl⟩
  rw [← hQ]
  have hx := C0.1
  have hb := C0.2.1
  have hl : lv_has ls 4 [(0, .ref (zad V k0)), (1, .int x1)] := hl
  unfold FX7_days at h1
  have J11 : ∀  (σ : zS) (H : Heap) (locs : List Loc) (ls : Array Slot), zZ 0 V A σ s H locs → lv_has ls 4 [(0, .ref (zad V k0))] → FX7_days_b11 k0 σ = some t0 → W p l e (zrm 6 139) s m args below meth c H locs 0 0 Q (F0 m 11 ls []) := by
    intro  σ H locs ls  hZ hl h1
    unfold FX7_days_b11 at h1
    refine lv_aload_n hx hb dX7_days_11 rfl (lv_at hl 0 rfl) ?_
    refine z_getr C0 hZ hk0 fRX7_33 rfl dX7_days_12 ?_
    refine lv_iconst (v := 1) hx hb dX7_days_15 (by decide) ?_
    refine z_cVv (As := [.int 1]) (rest := []) C0 hZ h1 (fun _ hf => kX6_refuse l (zkt7_4 hk0) hf) mRX7_93 vX6_refuse (zkt7_4 hk0) rfl rfl hl.1 (Nat.le_of_ble_eq_true rfl) ⟨Nat.le_of_ble_eq_true rfl, Nat.le_of_ble_eq_true rfl⟩ dX7_days_16 ⟨Nat.le_of_ble_eq_true rfl, Nat.le_of_ble_eq_true rfl⟩ (fun _ σ_1 H locs h1 hZ => ?_)
    refine lv_iconst (v := (-1)) hx hb dX7_days_19 (by decide) ?_
    rw [hQ]; exact z_iret C0 hr hlk hZ h1 dX7_days_20
  have J65 : ∀ (x2 : Int32) (σ : zS) (H : Heap) (locs : List Loc) (ls : Array Slot), zZ 0 V A σ s H locs → lv_has ls 4 [(0, .ref (zad V k0)), (1, .int x1), (2, .int x2)] → FX7_days_b65 k0 x1 x2 σ = some t0 → W p l e (zrm 6 139) s m args below meth c H locs 0 0 Q (F0 m 65 ls []) := by
    intro x2 σ H locs ls  hZ hl h1
    unfold FX7_days_b65 at h1
    refine lv_aload_n hx hb dX7_days_65 rfl (lv_at hl 0 rfl) ?_
    refine z_getr C0 hZ hk0 fRX7_53 rfl dX7_days_66 ?_
    refine z_getr C0 hZ (zkt7_8 hk0) fRX7_245 rfl dX7_days_69 ?_
    refine lv_aload_n hx hb dX7_days_72 rfl (lv_at hl 0 rfl) ?_
    refine z_getr C0 hZ hk0 fRX7_33 rfl dX7_days_73 ?_
    refine z_getr C0 hZ (zkt7_4 hk0) fRX7_180 rfl dX7_days_76 ?_
    refine z_cSv (As := [.ref (zad V ((k0 + 35) + 3)), .ref (zad V ((k0 + 6) + 2))]) (rest := []) C0 hZ h1 (fun _ hf => kX7_copyRow l (zkt0_8 (zkt7_8 hk0)) (zkt6_7 (zkt7_4 hk0)) hf) mRX7_246 sX7_copyRow rfl rfl hl.1 (Nat.le_of_ble_eq_true rfl) ⟨Nat.le_of_ble_eq_true rfl, Nat.le_of_ble_eq_true rfl⟩ dX7_days_79 ⟨Nat.le_of_ble_eq_true rfl, Nat.le_of_ble_eq_true rfl⟩ (fun _ σ_3 H locs h1 hZ => ?_)
    refine lv_aload_n hx hb dX7_days_82 rfl (lv_at hl 0 rfl) ?_
    refine z_getr C0 hZ hk0 fRX7_33 rfl dX7_days_83 ?_
    refine lv_dup hx hb dX7_days_86 rfl ?_
    refine z_geti C0 hZ (zkt7_4 hk0) fRX7_152 rfl dX7_days_87 ?_
    refine lv_iload_n hx hb dX7_days_90 rfl (lv_at hl 1 rfl) ?_
    refine lv_iadd hx hb dX7_days_91 ?_
    refine z_puti C0 hZ h1 (zkt7_4 hk0) fRX7_152 rfl tyX6_ok nmX6 rfl rfl rfl dX7_days_92 (fun σ_5 H locs h1 hZ => ?_)
    refine lv_iload_n hx hb dX7_days_95 rfl (lv_at hl 2 rfl) ?_
    rw [hQ]; exact z_iret C0 hr hlk hZ h1 dX7_days_96
  have J44 : ∀ (n : Nat) (x2 : Int32) (x3 : Int32) (σ : zS) (H : Heap) (locs : List Loc) (ls : Array Slot), zZ 0 V A σ s H locs → lv_has ls 4 [(0, .ref (zad V k0)), (1, .int x1), (2, .int x2), (3, .int x3)] → zit (fun q => FX7_days_L44 k0 x1 q.1 q.2.1 q.2.2) n (x2, x3, σ) = some t0 → W p l e (zrm 6 139) s m args below meth c H locs 0 0 Q (F0 m 44 ls []) := by
    intro n
    induction n with
    | zero => intro x2 x3 σ H locs ls  _ _ h1; cases h1
    | succ n ih44 =>
      intro x2 x3 σ H locs ls  hZ hl h1
      obtain ⟨t1, h1, hz1⟩ := zit_1 h1
      replace h1 : FX7_days_L44 k0 x1 x2 x3 σ = some t1 := h1
      unfold FX7_days_L44 at h1
      refine lv_iload_n hx hb dX7_days_44 rfl (lv_at hl 3 rfl) ?_
      refine lv_iload_n hx hb dX7_days_45 rfl (lv_at hl 1 rfl) ?_
      refine z_ic_ge (tgt := 65) C0 h1 dX7_days_46 (by decide) (fun h1 => ?_) (fun h1 => ?_)
      · have h1 := zout h1 hz1
        exact J65 x2 _ _ _ _  hZ (lv_sub hl [0, 1, 2] rfl) h1
      refine lv_iload_n hx hb dX7_days_49 rfl (lv_at hl 2 rfl) ?_
      refine lv_aload_n hx hb dX7_days_50 rfl (lv_at hl 0 rfl) ?_
      refine z_getr C0 hZ hk0 fRX7_53 rfl dX7_days_51 ?_
      refine z_cVi (As := []) (rest := [.int x2]) C0 hZ h1 (fun _ hf => kX0_run l (zkt7_8 hk0) hf) mRX7_241 vX0_run (zkt7_8 hk0) rfl rfl hl.1 (Nat.le_of_ble_eq_true rfl) ⟨Nat.le_of_ble_eq_true rfl, Nat.le_of_ble_eq_true rfl⟩ dX7_days_54 ⟨Nat.le_of_ble_eq_true rfl, Nat.le_of_ble_eq_true rfl⟩ (fun r_7 σ_6 H locs h1 hZ => ?_)
      refine lv_iadd hx hb dX7_days_57 ?_
      refine z_istore_n C0 h1 hl (fun x2_8 => [(2, .int x2_8), (0, .ref (zad V k0)), (1, .int x1), (3, .int x3)]) dX7_days_58 rfl (by decide) (fun _ => rfl) (fun x2_8 ls h1 hl => ?_)
      refine z_iinc (v := 1) C0 h1 hl (fun x3_9 => [(3, .int x3_9), (2, .int x2_8), (0, .ref (zad V k0)), (1, .int x1)]) dX7_days_59 (k := 3) rfl (by decide) (by decide) (fun _ => rfl) (fun x3_9 ls h1 hl => ?_)
      refine lv_goto (tgt := 44) hx hb dX7_days_62 (by decide) ?_
      exact ih44 x2_8 x3_9 _ _ _ _  hZ (lv_sub hl [2, 3, 1, 0] rfl) (zback h1 hz1)
  refine lv_iload_n hx hb dX7_days_0 rfl (lv_at hl 1 rfl) ?_
  refine lv_iconst (v := 1) hx hb dX7_days_1 (by decide) ?_
  refine z_ic_lt (tgt := 11) C0 h1 dX7_days_2 (by decide) (fun h1 => ?_) (fun h1 => ?_)
  · exact J11  _ _ _ _  hZ (lv_sub hl [0] rfl) h1
  refine lv_iload_n hx hb dX7_days_5 rfl (lv_at hl 1 rfl) ?_
  refine lv_bipush (v := 30) hx hb dX7_days_6 (by decide) ?_
  refine z_ic_le (tgt := 21) C0 h1 dX7_days_8 (by decide) (fun h1 => ?_) (fun h1 => ?_)
  · refine lv_aload_n hx hb dX7_days_21 rfl (lv_at hl 0 rfl) ?_
    refine z_cVv (As := []) (rest := []) C0 hZ h1 (fun _ hf => kX7_beginAct l hk0 hf) mRX7_218 vX7_beginAct hk0 rfl rfl hl.1 (Nat.le_of_ble_eq_true rfl) ⟨Nat.le_of_ble_eq_true rfl, Nat.le_of_ble_eq_true rfl⟩ dX7_days_22 ⟨Nat.le_of_ble_eq_true rfl, Nat.le_of_ble_eq_true rfl⟩ (fun _ σ_10 H locs h1 hZ => ?_)
    refine lv_aload_n hx hb dX7_days_25 rfl (lv_at hl 0 rfl) ?_
    refine z_getr C0 hZ hk0 fRX7_53 rfl dX7_days_26 ?_
    refine lv_aload_n hx hb dX7_days_29 rfl (lv_at hl 0 rfl) ?_
    refine z_getm C0 hZ h1 hk0 fRX7_19 rfl dX7_days_30 (fun q_12 hq_12 h1 => ?_)
    refine lv_aload_n hx hb dX7_days_33 rfl (lv_at hl 0 rfl) ?_
    refine z_getr C0 hZ hk0 fRX7_33 rfl dX7_days_34 ?_
    refine z_cVv (As := [.ref (zad V q_12), .ref (zad V (k0 + 6))]) (rest := []) C0 hZ h1 (fun _ hf => kX0_prepare l (zkt7_8 hk0) hq_12 (zkt7_4 hk0) hf) mRX7_237 vX0_prepare (zkt7_8 hk0) rfl rfl hl.1 (Nat.le_of_ble_eq_true rfl) ⟨Nat.le_of_ble_eq_true rfl, Nat.le_of_ble_eq_true rfl⟩ dX7_days_37 ⟨Nat.le_of_ble_eq_true rfl, Nat.le_of_ble_eq_true rfl⟩ (fun _ σ_13 H locs h1 hZ => ?_)
    refine lv_iconst (v := 0) hx hb dX7_days_40 (by decide) ?_
    refine z_istore_n C0 h1 hl (fun x2_15 => [(2, .int x2_15), (0, .ref (zad V k0)), (1, .int x1)]) dX7_days_41 rfl (by decide) (fun _ => rfl) (fun x2_15 ls h1 hl => ?_)
    refine lv_iconst (v := 0) hx hb dX7_days_42 (by decide) ?_
    refine z_istore_n C0 h1 hl (fun x3_16 => [(3, .int x3_16), (2, .int x2_15), (0, .ref (zad V k0)), (1, .int x1)]) dX7_days_43 rfl (by decide) (fun _ => rfl) (fun x3_16 ls h1 hl => ?_)
    obtain ⟨n, h1⟩ := zlp_iff.mp h1
    exact J44 n x2_15 x3_16 _ _ _ _  hZ (lv_sub hl [2, 3, 1, 0] rfl) h1
  exact J11  _ _ _ _  hZ (lv_sub hl [0] rfl) h1
noncomputable def FX7_undo (k0 : Nat) (σ : zS) : Option (Int32 × zS) := if 0 < (σ (k0 + 6) 8) then zbd (FX6_undoLast (k0 + 6) σ) (fun _ σ_1 => zlet (zup σ_1 k0 9 0) (fun σ_3 => some ((σ_3 (k0 + 6) 8), σ_3))) else some ((-1), σ)
set_option maxHeartbeats 4000000 in
set_option maxRecDepth 100000 in
theorem kX7_undo (l : Launch) {V : zV} {σ : zS} {t0 : Int32 × zS} {k0 : Nat} (hk0 : kd 0 k0 = 7) (h1 : FX7_undo k0 σ = some t0) : zMi l yX7_undo cX7_undo 1 (some .int) 2 44 0 V σ t0 [.ref (zad V k0)] := by
  refine zMi_of (by decide) (Nat.le_of_ble_eq_true rfl) ?_
  intro p e s m below meth c A C0 hr hlk hZ ls hl
  generalize ([.ref (zad V k0)] : List Value).toArray = args at C0 ⊢
  obtain ⟨Q, hQ⟩ : ∃ Q, Q = MQ below (zQi 0 V t0 A) args s 0 0 A := ⟨_, rfl⟩
  rw [← hQ]
  have hx := C0.1
  have hb := C0.2.1
  have hl : lv_has ls 1 [(0, .ref (zad V k0))] := hl
  unfold FX7_undo at h1
  refine lv_aload_n hx hb dX7_undo_0 rfl (lv_at hl 0 rfl) ?_
  refine z_getr C0 hZ hk0 fRX7_33 rfl dX7_undo_1 ?_
  refine z_geti C0 hZ (zkt7_4 hk0) fRX7_155 rfl dX7_undo_4 ?_
  refine z_if_gt (tgt := 12) C0 h1 dX7_undo_7 (by decide) (fun h1 => ?_) (fun h1 => ?_)
  · refine lv_aload_n hx hb dX7_undo_12 rfl (lv_at hl 0 rfl) ?_
    refine z_getr C0 hZ hk0 fRX7_33 rfl dX7_undo_13 ?_
    refine z_cVv (As := []) (rest := []) C0 hZ h1 (fun _ hf => kX6_undoLast l (zkt7_4 hk0) hf) mRX7_250 vX6_undoLast (zkt7_4 hk0) rfl rfl hl.1 (Nat.le_of_ble_eq_true rfl) ⟨Nat.le_of_ble_eq_true rfl, Nat.le_of_ble_eq_true rfl⟩ dX7_undo_16 ⟨Nat.le_of_ble_eq_true rfl, Nat.le_of_ble_eq_true rfl⟩ (fun _ σ_1 H locs h1 hZ => ?_)
    refine lv_aload_n hx hb dX7_undo_19 rfl (lv_at hl 0 rfl) ?_
    refine lv_iconst (v := 0) hx hb dX7_undo_20 (by decide) ?_
    refine z_puti C0 hZ h1 hk0 fRX7_56 rfl tyX7_ok nmX7 rfl rfl rfl dX7_undo_21 (fun σ_3 H locs h1 hZ => ?_)
    refine lv_aload_n hx hb dX7_undo_24 rfl (lv_at hl 0 rfl) ?_
    refine z_getr C0 hZ hk0 fRX7_33 rfl dX7_undo_25 ?_
    refine z_geti C0 hZ (zkt7_4 hk0) fRX7_155 rfl dX7_undo_28 ?_
    rw [hQ]; exact z_iret C0 hr hlk hZ h1 dX7_undo_31
  refine lv_iconst (v := (-1)) hx hb dX7_undo_10 (by decide) ?_
  rw [hQ]; exact z_iret C0 hr hlk hZ h1 dX7_undo_11
noncomputable def FX7_knowToday_b35  (σ : zS) : Option (Int32 × zS) := some (0, σ)
noncomputable def FX7_knowToday (k0 : Nat) (σ : zS) : Option (Int32 × zS) := if (σ k0 9) = 0 then zgd (kd 0 (σ k0 2).toNatClampNeg == 5) (zlet (σ k0 2).toNatClampNeg (fun q_1 => zbd (FX0_prepare (k0 + 24) q_1 (k0 + 6) σ) (fun _ σ_2 => zbd (FX0_run (k0 + 24) σ_2) (fun r_5 σ_4 => zlet (zup σ_4 k0 9 1) (fun σ_6 => FX7_knowToday_b35  σ_6))))) else FX7_knowToday_b35  σ
set_option maxHeartbeats 4000000 in
set_option maxRecDepth 100000 in
theorem kX7_knowToday (l : Launch) {V : zV} {σ : zS} {t0 : Int32 × zS} {k0 : Nat} (hk0 : kd 0 k0 = 7) (h1 : FX7_knowToday k0 σ = some t0) : zMv l yX7_knowToday cX7_knowToday 1 6 139 0 V σ t0 [.ref (zad V k0)] := by
  refine zMv_of (by decide) (Nat.le_of_ble_eq_true rfl) ?_
  intro p e s m below meth c A C0 hr hlk hZ ls hl
  generalize ([.ref (zad V k0)] : List Value).toArray = args at C0 ⊢
  obtain ⟨Q, hQ⟩ : ∃ Q, Q = MQ below (zQv 0 V t0 A) args s 0 0 A := ⟨_, rfl⟩
  rw [← hQ]
  have hx := C0.1
  have hb := C0.2.1
  have hl : lv_has ls 1 [(0, .ref (zad V k0))] := hl
  unfold FX7_knowToday at h1
  have J35 : ∀  (σ : zS) (H : Heap) (locs : List Loc) (ls : Array Slot), zZ 0 V A σ s H locs → lv_has ls 1 [] → FX7_knowToday_b35  σ = some t0 → W p l e (zrm 6 139) s m args below meth c H locs 0 0 Q (F0 m 35 ls []) := by
    intro  σ H locs ls  hZ hl h1
    unfold FX7_knowToday_b35 at h1
    rw [hQ]; exact z_vret C0 hr hlk hZ h1 dX7_knowToday_35
  refine lv_aload_n hx hb dX7_knowToday_0 rfl (lv_at hl 0 rfl) ?_
  refine z_geti C0 hZ hk0 fRX7_56 rfl dX7_knowToday_1 ?_
  refine z_if_ne (tgt := 35) C0 h1 dX7_knowToday_4 (by decide) (fun h1 => ?_) (fun h1 => ?_)
  · exact J35  _ _ _ _  hZ (lv_sub hl [] rfl) h1
  refine lv_aload_n hx hb dX7_knowToday_7 rfl (lv_at hl 0 rfl) ?_
  refine z_getr C0 hZ hk0 fRX7_49 rfl dX7_knowToday_8 ?_
  refine lv_aload_n hx hb dX7_knowToday_11 rfl (lv_at hl 0 rfl) ?_
  refine z_getm C0 hZ h1 hk0 fRX7_19 rfl dX7_knowToday_12 (fun q_1 hq_1 h1 => ?_)
  refine lv_aload_n hx hb dX7_knowToday_15 rfl (lv_at hl 0 rfl) ?_
  refine z_getr C0 hZ hk0 fRX7_33 rfl dX7_knowToday_16 ?_
  refine z_cVv (As := [.ref (zad V q_1), .ref (zad V (k0 + 6))]) (rest := []) C0 hZ h1 (fun _ hf => kX0_prepare l (zkt7_7 hk0) hq_1 (zkt7_4 hk0) hf) mRX7_237 vX0_prepare (zkt7_7 hk0) rfl rfl hl.1 (Nat.le_of_ble_eq_true rfl) ⟨Nat.le_of_ble_eq_true rfl, Nat.le_of_ble_eq_true rfl⟩ dX7_knowToday_19 ⟨Nat.le_of_ble_eq_true rfl, Nat.le_of_ble_eq_true rfl⟩ (fun _ σ_2 H locs h1 hZ => ?_)
  refine lv_aload_n hx hb dX7_knowToday_22 rfl (lv_at hl 0 rfl) ?_
  refine z_getr C0 hZ hk0 fRX7_49 rfl dX7_knowToday_23 ?_
  refine z_cVi (As := []) (rest := []) C0 hZ h1 (fun _ hf => kX0_run l (zkt7_7 hk0) hf) mRX7_241 vX0_run (zkt7_7 hk0) rfl rfl hl.1 (Nat.le_of_ble_eq_true rfl) ⟨Nat.le_of_ble_eq_true rfl, Nat.le_of_ble_eq_true rfl⟩ dX7_knowToday_26 ⟨Nat.le_of_ble_eq_true rfl, Nat.le_of_ble_eq_true rfl⟩ (fun r_5 σ_4 H locs h1 hZ => ?_)
  refine lv_pop hx hb dX7_knowToday_29 rfl ?_
  refine lv_aload_n hx hb dX7_knowToday_30 rfl (lv_at hl 0 rfl) ?_
  refine lv_iconst (v := 1) hx hb dX7_knowToday_31 (by decide) ?_
  refine z_puti C0 hZ h1 hk0 fRX7_56 rfl tyX7_ok nmX7 rfl rfl rfl dX7_knowToday_32 (fun σ_6 H locs h1 hZ => ?_)
  exact J35  _ _ _ _  hZ (lv_sub hl [] rfl) h1
noncomputable def FX7_day_b10  (σ : zS) : Option zT3 := some (1, 0, σ)
noncomputable def FX7_day (k0 : Nat) (x1 : Int32) (σ : zS) : Option zT3 := if x1 < 0 then FX7_day_b10  σ else if x1 < 8 then zbd (FX7_knowToday k0 σ) (fun _ σ_1 => zbd (FX7_at ((k0 + 24) + 8) x1 σ_1) (fun r_4 σ_3 => some (0, r_4, σ_3))) else FX7_day_b10  σ
set_option maxHeartbeats 4000000 in
set_option maxRecDepth 100000 in
theorem kX7_day (l : Launch) (hfl : l.stackTraces = false) {V : zV} {σ : zS} {t0 : zT3} {k0 : Nat} {x1 : Int32} (hk0 : kd 0 k0 = 7) (h1 : FX7_day k0 x1 σ = some t0) : zXi l yX7_day cX7_day 2 (some .int) 7 159 1 6 0 V σ t0 [.ref (zad V k0), .int x1] := by
  refine zXi_of (by decide) (Nat.le_of_ble_eq_true rfl) ?_
  intro p e s m below meth c A C0 hr hlk hnt hZ ls hl
  generalize ([.ref (zad V k0), .int x1] : List Value).toArray = args at C0 ⊢
  obtain ⟨Q, hQ⟩ : ∃ Q, Q = vx_MQ below (zxQ 0 V t0 A) (zxX 0 V t0 A) args s 1 6 A := ⟨_, rfl⟩
  rw [← hQ]
  have hx := C0.1
  have hb := C0.2.1
  have hl : lv_has ls 2 [(0, .ref (zad V k0)), (1, .int x1)] := hl
  unfold FX7_day at h1
  have J10 : ∀  (σ : zS) (H : Heap) (locs : List Loc) (ls : Array Slot), zZ 0 V A σ s H locs → lv_has ls 2 [] → FX7_day_b10  σ = some t0 → W p l e { frames := 7, cells := 1, slots := 6, locals := 159 } s m args below meth c H locs 0 0 Q (F0 m 10 ls []) := by
    intro  σ H locs ls  hZ hl h1
    unfold FX7_day_b10 at h1
    rw [hQ]; exact z_throw (n := 0) C0 hfl hnt hl.1 hlk hZ h1 xxRX7_171 dX7_day_10 dX7_day_13 dX7_day_14 dX7_day_17 ⟨Nat.le_of_ble_eq_true rfl, Nat.le_of_ble_eq_true rfl, Nat.le_of_ble_eq_true rfl, Nat.le_of_ble_eq_true rfl⟩ ⟨Nat.le_of_ble_eq_true rfl, Nat.le_of_ble_eq_true rfl⟩
  refine lv_iload_n hx hb dX7_day_0 rfl (lv_at hl 1 rfl) ?_
  refine z_if_lt (tgt := 10) C0 h1 dX7_day_1 (by decide) (fun h1 => ?_) (fun h1 => ?_)
  · exact J10  _ _ _ _  hZ (lv_sub hl [] rfl) h1
  refine lv_iload_n hx hb dX7_day_4 rfl (lv_at hl 1 rfl) ?_
  refine lv_bipush (v := 8) hx hb dX7_day_5 (by decide) ?_
  refine z_ic_lt (tgt := 18) C0 h1 dX7_day_7 (by decide) (fun h1 => ?_) (fun h1 => ?_)
  · refine lv_aload_n hx hb dX7_day_18 rfl (lv_at hl 0 rfl) ?_
    refine z_cVv (As := []) (rest := []) C0 hZ h1 (fun _ hf => kX7_knowToday l hk0 hf) mRX7_253 vX7_knowToday hk0 rfl rfl hl.1 (Nat.le_of_ble_eq_true rfl) ⟨Nat.le_of_ble_eq_true rfl, Nat.le_of_ble_eq_true rfl⟩ dX7_day_19 ⟨Nat.le_of_ble_eq_true rfl, Nat.le_of_ble_eq_true rfl⟩ (fun _ σ_1 H locs h1 hZ => ?_)
    refine lv_aload_n hx hb dX7_day_22 rfl (lv_at hl 0 rfl) ?_
    refine z_getr C0 hZ hk0 fRX7_49 rfl dX7_day_23 ?_
    refine z_getr C0 hZ (zkt7_7 hk0) fRX7_256 rfl dX7_day_26 ?_
    refine lv_iload_n hx hb dX7_day_29 rfl (lv_at hl 1 rfl) ?_
    refine z_cSi (As := [.ref (zad V ((k0 + 24) + 8)), .int x1]) (rest := []) C0 hZ h1 (fun _ hf => kX7_at l (zkt0_15 (zkt7_7 hk0)) hf) mRX7_167 sX7_at rfl rfl hl.1 (Nat.le_of_ble_eq_true rfl) ⟨Nat.le_of_ble_eq_true rfl, Nat.le_of_ble_eq_true rfl⟩ dX7_day_30 ⟨Nat.le_of_ble_eq_true rfl, Nat.le_of_ble_eq_true rfl⟩ (fun r_4 σ_3 H locs h1 hZ => ?_)
    rw [hQ]; exact z_xiret C0 hr hlk hZ h1 ⟨Nat.le_of_ble_eq_true rfl, Nat.le_of_ble_eq_true rfl⟩ dX7_day_33
  exact J10  _ _ _ _  hZ (lv_sub hl [] rfl) h1
noncomputable def FX7_isMinute_b16 (y0 : Int32) (σ : zS) : Option (Int32 × zS) := zgd (y0 == 0 || y0 == 1) (some (y0, σ))
noncomputable def FX7_isMinute_b15  (σ : zS) : Option (Int32 × zS) := FX7_isMinute_b16 0 σ
noncomputable def FX7_isMinute (x0 : Int32) (σ : zS) : Option (Int32 × zS) := if x0 < 1 then FX7_isMinute_b15  σ else if 60 < x0 then FX7_isMinute_b15  σ else FX7_isMinute_b16 1 σ
set_option maxHeartbeats 4000000 in
set_option maxRecDepth 100000 in
theorem kX7_isMinute (l : Launch) {V : zV} {σ : zS} {t0 : Int32 × zS} {x0 : Int32}  (h1 : FX7_isMinute x0 σ = some t0) : zMi l yX7_isMinute cX7_isMinute 1 (some .boolean) 0 0 0 V σ t0 [.int x0] := by
  refine zMi_of (by decide) (Nat.le_of_ble_eq_true rfl) ?_
  intro p e s m below meth c A C0 hr hlk hZ ls hl
  generalize ([.int x0] : List Value).toArray = args at C0 ⊢
  obtain ⟨Q, hQ⟩ : ∃ Q, Q = MQ below (zQi 0 V t0 A) args s 0 0 A := ⟨_, rfl⟩
  rw [← hQ]
  have hx := C0.1
  have hb := C0.2.1
  have hl : lv_has ls 1 [(0, .int x0)] := hl
  unfold FX7_isMinute at h1
  have J16 : ∀ (y0 : Int32) (σ : zS) (H : Heap) (locs : List Loc) (ls : Array Slot), zZ 0 V A σ s H locs → lv_has ls 1 [] → FX7_isMinute_b16 y0 σ = some t0 → W p l e (zrm 0 0) s m args below meth c H locs 0 0 Q (F0 m 16 ls [.int y0]) := by
    intro y0 σ H locs ls  hZ hl h1
    unfold FX7_isMinute_b16 at h1
    rw [hQ]; exact z_zret C0 hr hlk hZ h1 dX7_isMinute_16
  have J15 : ∀  (σ : zS) (H : Heap) (locs : List Loc) (ls : Array Slot), zZ 0 V A σ s H locs → lv_has ls 1 [] → FX7_isMinute_b15  σ = some t0 → W p l e (zrm 0 0) s m args below meth c H locs 0 0 Q (F0 m 15 ls []) := by
    intro  σ H locs ls  hZ hl h1
    unfold FX7_isMinute_b15 at h1
    refine lv_iconst (v := 0) hx hb dX7_isMinute_15 (by decide) ?_
    exact J16 0 _ _ _ _  hZ (lv_sub hl [] rfl) h1
  refine lv_iload_n hx hb dX7_isMinute_0 rfl (lv_at hl 0 rfl) ?_
  refine lv_iconst (v := 1) hx hb dX7_isMinute_1 (by decide) ?_
  refine z_ic_lt (tgt := 15) C0 h1 dX7_isMinute_2 (by decide) (fun h1 => ?_) (fun h1 => ?_)
  · exact J15  _ _ _ _  hZ (lv_sub hl [] rfl) h1
  refine lv_iload_n hx hb dX7_isMinute_5 rfl (lv_at hl 0 rfl) ?_
  refine lv_bipush (v := 60) hx hb dX7_isMinute_6 (by decide) ?_
  refine z_ic_gt (tgt := 15) C0 h1 dX7_isMinute_8 (by decide) (fun h1 => ?_) (fun h1 => ?_)
  · exact J15  _ _ _ _  hZ (lv_sub hl [] rfl) h1
  refine lv_iconst (v := 1) hx hb dX7_isMinute_11 (by decide) ?_
  refine lv_goto (tgt := 16) hx hb dX7_isMinute_12 (by decide) ?_
  exact J16 1 _ _ _ _  hZ (lv_sub hl [] rfl) h1
noncomputable def FX7_needMinute (x0 : Int32) (σ : zS) : Option zT3 := zbd (FX7_isMinute x0 σ) (fun r_2 σ_1 => if r_2 = 0 then some (1, 0, σ_1) else some (0, 0, σ_1))
set_option maxHeartbeats 4000000 in
set_option maxRecDepth 100000 in
theorem kX7_needMinute (l : Launch) (hfl : l.stackTraces = false) {V : zV} {σ : zS} {t0 : zT3} {x0 : Int32}  (h1 : FX7_needMinute x0 σ = some t0) : zXv l yX7_needMinute cX7_needMinute 1 6 90 1 6 0 V σ t0 [.int x0] := by
  refine zXv_of (by decide) (Nat.le_of_ble_eq_true rfl) ?_
  intro p e s m below meth c A C0 hr hlk hnt hZ ls hl
  generalize ([.int x0] : List Value).toArray = args at C0 ⊢
  obtain ⟨Q, hQ⟩ : ∃ Q, Q = vx_MQ below (zxQv 0 V t0 A) (zxX 0 V t0 A) args s 1 6 A := ⟨_, rfl⟩
  rw [← hQ]
  have hx := C0.1
  have hb := C0.2.1
  have hl : lv_has ls 1 [(0, .int x0)] := hl
  unfold FX7_needMinute at h1
  refine lv_iload_n hx hb dX7_needMinute_0 rfl (lv_at hl 0 rfl) ?_
  refine z_cSi (As := [.int x0]) (rest := []) C0 hZ h1 (fun _ hf => kX7_isMinute l  hf) mRX7_311 sX7_isMinute rfl rfl hl.1 (Nat.le_of_ble_eq_true rfl) ⟨Nat.le_of_ble_eq_true rfl, Nat.le_of_ble_eq_true rfl⟩ dX7_needMinute_1 ⟨Nat.le_of_ble_eq_true rfl, Nat.le_of_ble_eq_true rfl⟩ (fun r_2 σ_1 H locs h1 hZ => ?_)
  refine z_if_ne (tgt := 15) C0 h1 dX7_needMinute_4 (by decide) (fun h1 => ?_) (fun h1 => ?_)
  · rw [hQ]; exact z_xvret C0 hr hlk hZ h1 ⟨Nat.le_of_ble_eq_true rfl, Nat.le_of_ble_eq_true rfl⟩ dX7_needMinute_15
  rw [hQ]; exact z_throw (n := 0) C0 hfl hnt hl.1 hlk hZ h1 xxRX7_171 dX7_needMinute_7 dX7_needMinute_10 dX7_needMinute_11 dX7_needMinute_14 ⟨Nat.le_of_ble_eq_true rfl, Nat.le_of_ble_eq_true rfl, Nat.le_of_ble_eq_true rfl, Nat.le_of_ble_eq_true rfl⟩ ⟨Nat.le_of_ble_eq_true rfl, Nat.le_of_ble_eq_true rfl⟩
noncomputable def FX7_where (k0 : Nat) (x1 : Int32) (x2 : Int32) (σ : zS) : Option zT3 := zbx (FX7_needPerson k0 x1 σ) (fun _ σ_1 => zbx (FX7_needMinute x2 σ_1) (fun _ σ_2 => zgd (kd 0 (σ_2 k0 2).toNatClampNeg == 5) (zlet (σ_2 k0 2).toNatClampNeg (fun q_3 => zbd (FX2_placeIn (q_3 + 7) x1 x2 σ_2) (fun r_5 σ_4 => some (0, r_5, σ_4))))) (fun n σ => some (n, 0, σ))) (fun n σ => some (n, 0, σ))
set_option maxHeartbeats 4000000 in
set_option maxRecDepth 100000 in
theorem kX7_where (l : Launch) (hfl : l.stackTraces = false) {V : zV} {σ : zS} {t0 : zT3} {k0 : Nat} {x1 : Int32} {x2 : Int32} (hk0 : kd 0 k0 = 7) (h1 : FX7_where k0 x1 x2 σ = some t0) : zXi l yX7_where cX7_where 3 (some .int) 7 111 2 12 0 V σ t0 [.ref (zad V k0), .int x1, .int x2] := by
  refine zXi_of (by decide) (Nat.le_of_ble_eq_true rfl) ?_
  intro p e s m below meth c A C0 hr hlk hnt hZ ls hl
  generalize ([.ref (zad V k0), .int x1, .int x2] : List Value).toArray = args at C0 ⊢
  obtain ⟨Q, hQ⟩ : ∃ Q, Q = vx_MQ below (zxQ 0 V t0 A) (zxX 0 V t0 A) args s 2 12 A := ⟨_, rfl⟩
  rw [← hQ]
  have hx := C0.1
  have hb := C0.2.1
  have hl : lv_has ls 3 [(0, .ref (zad V k0)), (1, .int x1), (2, .int x2)] := hl
  unfold FX7_where at h1
  refine lv_aload_n hx hb dX7_where_0 rfl (lv_at hl 0 rfl) ?_
  refine lv_iload_n hx hb dX7_where_1 rfl (lv_at hl 1 rfl) ?_
  rw [hQ]
  refine z_xVv (As := [.int x1]) (rest := []) C0 hlk hnt hZ h1 (fun _ hf => kX7_needPerson l hfl hk0 hf) (zmem 1206 (by decide +kernel) (by decide +kernel)) mRX7_189 vX7_needPerson hk0 rfl rfl hl.1 (Nat.le_of_ble_eq_true rfl) ⟨Nat.le_of_ble_eq_true rfl, Nat.le_of_ble_eq_true rfl⟩ dX7_where_2 ⟨Nat.le_of_ble_eq_true rfl, Nat.le_of_ble_eq_true rfl⟩ ⟨Nat.le_of_ble_eq_true rfl, Nat.le_of_ble_eq_true rfl⟩ (fun _ σ_1 H locs h1 hZ => ?_)
  rw [← hQ]
  refine lv_iload_n hx hb dX7_where_5 rfl (lv_at hl 2 rfl) ?_
  rw [hQ]
  refine z_xSv (As := [.int x2]) (rest := []) C0 hlk hnt hZ h1 (fun _ hf => kX7_needMinute l hfl hf) (zmem 1251 (by decide +kernel) (by decide +kernel)) mRX7_259 sX7_needMinute rfl rfl hl.1 (Nat.le_of_ble_eq_true rfl) ⟨Nat.le_of_ble_eq_true rfl, Nat.le_of_ble_eq_true rfl⟩ dX7_where_6 ⟨Nat.le_of_ble_eq_true rfl, Nat.le_of_ble_eq_true rfl⟩ ⟨Nat.le_of_ble_eq_true rfl, Nat.le_of_ble_eq_true rfl⟩ (fun _ σ_2 H locs h1 hZ => ?_)
  rw [← hQ]
  refine lv_aload_n hx hb dX7_where_9 rfl (lv_at hl 0 rfl) ?_
  refine z_getm C0 hZ h1 hk0 fRX7_19 rfl dX7_where_10 (fun q_3 hq_3 h1 => ?_)
  refine z_getr C0 hZ hq_3 fRX7_118 rfl dX7_where_13 ?_
  refine lv_iload_n hx hb dX7_where_16 rfl (lv_at hl 1 rfl) ?_
  refine lv_iload_n hx hb dX7_where_17 rfl (lv_at hl 2 rfl) ?_
  refine z_cVi (As := [.int x1, .int x2]) (rest := []) C0 hZ h1 (fun _ hf => kX2_placeIn l (zkt5_1 hq_3) hf) mRX7_262 vX2_placeIn (zkt5_1 hq_3) rfl rfl hl.1 (Nat.le_of_ble_eq_true rfl) ⟨Nat.le_of_ble_eq_true rfl, Nat.le_of_ble_eq_true rfl⟩ dX7_where_18 ⟨Nat.le_of_ble_eq_true rfl, Nat.le_of_ble_eq_true rfl⟩ (fun r_5 σ_4 H locs h1 hZ => ?_)
  rw [hQ]; exact z_xiret C0 hr hlk hZ h1 ⟨Nat.le_of_ble_eq_true rfl, Nat.le_of_ble_eq_true rfl⟩ dX7_where_21
noncomputable def FX7_eyes (k0 : Nat) (x1 : Int32) (σ : zS) : Option zT3 := zbx (FX7_needMinute x1 σ) (fun _ σ_1 => zbd (FX7_knowToday k0 σ_1) (fun _ σ_2 => zbd (FX7_at ((k0 + 24) + 9) x1 σ_2) (fun r_5 σ_4 => some (0, r_5, σ_4)))) (fun n σ => some (n, 0, σ))
set_option maxHeartbeats 4000000 in
set_option maxRecDepth 100000 in
theorem kX7_eyes (l : Launch) (hfl : l.stackTraces = false) {V : zV} {σ : zS} {t0 : zT3} {k0 : Nat} {x1 : Int32} (hk0 : kd 0 k0 = 7) (h1 : FX7_eyes k0 x1 σ = some t0) : zXi l yX7_eyes cX7_eyes 2 (some .int) 7 159 1 6 0 V σ t0 [.ref (zad V k0), .int x1] := by
  refine zXi_of (by decide) (Nat.le_of_ble_eq_true rfl) ?_
  intro p e s m below meth c A C0 hr hlk hnt hZ ls hl
  generalize ([.ref (zad V k0), .int x1] : List Value).toArray = args at C0 ⊢
  obtain ⟨Q, hQ⟩ : ∃ Q, Q = vx_MQ below (zxQ 0 V t0 A) (zxX 0 V t0 A) args s 1 6 A := ⟨_, rfl⟩
  rw [← hQ]
  have hx := C0.1
  have hb := C0.2.1
  have hl : lv_has ls 2 [(0, .ref (zad V k0)), (1, .int x1)] := hl
  unfold FX7_eyes at h1
  refine lv_iload_n hx hb dX7_eyes_0 rfl (lv_at hl 1 rfl) ?_
  rw [hQ]
  refine z_xSv (As := [.int x1]) (rest := []) C0 hlk hnt hZ h1 (fun _ hf => kX7_needMinute l hfl hf) (zmem 1251 (by decide +kernel) (by decide +kernel)) mRX7_259 sX7_needMinute rfl rfl hl.1 (Nat.le_of_ble_eq_true rfl) ⟨Nat.le_of_ble_eq_true rfl, Nat.le_of_ble_eq_true rfl⟩ dX7_eyes_1 ⟨Nat.le_of_ble_eq_true rfl, Nat.le_of_ble_eq_true rfl⟩ ⟨Nat.le_of_ble_eq_true rfl, Nat.le_of_ble_eq_true rfl⟩ (fun _ σ_1 H locs h1 hZ => ?_)
  rw [← hQ]
  refine lv_aload_n hx hb dX7_eyes_4 rfl (lv_at hl 0 rfl) ?_
  refine z_cVv (As := []) (rest := []) C0 hZ h1 (fun _ hf => kX7_knowToday l hk0 hf) mRX7_253 vX7_knowToday hk0 rfl rfl hl.1 (Nat.le_of_ble_eq_true rfl) ⟨Nat.le_of_ble_eq_true rfl, Nat.le_of_ble_eq_true rfl⟩ dX7_eyes_5 ⟨Nat.le_of_ble_eq_true rfl, Nat.le_of_ble_eq_true rfl⟩ (fun _ σ_2 H locs h1 hZ => ?_)
  refine lv_aload_n hx hb dX7_eyes_8 rfl (lv_at hl 0 rfl) ?_
  refine z_getr C0 hZ hk0 fRX7_49 rfl dX7_eyes_9 ?_
  refine z_getr C0 hZ (zkt7_7 hk0) fRX7_265 rfl dX7_eyes_12 ?_
  refine lv_iload_n hx hb dX7_eyes_15 rfl (lv_at hl 1 rfl) ?_
  refine z_cSi (As := [.ref (zad V ((k0 + 24) + 9)), .int x1]) (rest := []) C0 hZ h1 (fun _ hf => kX7_at l (zkt0_16 (zkt7_7 hk0)) hf) mRX7_167 sX7_at rfl rfl hl.1 (Nat.le_of_ble_eq_true rfl) ⟨Nat.le_of_ble_eq_true rfl, Nat.le_of_ble_eq_true rfl⟩ dX7_eyes_16 ⟨Nat.le_of_ble_eq_true rfl, Nat.le_of_ble_eq_true rfl⟩ (fun r_5 σ_4 H locs h1 hZ => ?_)
  rw [hQ]; exact z_xiret C0 hr hlk hZ h1 ⟨Nat.le_of_ble_eq_true rfl, Nat.le_of_ble_eq_true rfl⟩ dX7_eyes_19
noncomputable def FX7_has (k0 : Nat) (x1 : Int32) (x2 : Int32) (σ : zS) : Option zT3 := zbx (FX7_needPerson k0 x1 σ) (fun _ σ_1 => zbx (FX7_needMinute x2 σ_1) (fun _ σ_2 => zbd (FX7_knowToday k0 σ_2) (fun _ σ_3 => zbd (FX7_at ((k0 + 24) + 10) ((x2 * 8) + x1) σ_3) (fun r_6 σ_5 => some (0, r_6, σ_5)))) (fun n σ => some (n, 0, σ))) (fun n σ => some (n, 0, σ))
set_option maxHeartbeats 4000000 in
set_option maxRecDepth 100000 in
theorem kX7_has (l : Launch) (hfl : l.stackTraces = false) {V : zV} {σ : zS} {t0 : zT3} {k0 : Nat} {x1 : Int32} {x2 : Int32} (hk0 : kd 0 k0 = 7) (h1 : FX7_has k0 x1 x2 σ = some t0) : zXi l yX7_has cX7_has 3 (some .int) 7 159 2 12 0 V σ t0 [.ref (zad V k0), .int x1, .int x2] := by
  refine zXi_of (by decide) (Nat.le_of_ble_eq_true rfl) ?_
  intro p e s m below meth c A C0 hr hlk hnt hZ ls hl
  generalize ([.ref (zad V k0), .int x1, .int x2] : List Value).toArray = args at C0 ⊢
  obtain ⟨Q, hQ⟩ : ∃ Q, Q = vx_MQ below (zxQ 0 V t0 A) (zxX 0 V t0 A) args s 2 12 A := ⟨_, rfl⟩
  rw [← hQ]
  have hx := C0.1
  have hb := C0.2.1
  have hl : lv_has ls 3 [(0, .ref (zad V k0)), (1, .int x1), (2, .int x2)] := hl
  unfold FX7_has at h1
  refine lv_aload_n hx hb dX7_has_0 rfl (lv_at hl 0 rfl) ?_
  refine lv_iload_n hx hb dX7_has_1 rfl (lv_at hl 1 rfl) ?_
  rw [hQ]
  refine z_xVv (As := [.int x1]) (rest := []) C0 hlk hnt hZ h1 (fun _ hf => kX7_needPerson l hfl hk0 hf) (zmem 1206 (by decide +kernel) (by decide +kernel)) mRX7_189 vX7_needPerson hk0 rfl rfl hl.1 (Nat.le_of_ble_eq_true rfl) ⟨Nat.le_of_ble_eq_true rfl, Nat.le_of_ble_eq_true rfl⟩ dX7_has_2 ⟨Nat.le_of_ble_eq_true rfl, Nat.le_of_ble_eq_true rfl⟩ ⟨Nat.le_of_ble_eq_true rfl, Nat.le_of_ble_eq_true rfl⟩ (fun _ σ_1 H locs h1 hZ => ?_)
  rw [← hQ]
  refine lv_iload_n hx hb dX7_has_5 rfl (lv_at hl 2 rfl) ?_
  rw [hQ]
  refine z_xSv (As := [.int x2]) (rest := []) C0 hlk hnt hZ h1 (fun _ hf => kX7_needMinute l hfl hf) (zmem 1251 (by decide +kernel) (by decide +kernel)) mRX7_259 sX7_needMinute rfl rfl hl.1 (Nat.le_of_ble_eq_true rfl) ⟨Nat.le_of_ble_eq_true rfl, Nat.le_of_ble_eq_true rfl⟩ dX7_has_6 ⟨Nat.le_of_ble_eq_true rfl, Nat.le_of_ble_eq_true rfl⟩ ⟨Nat.le_of_ble_eq_true rfl, Nat.le_of_ble_eq_true rfl⟩ (fun _ σ_2 H locs h1 hZ => ?_)
  rw [← hQ]
  refine lv_aload_n hx hb dX7_has_9 rfl (lv_at hl 0 rfl) ?_
  refine z_cVv (As := []) (rest := []) C0 hZ h1 (fun _ hf => kX7_knowToday l hk0 hf) mRX7_253 vX7_knowToday hk0 rfl rfl hl.1 (Nat.le_of_ble_eq_true rfl) ⟨Nat.le_of_ble_eq_true rfl, Nat.le_of_ble_eq_true rfl⟩ dX7_has_10 ⟨Nat.le_of_ble_eq_true rfl, Nat.le_of_ble_eq_true rfl⟩ (fun _ σ_3 H locs h1 hZ => ?_)
  refine lv_aload_n hx hb dX7_has_13 rfl (lv_at hl 0 rfl) ?_
  refine z_getr C0 hZ hk0 fRX7_49 rfl dX7_has_14 ?_
  refine z_getr C0 hZ (zkt7_7 hk0) fRX7_268 rfl dX7_has_17 ?_
  refine lv_iload_n hx hb dX7_has_20 rfl (lv_at hl 2 rfl) ?_
  refine lv_bipush (v := 8) hx hb dX7_has_21 (by decide) ?_
  refine lv_imul hx hb dX7_has_23 ?_
  refine lv_iload_n hx hb dX7_has_24 rfl (lv_at hl 1 rfl) ?_
  refine lv_iadd hx hb dX7_has_25 ?_
  refine z_cSi (As := [.ref (zad V ((k0 + 24) + 10)), .int ((x2 * 8) + x1)]) (rest := []) C0 hZ h1 (fun _ hf => kX7_at l (zkt0_17 (zkt7_7 hk0)) hf) mRX7_167 sX7_at rfl rfl hl.1 (Nat.le_of_ble_eq_true rfl) ⟨Nat.le_of_ble_eq_true rfl, Nat.le_of_ble_eq_true rfl⟩ dX7_has_26 ⟨Nat.le_of_ble_eq_true rfl, Nat.le_of_ble_eq_true rfl⟩ (fun r_6 σ_5 H locs h1 hZ => ?_)
  rw [hQ]; exact z_xiret C0 hr hlk hZ h1 ⟨Nat.le_of_ble_eq_true rfl, Nat.le_of_ble_eq_true rfl⟩ dX7_has_29
noncomputable def FX7_costWatched (k0 : Nat) (x1 : Int32) (x2 : Int32) (σ : zS) : Option (Int32 × zS) := zgd (kd 0 (σ k0 2).toNatClampNeg == 5) (zlet (σ k0 2).toNatClampNeg (fun q_1 => zbd (FX0_prepare (k0 + 35) q_1 (k0 + 6) σ) (fun _ σ_2 => zlet (zup σ_2 (k0 + 35) 1 x1) (fun σ_4 => zlet (zup σ_4 (k0 + 35) 2 x2) (fun σ_5 => zbd (FX0_run (k0 + 35) σ_5) (fun r_7 σ_6 => some (r_7, σ_6)))))))
set_option maxHeartbeats 4000000 in
set_option maxRecDepth 100000 in
theorem kX7_costWatched (l : Launch) {V : zV} {σ : zS} {t0 : Int32 × zS} {k0 : Nat} {x1 : Int32} {x2 : Int32} (hk0 : kd 0 k0 = 7) (h1 : FX7_costWatched k0 x1 x2 σ = some t0) : zMi l yX7_costWatched cX7_costWatched 3 (some .int) 6 139 0 V σ t0 [.ref (zad V k0), .int x1, .int x2] := by
  refine zMi_of (by decide) (Nat.le_of_ble_eq_true rfl) ?_
  intro p e s m below meth c A C0 hr hlk hZ ls hl
  generalize ([.ref (zad V k0), .int x1, .int x2] : List Value).toArray = args at C0 ⊢
  obtain ⟨Q, hQ⟩ : ∃ Q, Q = MQ below (zQi 0 V t0 A) args s 0 0 A := ⟨_, rfl⟩
  rw [← hQ]
  have hx := C0.1
  have hb := C0.2.1
  have hl : lv_has ls 3 [(0, .ref (zad V k0)), (1, .int x1), (2, .int x2)] := hl
  unfold FX7_costWatched at h1
  refine lv_aload_n hx hb dX7_costWatched_0 rfl (lv_at hl 0 rfl) ?_
  refine z_getr C0 hZ hk0 fRX7_53 rfl dX7_costWatched_1 ?_
  refine lv_aload_n hx hb dX7_costWatched_4 rfl (lv_at hl 0 rfl) ?_
  refine z_getm C0 hZ h1 hk0 fRX7_19 rfl dX7_costWatched_5 (fun q_1 hq_1 h1 => ?_)
  refine lv_aload_n hx hb dX7_costWatched_8 rfl (lv_at hl 0 rfl) ?_
  refine z_getr C0 hZ hk0 fRX7_33 rfl dX7_costWatched_9 ?_
  refine z_cVv (As := [.ref (zad V q_1), .ref (zad V (k0 + 6))]) (rest := []) C0 hZ h1 (fun _ hf => kX0_prepare l (zkt7_8 hk0) hq_1 (zkt7_4 hk0) hf) mRX7_237 vX0_prepare (zkt7_8 hk0) rfl rfl hl.1 (Nat.le_of_ble_eq_true rfl) ⟨Nat.le_of_ble_eq_true rfl, Nat.le_of_ble_eq_true rfl⟩ dX7_costWatched_12 ⟨Nat.le_of_ble_eq_true rfl, Nat.le_of_ble_eq_true rfl⟩ (fun _ σ_2 H locs h1 hZ => ?_)
  refine lv_aload_n hx hb dX7_costWatched_15 rfl (lv_at hl 0 rfl) ?_
  refine z_getr C0 hZ hk0 fRX7_53 rfl dX7_costWatched_16 ?_
  refine lv_iload_n hx hb dX7_costWatched_19 rfl (lv_at hl 1 rfl) ?_
  refine z_puti C0 hZ h1 (zkt7_8 hk0) fRX7_274 rfl tyX0_ok nmX0 rfl rfl rfl dX7_costWatched_20 (fun σ_4 H locs h1 hZ => ?_)
  refine lv_aload_n hx hb dX7_costWatched_23 rfl (lv_at hl 0 rfl) ?_
  refine z_getr C0 hZ hk0 fRX7_53 rfl dX7_costWatched_24 ?_
  refine lv_iload_n hx hb dX7_costWatched_27 rfl (lv_at hl 2 rfl) ?_
  refine z_puti C0 hZ h1 (zkt7_8 hk0) fRX7_275 rfl tyX0_ok nmX0 rfl rfl rfl dX7_costWatched_28 (fun σ_5 H locs h1 hZ => ?_)
  refine lv_aload_n hx hb dX7_costWatched_31 rfl (lv_at hl 0 rfl) ?_
  refine z_getr C0 hZ hk0 fRX7_53 rfl dX7_costWatched_32 ?_
  refine z_cVi (As := []) (rest := []) C0 hZ h1 (fun _ hf => kX0_run l (zkt7_8 hk0) hf) mRX7_241 vX0_run (zkt7_8 hk0) rfl rfl hl.1 (Nat.le_of_ble_eq_true rfl) ⟨Nat.le_of_ble_eq_true rfl, Nat.le_of_ble_eq_true rfl⟩ dX7_costWatched_35 ⟨Nat.le_of_ble_eq_true rfl, Nat.le_of_ble_eq_true rfl⟩ (fun r_7 σ_6 H locs h1 hZ => ?_)
  rw [hQ]; exact z_iret C0 hr hlk hZ h1 dX7_costWatched_38
noncomputable def FX7_best_b18  (σ : zS) : Option zT3 := some (1, 0, σ)
noncomputable def FX7_best_b198 (y0 : Int32) (σ : zS) : Option zT3 := some (0, y0, σ)
noncomputable def FX7_best_b187 (x2 : Int32) (x5 : Int32) (x6 : Int32) (σ : zS) : Option zT3 := if x2 = 0 then FX7_best_b198 x5 σ else FX7_best_b198 x6 σ
noncomputable def FX7_best_b180 (x2 : Int32) (x7 : Int32) (σ : zS) : Option zT3 := zlet (-1) (fun x5_1 => zlet x7 (fun x6_2 => FX7_best_b187 x2 x5_1 x6_2 σ))
noncomputable def FX7_best_b149 (k0 : Nat) (x2 : Int32) (x3 : Int32) (x5 : Int32) (x6 : Int32) (σ : zS) : Option zT3 := if x3 = 1 then if x6 = 0 then FX7_best_b187 x2 x5 x6 σ else zbd (FX7_costWatched k0 0 0 σ) (fun r_4 σ_3 => zlet r_4 (fun x7_5 => if x6 = (-1) then FX7_best_b180 x2 x7_5 σ_3 else if x6 ≤ x7_5 then FX7_best_b187 x2 x5 x6 σ_3 else FX7_best_b180 x2 x7_5 σ_3)) else FX7_best_b187 x2 x5 x6 σ
noncomputable def FX7_best_b143 (k0 : Nat) (x2 : Int32) (x3 : Int32) (x4 : Int32) (x5 : Int32) (x6 : Int32) (x7 : Int32) (σ : zS) : Option ((Int32 × Int32 × Int32 × zS) ⊕ zT3) := zlet (x7 + 1) (fun x7_6 => some (.inl (x5, x6, x7_6, σ)))
noncomputable def FX7_best_b135 (k0 : Nat) (x2 : Int32) (x3 : Int32) (x4 : Int32) (x7 : Int32) (x8 : Int32) (σ : zS) : Option ((Int32 × Int32 × Int32 × zS) ⊕ zT3) := zlet x7 (fun x5_7 => zlet x8 (fun x6_8 => FX7_best_b143 k0 x2 x3 x4 x5_7 x6_8 x7 σ))
noncomputable def FX7_best_L101 (k0 : Nat) (x2 : Int32) (x3 : Int32) (x4 : Int32) (x5 : Int32) (x6 : Int32) (x7 : Int32) (σ : zS) : Option ((Int32 × Int32 × Int32 × zS) ⊕ zT3) := if x4 ≤ x7 then zinr (FX7_best_b149 k0 x2 x3 x5 x6 σ) else if x6 = 0 then zinr (FX7_best_b149 k0 x2 x3 x5 x6 σ) else zbd (FX7_costWatched k0 x3 x7 σ) (fun r_10 σ_9 => zlet r_10 (fun x8_11 => if x6 = (-1) then FX7_best_b135 k0 x2 x3 x4 x7 x8_11 σ_9 else if x6 ≤ x8_11 then FX7_best_b143 k0 x2 x3 x4 x5 x6 x7 σ_9 else FX7_best_b135 k0 x2 x3 x4 x7 x8_11 σ_9))
noncomputable def FX7_best_b90 (k0 : Nat) (x2 : Int32) (x3 : Int32) (y0 : Int32) (σ : zS) : Option zT3 := zlet y0 (fun x4_12 => zlet (-1) (fun x5_13 => zlet (-1) (fun x6_14 => zlet 0 (fun x7_15 => zlp (fun q => FX7_best_L101 k0 x2 x3 x4_12 q.1 q.2.1 q.2.2.1 q.2.2.2) (x5_13, x6_14, x7_15, σ)))))
noncomputable def FX7_best_b44 (k0 : Nat) (x1 : Int32) (x2 : Int32) (y0 : Int32) (σ : zS) : Option zT3 := zlet y0 (fun x3_16 => if x1 = 0 then zgd (kd 0 (σ k0 2).toNatClampNeg == 5) (zlet (σ k0 2).toNatClampNeg (fun q_19 => FX7_best_b90 k0 x2 x3_16 (σ (q_19 + 1) 0) σ)) else if x1 = 1 then zgd (kd 0 (σ k0 2).toNatClampNeg == 5) (zlet (σ k0 2).toNatClampNeg (fun q_18 => FX7_best_b90 k0 x2 x3_16 (σ (q_18 + 7) 0) σ)) else zgd (kd 0 (σ k0 2).toNatClampNeg == 5) (zlet (σ k0 2).toNatClampNeg (fun q_17 => FX7_best_b90 k0 x2 x3_16 (σ (q_17 + 14) 0) σ)))
noncomputable def FX7_best (k0 : Nat) (x1 : Int32) (x2 : Int32) (σ : zS) : Option zT3 := if x1 < 0 then FX7_best_b18  σ else if 2 < x1 then FX7_best_b18  σ else if x2 < 0 then FX7_best_b18  σ else if x2 ≤ 1 then if x1 = 0 then FX7_best_b44 k0 x1 x2 3 σ else if x1 = 1 then FX7_best_b44 k0 x1 x2 2 σ else FX7_best_b44 k0 x1 x2 1 σ else FX7_best_b18  σ
set_option maxHeartbeats 4000000 in
set_option maxRecDepth 100000 in
theorem kX7_best (l : Launch) (hfl : l.stackTraces = false) {V : zV} {σ : zS} {t0 : zT3} {k0 : Nat} {x1 : Int32} {x2 : Int32} (hk0 : kd 0 k0 = 7) (h1 : FX7_best k0 x1 x2 σ = some t0) : zXi l yX7_best cX7_best 9 (some .int) 7 161 1 6 0 V σ t0 [.ref (zad V k0), .int x1, .int x2] := by
  refine zXi_of (by decide) (Nat.le_of_ble_eq_true rfl) ?_
  intro p e s m below meth c A C0 hr hlk hnt hZ ls hl
  generalize ([.ref (zad V k0), .int x1, .int x2] : List Value).toArray = args at C0 ⊢
  obtain ⟨Q, hQ⟩ : ∃ Q, Q = vx_MQ below (zxQ 0 V t0 A) (zxX 0 V t0 A) args s 1 6 A := ⟨_, rfl⟩
  rw [← hQ]
  have hx := C0.1
  have hb := C0.2.1
  have hl : lv_has ls 9 [(0, .ref (zad V k0)), (1, .int x1), (2, .int x2)] := hl
  unfold FX7_best at h1
  have J18 : ∀  (σ : zS) (H : Heap) (locs : List Loc) (ls : Array Slot), zZ 0 V A σ s H locs → lv_has ls 9 [] → FX7_best_b18  σ = some t0 → W p l e { frames := 7, cells := 1, slots := 6, locals := 161 } s m args below meth c H locs 0 0 Q (F0 m 18 ls []) := by
    intro  σ H locs ls  hZ hl h1
    unfold FX7_best_b18 at h1
    rw [hQ]; exact z_throw (n := 0) C0 hfl hnt hl.1 hlk hZ h1 xxRX7_171 dX7_best_18 dX7_best_21 dX7_best_22 dX7_best_25 ⟨Nat.le_of_ble_eq_true rfl, Nat.le_of_ble_eq_true rfl, Nat.le_of_ble_eq_true rfl, Nat.le_of_ble_eq_true rfl⟩ ⟨Nat.le_of_ble_eq_true rfl, Nat.le_of_ble_eq_true rfl⟩
  have J198 : ∀ (y0 : Int32) (σ : zS) (H : Heap) (locs : List Loc) (ls : Array Slot), zZ 0 V A σ s H locs → lv_has ls 9 [] → FX7_best_b198 y0 σ = some t0 → W p l e { frames := 7, cells := 1, slots := 6, locals := 161 } s m args below meth c H locs 0 0 Q (F0 m 198 ls [.int y0]) := by
    intro y0 σ H locs ls  hZ hl h1
    unfold FX7_best_b198 at h1
    rw [hQ]; exact z_xiret C0 hr hlk hZ h1 ⟨Nat.le_of_ble_eq_true rfl, Nat.le_of_ble_eq_true rfl⟩ dX7_best_198
  have J187 : ∀ (x5 : Int32) (x6 : Int32) (σ : zS) (H : Heap) (locs : List Loc) (ls : Array Slot), zZ 0 V A σ s H locs → lv_has ls 9 [(2, .int x2), (5, .int x5), (6, .int x6)] → FX7_best_b187 x2 x5 x6 σ = some t0 → W p l e { frames := 7, cells := 1, slots := 6, locals := 161 } s m args below meth c H locs 0 0 Q (F0 m 187 ls []) := by
    intro x5 x6 σ H locs ls  hZ hl h1
    unfold FX7_best_b187 at h1
    refine lv_iload_n hx hb dX7_best_187 rfl (lv_at hl 0 rfl) ?_
    refine z_if_ne (tgt := 196) C0 h1 dX7_best_188 (by decide) (fun h1 => ?_) (fun h1 => ?_)
    · refine lv_iload hx hb dX7_best_196 (lv_at hl 2 rfl) ?_
      exact J198 x6 _ _ _ _  hZ (lv_sub hl [] rfl) h1
    refine lv_iload hx hb dX7_best_191 (lv_at hl 1 rfl) ?_
    refine lv_goto (tgt := 198) hx hb dX7_best_193 (by decide) ?_
    exact J198 x5 _ _ _ _  hZ (lv_sub hl [] rfl) h1
  have J180 : ∀ (x7 : Int32) (σ : zS) (H : Heap) (locs : List Loc) (ls : Array Slot), zZ 0 V A σ s H locs → lv_has ls 9 [(2, .int x2), (7, .int x7)] → FX7_best_b180 x2 x7 σ = some t0 → W p l e { frames := 7, cells := 1, slots := 6, locals := 161 } s m args below meth c H locs 0 0 Q (F0 m 180 ls []) := by
    intro x7 σ H locs ls  hZ hl h1
    unfold FX7_best_b180 at h1
    refine lv_iconst (v := (-1)) hx hb dX7_best_180 (by decide) ?_
    refine z_istore C0 h1 hl (fun x5_1 => [(5, .int x5_1), (2, .int x2), (7, .int x7)]) dX7_best_181 (by decide) (fun _ => rfl) (fun x5_1 ls h1 hl => ?_)
    refine lv_iload hx hb dX7_best_183 (lv_at hl 2 rfl) ?_
    refine z_istore C0 h1 hl (fun x6_2 => [(6, .int x6_2), (5, .int x5_1), (2, .int x2), (7, .int x7)]) dX7_best_185 (by decide) (fun _ => rfl) (fun x6_2 ls h1 hl => ?_)
    exact J187 x5_1 x6_2 _ _ _ _  hZ (lv_sub hl [2, 1, 0] rfl) h1
  have J149 : ∀ (x3 : Int32) (x5 : Int32) (x6 : Int32) (σ : zS) (H : Heap) (locs : List Loc) (ls : Array Slot), zZ 0 V A σ s H locs → lv_has ls 9 [(0, .ref (zad V k0)), (2, .int x2), (3, .int x3), (5, .int x5), (6, .int x6)] → FX7_best_b149 k0 x2 x3 x5 x6 σ = some t0 → W p l e { frames := 7, cells := 1, slots := 6, locals := 161 } s m args below meth c H locs 0 0 Q (F0 m 149 ls []) := by
    intro x3 x5 x6 σ H locs ls  hZ hl h1
    unfold FX7_best_b149 at h1
    refine lv_iload_n hx hb dX7_best_149 rfl (lv_at hl 2 rfl) ?_
    refine lv_iconst (v := 1) hx hb dX7_best_150 (by decide) ?_
    refine z_ic_ne (tgt := 187) C0 h1 dX7_best_151 (by decide) (fun h1 => ?_) (fun h1 => ?_)
    · exact J187 x5 x6 _ _ _ _  hZ (lv_sub hl [1, 3, 4] rfl) h1
    refine lv_iload hx hb dX7_best_154 (lv_at hl 4 rfl) ?_
    refine z_if_eq (tgt := 187) C0 h1 dX7_best_156 (by decide) (fun h1 => ?_) (fun h1 => ?_)
    · exact J187 x5 x6 _ _ _ _  hZ (lv_sub hl [1, 3, 4] rfl) h1
    refine lv_aload_n hx hb dX7_best_159 rfl (lv_at hl 0 rfl) ?_
    refine lv_iconst (v := 0) hx hb dX7_best_160 (by decide) ?_
    refine lv_iconst (v := 0) hx hb dX7_best_161 (by decide) ?_
    refine z_cVi (As := [.int 0, .int 0]) (rest := []) C0 hZ h1 (fun _ hf => kX7_costWatched l hk0 hf) mRX7_271 vX7_costWatched hk0 rfl rfl hl.1 (Nat.le_of_ble_eq_true rfl) ⟨Nat.le_of_ble_eq_true rfl, Nat.le_of_ble_eq_true rfl⟩ dX7_best_162 ⟨Nat.le_of_ble_eq_true rfl, Nat.le_of_ble_eq_true rfl⟩ (fun r_4 σ_3 H locs h1 hZ => ?_)
    refine z_istore C0 h1 hl (fun x7_5 => [(7, .int x7_5), (0, .ref (zad V k0)), (2, .int x2), (3, .int x3), (5, .int x5), (6, .int x6)]) dX7_best_165 (by decide) (fun _ => rfl) (fun x7_5 ls h1 hl => ?_)
    refine lv_iload hx hb dX7_best_167 (lv_at hl 5 rfl) ?_
    refine lv_iconst (v := (-1)) hx hb dX7_best_169 (by decide) ?_
    refine z_ic_eq (tgt := 180) C0 h1 dX7_best_170 (by decide) (fun h1 => ?_) (fun h1 => ?_)
    · exact J180 x7_5 _ _ _ _  hZ (lv_sub hl [2, 0] rfl) h1
    refine lv_iload hx hb dX7_best_173 (lv_at hl 0 rfl) ?_
    refine lv_iload hx hb dX7_best_175 (lv_at hl 5 rfl) ?_
    refine z_ic_ge (tgt := 187) C0 h1 dX7_best_177 (by decide) (fun h1 => ?_) (fun h1 => ?_)
    · exact J187 x5 x6 _ _ _ _  hZ (lv_sub hl [2, 4, 5] rfl) h1
    exact J180 x7_5 _ _ _ _  hZ (lv_sub hl [2, 0] rfl) h1
  have J101 : ∀ (n : Nat) (x3 : Int32) (x4 : Int32) (x5 : Int32) (x6 : Int32) (x7 : Int32) (σ : zS) (H : Heap) (locs : List Loc) (ls : Array Slot), zZ 0 V A σ s H locs → lv_has ls 9 [(0, .ref (zad V k0)), (2, .int x2), (3, .int x3), (4, .int x4), (5, .int x5), (6, .int x6), (7, .int x7)] → zit (fun q => FX7_best_L101 k0 x2 x3 x4 q.1 q.2.1 q.2.2.1 q.2.2.2) n (x5, x6, x7, σ) = some t0 → W p l e { frames := 7, cells := 1, slots := 6, locals := 161 } s m args below meth c H locs 0 0 Q (F0 m 101 ls []) := by
    intro n
    induction n with
    | zero => intro x3 x4 x5 x6 x7 σ H locs ls  _ _ h1; cases h1
    | succ n ih101 =>
      intro x3 x4 x5 x6 x7 σ H locs ls  hZ hl h1
      obtain ⟨t1, h1, hz1⟩ := zit_1 h1
      have J143 : ∀ (x5 : Int32) (x6 : Int32) (x7 : Int32) (σ : zS) (H : Heap) (locs : List Loc) (ls : Array Slot), zZ 0 V A σ s H locs → lv_has ls 9 [(0, .ref (zad V k0)), (2, .int x2), (3, .int x3), (4, .int x4), (5, .int x5), (6, .int x6), (7, .int x7)] → FX7_best_b143 k0 x2 x3 x4 x5 x6 x7 σ = some t1 → W p l e { frames := 7, cells := 1, slots := 6, locals := 161 } s m args below meth c H locs 0 0 Q (F0 m 143 ls []) := by
        intro x5 x6 x7 σ H locs ls  hZ hl h1
        unfold FX7_best_b143 at h1
        refine z_iinc (v := 1) C0 h1 hl (fun x7_6 => [(7, .int x7_6), (0, .ref (zad V k0)), (2, .int x2), (3, .int x3), (4, .int x4), (5, .int x5), (6, .int x6)]) dX7_best_143 (k := 6) rfl (by decide) (by decide) (fun _ => rfl) (fun x7_6 ls h1 hl => ?_)
        refine lv_goto (tgt := 101) hx hb dX7_best_146 (by decide) ?_
        exact ih101 x3 x4 x5 x6 x7_6 _ _ _ _  hZ (lv_sub hl [1, 2, 3, 4, 5, 6, 0] rfl) (zback h1 hz1)
      have J135 : ∀ (x7 : Int32) (x8 : Int32) (σ : zS) (H : Heap) (locs : List Loc) (ls : Array Slot), zZ 0 V A σ s H locs → lv_has ls 9 [(0, .ref (zad V k0)), (2, .int x2), (3, .int x3), (4, .int x4), (7, .int x7), (8, .int x8)] → FX7_best_b135 k0 x2 x3 x4 x7 x8 σ = some t1 → W p l e { frames := 7, cells := 1, slots := 6, locals := 161 } s m args below meth c H locs 0 0 Q (F0 m 135 ls []) := by
        intro x7 x8 σ H locs ls  hZ hl h1
        unfold FX7_best_b135 at h1
        refine lv_iload hx hb dX7_best_135 (lv_at hl 4 rfl) ?_
        refine z_istore C0 h1 hl (fun x5_7 => [(5, .int x5_7), (0, .ref (zad V k0)), (2, .int x2), (3, .int x3), (4, .int x4), (7, .int x7), (8, .int x8)]) dX7_best_137 (by decide) (fun _ => rfl) (fun x5_7 ls h1 hl => ?_)
        refine lv_iload hx hb dX7_best_139 (lv_at hl 6 rfl) ?_
        refine z_istore C0 h1 hl (fun x6_8 => [(6, .int x6_8), (5, .int x5_7), (0, .ref (zad V k0)), (2, .int x2), (3, .int x3), (4, .int x4), (7, .int x7), (8, .int x8)]) dX7_best_141 (by decide) (fun _ => rfl) (fun x6_8 ls h1 hl => ?_)
        exact J143 x5_7 x6_8 x7 _ _ _ _  hZ (lv_sub hl [2, 3, 4, 5, 1, 0, 6] rfl) h1
      replace h1 : FX7_best_L101 k0 x2 x3 x4 x5 x6 x7 σ = some t1 := h1
      unfold FX7_best_L101 at h1
      refine lv_iload hx hb dX7_best_101 (lv_at hl 6 rfl) ?_
      refine lv_iload hx hb dX7_best_103 (lv_at hl 3 rfl) ?_
      refine z_ic_ge (tgt := 149) C0 h1 dX7_best_105 (by decide) (fun h1 => ?_) (fun h1 => ?_)
      · have h1 := zout h1 hz1
        exact J149 x3 x5 x6 _ _ _ _  hZ (lv_sub hl [0, 1, 2, 4, 5] rfl) h1
      refine lv_iload hx hb dX7_best_108 (lv_at hl 5 rfl) ?_
      refine z_if_eq (tgt := 149) C0 h1 dX7_best_110 (by decide) (fun h1 => ?_) (fun h1 => ?_)
      · have h1 := zout h1 hz1
        exact J149 x3 x5 x6 _ _ _ _  hZ (lv_sub hl [0, 1, 2, 4, 5] rfl) h1
      refine lv_aload_n hx hb dX7_best_113 rfl (lv_at hl 0 rfl) ?_
      refine lv_iload_n hx hb dX7_best_114 rfl (lv_at hl 2 rfl) ?_
      refine lv_iload hx hb dX7_best_115 (lv_at hl 6 rfl) ?_
      refine z_cVi (As := [.int x3, .int x7]) (rest := []) C0 hZ h1 (fun _ hf => kX7_costWatched l hk0 hf) mRX7_271 vX7_costWatched hk0 rfl rfl hl.1 (Nat.le_of_ble_eq_true rfl) ⟨Nat.le_of_ble_eq_true rfl, Nat.le_of_ble_eq_true rfl⟩ dX7_best_117 ⟨Nat.le_of_ble_eq_true rfl, Nat.le_of_ble_eq_true rfl⟩ (fun r_10 σ_9 H locs h1 hZ => ?_)
      refine z_istore C0 h1 hl (fun x8_11 => [(8, .int x8_11), (0, .ref (zad V k0)), (2, .int x2), (3, .int x3), (4, .int x4), (5, .int x5), (6, .int x6), (7, .int x7)]) dX7_best_120 (by decide) (fun _ => rfl) (fun x8_11 ls h1 hl => ?_)
      refine lv_iload hx hb dX7_best_122 (lv_at hl 6 rfl) ?_
      refine lv_iconst (v := (-1)) hx hb dX7_best_124 (by decide) ?_
      refine z_ic_eq (tgt := 135) C0 h1 dX7_best_125 (by decide) (fun h1 => ?_) (fun h1 => ?_)
      · exact J135 x7 x8_11 _ _ _ _  hZ (lv_sub hl [1, 2, 3, 4, 7, 0] rfl) h1
      refine lv_iload hx hb dX7_best_128 (lv_at hl 0 rfl) ?_
      refine lv_iload hx hb dX7_best_130 (lv_at hl 6 rfl) ?_
      refine z_ic_ge (tgt := 143) C0 h1 dX7_best_132 (by decide) (fun h1 => ?_) (fun h1 => ?_)
      · exact J143 x5 x6 x7 _ _ _ _  hZ (lv_sub hl [1, 2, 3, 4, 5, 6, 7] rfl) h1
      exact J135 x7 x8_11 _ _ _ _  hZ (lv_sub hl [1, 2, 3, 4, 7, 0] rfl) h1
  have J90 : ∀ (x3 : Int32) (y0 : Int32) (σ : zS) (H : Heap) (locs : List Loc) (ls : Array Slot), zZ 0 V A σ s H locs → lv_has ls 9 [(0, .ref (zad V k0)), (2, .int x2), (3, .int x3)] → FX7_best_b90 k0 x2 x3 y0 σ = some t0 → W p l e { frames := 7, cells := 1, slots := 6, locals := 161 } s m args below meth c H locs 0 0 Q (F0 m 90 ls [.int y0]) := by
    intro x3 y0 σ H locs ls  hZ hl h1
    unfold FX7_best_b90 at h1
    refine z_istore C0 h1 hl (fun x4_12 => [(4, .int x4_12), (0, .ref (zad V k0)), (2, .int x2), (3, .int x3)]) dX7_best_90 (by decide) (fun _ => rfl) (fun x4_12 ls h1 hl => ?_)
    refine lv_iconst (v := (-1)) hx hb dX7_best_92 (by decide) ?_
    refine z_istore C0 h1 hl (fun x5_13 => [(5, .int x5_13), (4, .int x4_12), (0, .ref (zad V k0)), (2, .int x2), (3, .int x3)]) dX7_best_93 (by decide) (fun _ => rfl) (fun x5_13 ls h1 hl => ?_)
    refine lv_iconst (v := (-1)) hx hb dX7_best_95 (by decide) ?_
    refine z_istore C0 h1 hl (fun x6_14 => [(6, .int x6_14), (5, .int x5_13), (4, .int x4_12), (0, .ref (zad V k0)), (2, .int x2), (3, .int x3)]) dX7_best_96 (by decide) (fun _ => rfl) (fun x6_14 ls h1 hl => ?_)
    refine lv_iconst (v := 0) hx hb dX7_best_98 (by decide) ?_
    refine z_istore C0 h1 hl (fun x7_15 => [(7, .int x7_15), (6, .int x6_14), (5, .int x5_13), (4, .int x4_12), (0, .ref (zad V k0)), (2, .int x2), (3, .int x3)]) dX7_best_99 (by decide) (fun _ => rfl) (fun x7_15 ls h1 hl => ?_)
    obtain ⟨n, h1⟩ := zlp_iff.mp h1
    exact J101 n x3 x4_12 x5_13 x6_14 x7_15 _ _ _ _  hZ (lv_sub hl [4, 5, 6, 3, 2, 1, 0] rfl) h1
  have J44 : ∀ (y0 : Int32) (σ : zS) (H : Heap) (locs : List Loc) (ls : Array Slot), zZ 0 V A σ s H locs → lv_has ls 9 [(0, .ref (zad V k0)), (1, .int x1), (2, .int x2)] → FX7_best_b44 k0 x1 x2 y0 σ = some t0 → W p l e { frames := 7, cells := 1, slots := 6, locals := 161 } s m args below meth c H locs 0 0 Q (F0 m 44 ls [.int y0]) := by
    intro y0 σ H locs ls  hZ hl h1
    unfold FX7_best_b44 at h1
    refine z_istore_n C0 h1 hl (fun x3_16 => [(3, .int x3_16), (0, .ref (zad V k0)), (1, .int x1), (2, .int x2)]) dX7_best_44 rfl (by decide) (fun _ => rfl) (fun x3_16 ls h1 hl => ?_)
    refine lv_iload_n hx hb dX7_best_45 rfl (lv_at hl 2 rfl) ?_
    refine z_if_ne (tgt := 62) C0 h1 dX7_best_46 (by decide) (fun h1 => ?_) (fun h1 => ?_)
    · refine lv_iload_n hx hb dX7_best_62 rfl (lv_at hl 2 rfl) ?_
      refine lv_iconst (v := 1) hx hb dX7_best_63 (by decide) ?_
      refine z_ic_ne (tgt := 80) C0 h1 dX7_best_64 (by decide) (fun h1 => ?_) (fun h1 => ?_)
      · refine lv_aload_n hx hb dX7_best_80 rfl (lv_at hl 1 rfl) ?_
        refine z_getm C0 hZ h1 hk0 fRX7_19 rfl dX7_best_81 (fun q_17 hq_17 h1 => ?_)
        refine z_getr C0 hZ hq_17 fRX7_127 rfl dX7_best_84 ?_
        refine z_geti C0 hZ (zkt5_2 hq_17) fRX7_131 rfl dX7_best_87 ?_
        exact J90 x3_16 (σ (q_17 + 14) 0) _ _ _ _  hZ (lv_sub hl [1, 3, 0] rfl) h1
      refine lv_aload_n hx hb dX7_best_67 rfl (lv_at hl 1 rfl) ?_
      refine z_getm C0 hZ h1 hk0 fRX7_19 rfl dX7_best_68 (fun q_18 hq_18 h1 => ?_)
      refine z_getr C0 hZ hq_18 fRX7_118 rfl dX7_best_71 ?_
      refine z_geti C0 hZ (zkt5_1 hq_18) fRX7_122 rfl dX7_best_74 ?_
      refine lv_goto (tgt := 90) hx hb dX7_best_77 (by decide) ?_
      exact J90 x3_16 (σ (q_18 + 7) 0) _ _ _ _  hZ (lv_sub hl [1, 3, 0] rfl) h1
    refine lv_aload_n hx hb dX7_best_49 rfl (lv_at hl 1 rfl) ?_
    refine z_getm C0 hZ h1 hk0 fRX7_19 rfl dX7_best_50 (fun q_19 hq_19 h1 => ?_)
    refine z_getr C0 hZ hq_19 fRX7_103 rfl dX7_best_53 ?_
    refine z_geti C0 hZ (zkt5_0 hq_19) fRX7_107 rfl dX7_best_56 ?_
    refine lv_goto (tgt := 90) hx hb dX7_best_59 (by decide) ?_
    exact J90 x3_16 (σ (q_19 + 1) 0) _ _ _ _  hZ (lv_sub hl [1, 3, 0] rfl) h1
  refine lv_iload_n hx hb dX7_best_0 rfl (lv_at hl 1 rfl) ?_
  refine z_if_lt (tgt := 18) C0 h1 dX7_best_1 (by decide) (fun h1 => ?_) (fun h1 => ?_)
  · exact J18  _ _ _ _  hZ (lv_sub hl [] rfl) h1
  refine lv_iload_n hx hb dX7_best_4 rfl (lv_at hl 1 rfl) ?_
  refine lv_iconst (v := 2) hx hb dX7_best_5 (by decide) ?_
  refine z_ic_gt (tgt := 18) C0 h1 dX7_best_6 (by decide) (fun h1 => ?_) (fun h1 => ?_)
  · exact J18  _ _ _ _  hZ (lv_sub hl [] rfl) h1
  refine lv_iload_n hx hb dX7_best_9 rfl (lv_at hl 2 rfl) ?_
  refine z_if_lt (tgt := 18) C0 h1 dX7_best_10 (by decide) (fun h1 => ?_) (fun h1 => ?_)
  · exact J18  _ _ _ _  hZ (lv_sub hl [] rfl) h1
  refine lv_iload_n hx hb dX7_best_13 rfl (lv_at hl 2 rfl) ?_
  refine lv_iconst (v := 1) hx hb dX7_best_14 (by decide) ?_
  refine z_ic_le (tgt := 26) C0 h1 dX7_best_15 (by decide) (fun h1 => ?_) (fun h1 => ?_)
  · refine lv_iload_n hx hb dX7_best_26 rfl (lv_at hl 1 rfl) ?_
    refine z_if_ne (tgt := 34) C0 h1 dX7_best_27 (by decide) (fun h1 => ?_) (fun h1 => ?_)
    · refine lv_iload_n hx hb dX7_best_34 rfl (lv_at hl 1 rfl) ?_
      refine lv_iconst (v := 1) hx hb dX7_best_35 (by decide) ?_
      refine z_ic_ne (tgt := 43) C0 h1 dX7_best_36 (by decide) (fun h1 => ?_) (fun h1 => ?_)
      · refine lv_iconst (v := 1) hx hb dX7_best_43 (by decide) ?_
        exact J44 1 _ _ _ _  hZ (lv_sub hl [0, 1, 2] rfl) h1
      refine lv_iconst (v := 2) hx hb dX7_best_39 (by decide) ?_
      refine lv_goto (tgt := 44) hx hb dX7_best_40 (by decide) ?_
      exact J44 2 _ _ _ _  hZ (lv_sub hl [0, 1, 2] rfl) h1
    refine lv_iconst (v := 3) hx hb dX7_best_30 (by decide) ?_
    refine lv_goto (tgt := 44) hx hb dX7_best_31 (by decide) ?_
    exact J44 3 _ _ _ _  hZ (lv_sub hl [0, 1, 2] rfl) h1
  exact J18  _ _ _ _  hZ (lv_sub hl [] rfl) h1
