noncomputable def FX7_cost_b28 (k0 : Nat) (q0 : Nat) (y1 : Int32) (σ : zS) : Option (Int32 × zS) := zlet (zup σ q0 3 y1) (fun σ_1 => zbd (FX0_run (k0 + 35) σ_1) (fun r_3 σ_2 => some (r_3, σ_2)))
noncomputable def FX7_cost (k0 : Nat) (x1 : Int32) (σ : zS) : Option (Int32 × zS) := zgd (kd 0 (σ k0 2).toNatClampNeg == 5) (zlet (σ k0 2).toNatClampNeg (fun q_4 => zbd (FX0_prepare (k0 + 35) q_4 (k0 + 6) σ) (fun _ σ_5 => if x1 = 0 then FX7_cost_b28 k0 (k0 + 35) 0 σ_5 else FX7_cost_b28 k0 (k0 + 35) 1 σ_5)))
set_option maxHeartbeats 4000000 in
set_option maxRecDepth 100000 in
theorem kX7_cost (l : Launch) {V : zV} {σ : zS} {t0 : Int32 × zS} {k0 : Nat} {x1 : Int32} (hk0 : kd 0 k0 = 7) (h1 : FX7_cost k0 x1 σ = some t0) : zMi l yX7_cost cX7_cost 2 (some .int) 6 139 0 V σ t0 [.ref (zad V k0), .int x1] := by
  refine zMi_of (by decide) (Nat.le_of_ble_eq_true rfl) ?_
  intro p e s m below meth c A C0 hr hlk hZ ls hl
  generalize ([.ref (zad V k0), .int x1] : List Value).toArray = args at C0 ⊢
  obtain ⟨Q, hQ⟩ : ∃ Q, Q = MQ below (zQi 0 V t0 A) args s 0 0 A := ⟨_, rfl⟩
  rw [← hQ]
  have hx := C0.1
  have hb := C0.2.1
  have hl : lv_has ls 2 [(0, .ref (zad V k0)), (1, .int x1)] := hl
  unfold FX7_cost at h1
  have J28 : ∀ (q0 : Nat) (y1 : Int32) (σ : zS) (H : Heap) (locs : List Loc) (ls : Array Slot), kd 0 q0 = 0 → zZ 0 V A σ s H locs → lv_has ls 2 [(0, .ref (zad V k0))] → FX7_cost_b28 k0 q0 y1 σ = some t0 → W p l e (zrm 6 139) s m args below meth c H locs 0 0 Q (F0 m 28 ls [.int y1, .ref (zad V q0)]) := by
    intro q0 y1 σ H locs ls hq0 hZ hl h1
    unfold FX7_cost_b28 at h1
    refine z_puti C0 hZ h1 hq0 fRX7_276 rfl tyX0_ok nmX0 rfl rfl rfl dX7_cost_28 (fun σ_1 H locs h1 hZ => ?_)
    refine lv_aload_n hx hb dX7_cost_31 rfl (lv_at hl 0 rfl) ?_
    refine z_getr C0 hZ hk0 fRX7_53 rfl dX7_cost_32 ?_
    refine z_cVi (As := []) (rest := []) C0 hZ h1 (fun _ hf => kX0_run l (zkt7_8 hk0) hf) mRX7_241 vX0_run (zkt7_8 hk0) rfl rfl hl.1 (Nat.le_of_ble_eq_true rfl) ⟨Nat.le_of_ble_eq_true rfl, Nat.le_of_ble_eq_true rfl⟩ dX7_cost_35 ⟨Nat.le_of_ble_eq_true rfl, Nat.le_of_ble_eq_true rfl⟩ (fun r_3 σ_2 H locs h1 hZ => ?_)
    rw [hQ]; exact z_iret C0 hr hlk hZ h1 dX7_cost_38
  refine lv_aload_n hx hb dX7_cost_0 rfl (lv_at hl 0 rfl) ?_
  refine z_getr C0 hZ hk0 fRX7_53 rfl dX7_cost_1 ?_
  refine lv_aload_n hx hb dX7_cost_4 rfl (lv_at hl 0 rfl) ?_
  refine z_getm C0 hZ h1 hk0 fRX7_19 rfl dX7_cost_5 (fun q_4 hq_4 h1 => ?_)
  refine lv_aload_n hx hb dX7_cost_8 rfl (lv_at hl 0 rfl) ?_
  refine z_getr C0 hZ hk0 fRX7_33 rfl dX7_cost_9 ?_
  refine z_cVv (As := [.ref (zad V q_4), .ref (zad V (k0 + 6))]) (rest := []) C0 hZ h1 (fun _ hf => kX0_prepare l (zkt7_8 hk0) hq_4 (zkt7_4 hk0) hf) mRX7_237 vX0_prepare (zkt7_8 hk0) rfl rfl hl.1 (Nat.le_of_ble_eq_true rfl) ⟨Nat.le_of_ble_eq_true rfl, Nat.le_of_ble_eq_true rfl⟩ dX7_cost_12 ⟨Nat.le_of_ble_eq_true rfl, Nat.le_of_ble_eq_true rfl⟩ (fun _ σ_5 H locs h1 hZ => ?_)
  refine lv_aload_n hx hb dX7_cost_15 rfl (lv_at hl 0 rfl) ?_
  refine z_getr C0 hZ hk0 fRX7_53 rfl dX7_cost_16 ?_
  refine lv_iload_n hx hb dX7_cost_19 rfl (lv_at hl 1 rfl) ?_
  refine z_if_eq (tgt := 27) C0 h1 dX7_cost_20 (by decide) (fun h1 => ?_) (fun h1 => ?_)
  · refine lv_iconst (v := 0) hx hb dX7_cost_27 (by decide) ?_
    exact J28 (k0 + 35) 0 _ _ _ _ (zkt7_8 hk0) hZ (lv_sub hl [0] rfl) h1
  refine lv_iconst (v := 1) hx hb dX7_cost_23 (by decide) ?_
  refine lv_goto (tgt := 28) hx hb dX7_cost_24 (by decide) ?_
  exact J28 (k0 + 35) 1 _ _ _ _ (zkt7_8 hk0) hZ (lv_sub hl [0] rfl) h1
noncomputable def FX7_costMirrored (k0 : Nat) (x1 : Int32) (x2 : Int32) (σ : zS) : Option (Int32 × zS) := zgd (kd 0 (σ k0 2).toNatClampNeg == 5) (zlet (σ k0 2).toNatClampNeg (fun q_1 => zbd (FX0_prepare (k0 + 35) q_1 (k0 + 6) σ) (fun _ σ_2 => zbd (FX7_at ((k0 + 35) + 2) x1 σ_2) (fun r_5 σ_4 => zbd (FX7_bit x2 σ_4) (fun r_7 σ_6 => zbd (FX7_put ((k0 + 35) + 2) x1 (r_5 ||| r_7) σ_6) (fun _ σ_8 => zbd (FX0_run (k0 + 35) σ_8) (fun r_11 σ_10 => some (r_11, σ_10))))))))
set_option maxHeartbeats 4000000 in
set_option maxRecDepth 100000 in
theorem kX7_costMirrored (l : Launch) {V : zV} {σ : zS} {t0 : Int32 × zS} {k0 : Nat} {x1 : Int32} {x2 : Int32} (hk0 : kd 0 k0 = 7) (h1 : FX7_costMirrored k0 x1 x2 σ = some t0) : zMi l yX7_costMirrored cX7_costMirrored 3 (some .int) 6 139 0 V σ t0 [.ref (zad V k0), .int x1, .int x2] := by
  refine zMi_of (by decide) (Nat.le_of_ble_eq_true rfl) ?_
  intro p e s m below meth c A C0 hr hlk hZ ls hl
  generalize ([.ref (zad V k0), .int x1, .int x2] : List Value).toArray = args at C0 ⊢
  obtain ⟨Q, hQ⟩ : ∃ Q, Q = MQ below (zQi 0 V t0 A) args s 0 0 A := ⟨_, rfl⟩
  rw [← hQ]
  have hx := C0.1
  have hb := C0.2.1
  have hl : lv_has ls 3 [(0, .ref (zad V k0)), (1, .int x1), (2, .int x2)] := hl
  unfold FX7_costMirrored at h1
  refine lv_aload_n hx hb dX7_costMirrored_0 rfl (lv_at hl 0 rfl) ?_
  refine z_getr C0 hZ hk0 fRX7_53 rfl dX7_costMirrored_1 ?_
  refine lv_aload_n hx hb dX7_costMirrored_4 rfl (lv_at hl 0 rfl) ?_
  refine z_getm C0 hZ h1 hk0 fRX7_19 rfl dX7_costMirrored_5 (fun q_1 hq_1 h1 => ?_)
  refine lv_aload_n hx hb dX7_costMirrored_8 rfl (lv_at hl 0 rfl) ?_
  refine z_getr C0 hZ hk0 fRX7_33 rfl dX7_costMirrored_9 ?_
  refine z_cVv (As := [.ref (zad V q_1), .ref (zad V (k0 + 6))]) (rest := []) C0 hZ h1 (fun _ hf => kX0_prepare l (zkt7_8 hk0) hq_1 (zkt7_4 hk0) hf) mRX7_237 vX0_prepare (zkt7_8 hk0) rfl rfl hl.1 (Nat.le_of_ble_eq_true rfl) ⟨Nat.le_of_ble_eq_true rfl, Nat.le_of_ble_eq_true rfl⟩ dX7_costMirrored_12 ⟨Nat.le_of_ble_eq_true rfl, Nat.le_of_ble_eq_true rfl⟩ (fun _ σ_2 H locs h1 hZ => ?_)
  refine lv_aload_n hx hb dX7_costMirrored_15 rfl (lv_at hl 0 rfl) ?_
  refine z_getr C0 hZ hk0 fRX7_53 rfl dX7_costMirrored_16 ?_
  refine z_getr C0 hZ (zkt7_8 hk0) fRX7_280 rfl dX7_costMirrored_19 ?_
  refine lv_iload_n hx hb dX7_costMirrored_22 rfl (lv_at hl 1 rfl) ?_
  refine lv_aload_n hx hb dX7_costMirrored_23 rfl (lv_at hl 0 rfl) ?_
  refine z_getr C0 hZ hk0 fRX7_53 rfl dX7_costMirrored_24 ?_
  refine z_getr C0 hZ (zkt7_8 hk0) fRX7_280 rfl dX7_costMirrored_27 ?_
  refine lv_iload_n hx hb dX7_costMirrored_30 rfl (lv_at hl 1 rfl) ?_
  refine z_cSi (As := [.ref (zad V ((k0 + 35) + 2)), .int x1]) (rest := [.int x1, .ref (zad V ((k0 + 35) + 2))]) C0 hZ h1 (fun _ hf => kX7_at l (zkt0_7 (zkt7_8 hk0)) hf) mRX7_167 sX7_at rfl rfl hl.1 (Nat.le_of_ble_eq_true rfl) ⟨Nat.le_of_ble_eq_true rfl, Nat.le_of_ble_eq_true rfl⟩ dX7_costMirrored_31 ⟨Nat.le_of_ble_eq_true rfl, Nat.le_of_ble_eq_true rfl⟩ (fun r_5 σ_4 H locs h1 hZ => ?_)
  refine lv_iload_n hx hb dX7_costMirrored_34 rfl (lv_at hl 2 rfl) ?_
  refine z_cSi (As := [.int x2]) (rest := [.int r_5, .int x1, .ref (zad V ((k0 + 35) + 2))]) C0 hZ h1 (fun _ hf => kX7_bit l  hf) mRX7_231 sX7_bit rfl rfl hl.1 (Nat.le_of_ble_eq_true rfl) ⟨Nat.le_of_ble_eq_true rfl, Nat.le_of_ble_eq_true rfl⟩ dX7_costMirrored_35 ⟨Nat.le_of_ble_eq_true rfl, Nat.le_of_ble_eq_true rfl⟩ (fun r_7 σ_6 H locs h1 hZ => ?_)
  refine lv_ior hx hb dX7_costMirrored_38 ?_
  refine z_cSv (As := [.ref (zad V ((k0 + 35) + 2)), .int x1, .int (r_5 ||| r_7)]) (rest := []) C0 hZ h1 (fun _ hf => kX7_put l (zkt0_7 (zkt7_8 hk0)) hf) mRX7_79 sX7_put rfl rfl hl.1 (Nat.le_of_ble_eq_true rfl) ⟨Nat.le_of_ble_eq_true rfl, Nat.le_of_ble_eq_true rfl⟩ dX7_costMirrored_39 ⟨Nat.le_of_ble_eq_true rfl, Nat.le_of_ble_eq_true rfl⟩ (fun _ σ_8 H locs h1 hZ => ?_)
  refine lv_aload_n hx hb dX7_costMirrored_42 rfl (lv_at hl 0 rfl) ?_
  refine z_getr C0 hZ hk0 fRX7_53 rfl dX7_costMirrored_43 ?_
  refine z_cVi (As := []) (rest := []) C0 hZ h1 (fun _ hf => kX0_run l (zkt7_8 hk0) hf) mRX7_241 vX0_run (zkt7_8 hk0) rfl rfl hl.1 (Nat.le_of_ble_eq_true rfl) ⟨Nat.le_of_ble_eq_true rfl, Nat.le_of_ble_eq_true rfl⟩ dX7_costMirrored_46 ⟨Nat.le_of_ble_eq_true rfl, Nat.le_of_ble_eq_true rfl⟩ (fun r_11 σ_10 H locs h1 hZ => ?_)
  rw [hQ]; exact z_iret C0 hr hlk hZ h1 dX7_costMirrored_49
noncomputable def FX7_glass_b9  (σ : zS) : Option zT3 := some (1, 0, σ)
noncomputable def FX7_glass_b158 (y0 : Int32) (σ : zS) : Option zT3 := some (0, y0, σ)
noncomputable def FX7_glass_b153 (x2 : Int32) (σ : zS) : Option zT3 := FX7_glass_b158 x2 σ
noncomputable def FX7_glass_b144 (x1 : Int32) (x2 : Int32) (x3 : Int32) (σ : zS) : Option zT3 := if x2 = (-1) then FX7_glass_b153 x2 σ else if x1 = 0 then FX7_glass_b153 x2 σ else FX7_glass_b158 x3 σ
noncomputable def FX7_glass_b138 (k0 : Nat) (x1 : Int32) (x2 : Int32) (x3 : Int32) (x4 : Int32) (σ : zS) : Option ((Int32 × Int32 × Int32 × zS) ⊕ zT3) := zlet (x4 + 1) (fun x4_1 => some (.inl (x2, x3, x4_1, σ)))
noncomputable def FX7_glass_b132 (k0 : Nat) (x1 : Int32) (x2 : Int32) (x3 : Int32) (x4 : Int32) (x5 : Int32) (σ : zS) : Option ((Int32 × Int32 × Int32 × zS) ⊕ ((Int32 × Int32 × Int32 × zS) ⊕ zT3)) := zlet (x5 + 1) (fun x5_2 => some (.inl (x2, x3, x5_2, σ)))
noncomputable def FX7_glass_b112 (k0 : Nat) (x1 : Int32) (x2 : Int32) (x3 : Int32) (x4 : Int32) (x5 : Int32) (y0 : Int32) (σ : zS) : Option ((Int32 × Int32 × Int32 × zS) ⊕ ((Int32 × Int32 × Int32 × zS) ⊕ zT3)) := zlet y0 (fun x6_3 => if x3 ≤ x6_3 then FX7_glass_b132 k0 x1 x2 x3 x4 x5 σ else zlet ((10 * x4) + x5) (fun x2_4 => zlet x6_3 (fun x3_5 => FX7_glass_b132 k0 x1 x2_4 x3_5 x4 x5 σ)))
noncomputable def FX7_glass_L70 (k0 : Nat) (x1 : Int32) (x4 : Int32) (x2 : Int32) (x3 : Int32) (x5 : Int32) (σ : zS) : Option ((Int32 × Int32 × Int32 × zS) ⊕ ((Int32 × Int32 × Int32 × zS) ⊕ zT3)) := zgd (kd 0 (σ k0 2).toNatClampNeg == 5) (zlet (σ k0 2).toNatClampNeg (fun q_6 => if (σ (q_6 + 1) 0) ≤ x5 then zinr (FX7_glass_b138 k0 x1 x2 x3 x4 σ) else if x3 = 0 then zinr (FX7_glass_b138 k0 x1 x2 x3 x4 σ) else zbd (FX7_canHang k0 x4 x5 σ) (fun r_8 σ_7 => if r_8 = 0 then FX7_glass_b112 k0 x1 x2 x3 x4 x5 x3 σ_7 else zbd (FX7_costMirrored k0 x4 x5 σ_7) (fun r_10 σ_9 => FX7_glass_b112 k0 x1 x2 x3 x4 x5 r_10 σ_9))))
noncomputable def FX7_glass_L52 (k0 : Nat) (x1 : Int32) (x2 : Int32) (x3 : Int32) (x4 : Int32) (σ : zS) : Option ((Int32 × Int32 × Int32 × zS) ⊕ zT3) := zgd (kd 0 (σ k0 2).toNatClampNeg == 5) (zlet (σ k0 2).toNatClampNeg (fun q_11 => if (σ (q_11 + 1) 0) ≤ x4 then zinr (FX7_glass_b144 x1 x2 x3 σ) else zlet 0 (fun x5_12 => zlp (fun q => FX7_glass_L70 k0 x1 x4 q.1 q.2.1 q.2.2.1 q.2.2.2) (x2, x3, x5_12, σ))))
noncomputable def FX7_glass (k0 : Nat) (x1 : Int32) (σ : zS) : Option zT3 := if x1 < 0 then FX7_glass_b9  σ else if x1 ≤ 1 then if (σ (k0 + 6) 4) < 6 then zbd (FX7_knowToday k0 σ) (fun _ σ_13 => zlet (-1) (fun x2_15 => zbd (FX7_at ((k0 + 24) + 8) 0 σ_13) (fun r_17 σ_16 => zlet r_17 (fun x3_18 => zlet 0 (fun x4_19 => zlp (fun q => FX7_glass_L52 k0 x1 q.1 q.2.1 q.2.2.1 q.2.2.2) (x2_15, x3_18, x4_19, σ_16)))))) else some (0, (-1), σ) else FX7_glass_b9  σ
set_option maxHeartbeats 4000000 in
set_option maxRecDepth 100000 in
theorem kX7_glass (l : Launch) (hfl : l.stackTraces = false) {V : zV} {σ : zS} {t0 : zT3} {k0 : Nat} {x1 : Int32} (hk0 : kd 0 k0 = 7) (h1 : FX7_glass k0 x1 σ = some t0) : zXi l yX7_glass cX7_glass 7 (some .int) 7 161 1 6 0 V σ t0 [.ref (zad V k0), .int x1] := by
  refine zXi_of (by decide) (Nat.le_of_ble_eq_true rfl) ?_
  intro p e s m below meth c A C0 hr hlk hnt hZ ls hl
  generalize ([.ref (zad V k0), .int x1] : List Value).toArray = args at C0 ⊢
  obtain ⟨Q, hQ⟩ : ∃ Q, Q = vx_MQ below (zxQ 0 V t0 A) (zxX 0 V t0 A) args s 1 6 A := ⟨_, rfl⟩
  rw [← hQ]
  have hx := C0.1
  have hb := C0.2.1
  have hl : lv_has ls 7 [(0, .ref (zad V k0)), (1, .int x1)] := hl
  unfold FX7_glass at h1
  have J9 : ∀  (σ : zS) (H : Heap) (locs : List Loc) (ls : Array Slot), zZ 0 V A σ s H locs → lv_has ls 7 [] → FX7_glass_b9  σ = some t0 → W p l e { frames := 7, cells := 1, slots := 6, locals := 161 } s m args below meth c H locs 0 0 Q (F0 m 9 ls []) := by
    intro  σ H locs ls  hZ hl h1
    unfold FX7_glass_b9 at h1
    rw [hQ]; exact z_throw (n := 0) C0 hfl hnt hl.1 hlk hZ h1 xxRX7_171 dX7_glass_9 dX7_glass_12 dX7_glass_13 dX7_glass_16 ⟨Nat.le_of_ble_eq_true rfl, Nat.le_of_ble_eq_true rfl, Nat.le_of_ble_eq_true rfl, Nat.le_of_ble_eq_true rfl⟩ ⟨Nat.le_of_ble_eq_true rfl, Nat.le_of_ble_eq_true rfl⟩
  have J158 : ∀ (y0 : Int32) (σ : zS) (H : Heap) (locs : List Loc) (ls : Array Slot), zZ 0 V A σ s H locs → lv_has ls 7 [] → FX7_glass_b158 y0 σ = some t0 → W p l e { frames := 7, cells := 1, slots := 6, locals := 161 } s m args below meth c H locs 0 0 Q (F0 m 158 ls [.int y0]) := by
    intro y0 σ H locs ls  hZ hl h1
    unfold FX7_glass_b158 at h1
    rw [hQ]; exact z_xiret C0 hr hlk hZ h1 ⟨Nat.le_of_ble_eq_true rfl, Nat.le_of_ble_eq_true rfl⟩ dX7_glass_158
  have J153 : ∀ (x2 : Int32) (σ : zS) (H : Heap) (locs : List Loc) (ls : Array Slot), zZ 0 V A σ s H locs → lv_has ls 7 [(2, .int x2)] → FX7_glass_b153 x2 σ = some t0 → W p l e { frames := 7, cells := 1, slots := 6, locals := 161 } s m args below meth c H locs 0 0 Q (F0 m 153 ls []) := by
    intro x2 σ H locs ls  hZ hl h1
    unfold FX7_glass_b153 at h1
    refine lv_iload_n hx hb dX7_glass_153 rfl (lv_at hl 0 rfl) ?_
    refine lv_goto (tgt := 158) hx hb dX7_glass_154 (by decide) ?_
    exact J158 x2 _ _ _ _  hZ (lv_sub hl [] rfl) h1
  have J144 : ∀ (x2 : Int32) (x3 : Int32) (σ : zS) (H : Heap) (locs : List Loc) (ls : Array Slot), zZ 0 V A σ s H locs → lv_has ls 7 [(1, .int x1), (2, .int x2), (3, .int x3)] → FX7_glass_b144 x1 x2 x3 σ = some t0 → W p l e { frames := 7, cells := 1, slots := 6, locals := 161 } s m args below meth c H locs 0 0 Q (F0 m 144 ls []) := by
    intro x2 x3 σ H locs ls  hZ hl h1
    unfold FX7_glass_b144 at h1
    refine lv_iload_n hx hb dX7_glass_144 rfl (lv_at hl 1 rfl) ?_
    refine lv_iconst (v := (-1)) hx hb dX7_glass_145 (by decide) ?_
    refine z_ic_eq (tgt := 153) C0 h1 dX7_glass_146 (by decide) (fun h1 => ?_) (fun h1 => ?_)
    · exact J153 x2 _ _ _ _  hZ (lv_sub hl [1] rfl) h1
    refine lv_iload_n hx hb dX7_glass_149 rfl (lv_at hl 0 rfl) ?_
    refine z_if_ne (tgt := 157) C0 h1 dX7_glass_150 (by decide) (fun h1 => ?_) (fun h1 => ?_)
    · refine lv_iload_n hx hb dX7_glass_157 rfl (lv_at hl 2 rfl) ?_
      exact J158 x3 _ _ _ _  hZ (lv_sub hl [] rfl) h1
    exact J153 x2 _ _ _ _  hZ (lv_sub hl [1] rfl) h1
  have J52 : ∀ (n : Nat) (x2 : Int32) (x3 : Int32) (x4 : Int32) (σ : zS) (H : Heap) (locs : List Loc) (ls : Array Slot), zZ 0 V A σ s H locs → lv_has ls 7 [(0, .ref (zad V k0)), (1, .int x1), (2, .int x2), (3, .int x3), (4, .int x4)] → zit (fun q => FX7_glass_L52 k0 x1 q.1 q.2.1 q.2.2.1 q.2.2.2) n (x2, x3, x4, σ) = some t0 → W p l e { frames := 7, cells := 1, slots := 6, locals := 161 } s m args below meth c H locs 0 0 Q (F0 m 52 ls []) := by
    intro n
    induction n with
    | zero => intro x2 x3 x4 σ H locs ls  _ _ h1; cases h1
    | succ n ih52 =>
      intro x2 x3 x4 σ H locs ls  hZ hl h1
      obtain ⟨t1, h1, hz1⟩ := zit_1 h1
      have J138 : ∀ (x2 : Int32) (x3 : Int32) (x4 : Int32) (σ : zS) (H : Heap) (locs : List Loc) (ls : Array Slot), zZ 0 V A σ s H locs → lv_has ls 7 [(0, .ref (zad V k0)), (1, .int x1), (2, .int x2), (3, .int x3), (4, .int x4)] → FX7_glass_b138 k0 x1 x2 x3 x4 σ = some t1 → W p l e { frames := 7, cells := 1, slots := 6, locals := 161 } s m args below meth c H locs 0 0 Q (F0 m 138 ls []) := by
        intro x2 x3 x4 σ H locs ls  hZ hl h1
        unfold FX7_glass_b138 at h1
        refine z_iinc (v := 1) C0 h1 hl (fun x4_1 => [(4, .int x4_1), (0, .ref (zad V k0)), (1, .int x1), (2, .int x2), (3, .int x3)]) dX7_glass_138 (k := 4) rfl (by decide) (by decide) (fun _ => rfl) (fun x4_1 ls h1 hl => ?_)
        refine lv_goto (tgt := 52) hx hb dX7_glass_141 (by decide) ?_
        exact ih52 x2 x3 x4_1 _ _ _ _  hZ (lv_sub hl [1, 2, 3, 4, 0] rfl) (zback h1 hz1)
      have J70 : ∀ (n : Nat) (x2 : Int32) (x3 : Int32) (x4 : Int32) (x5 : Int32) (σ : zS) (H : Heap) (locs : List Loc) (ls : Array Slot), zZ 0 V A σ s H locs → lv_has ls 7 [(0, .ref (zad V k0)), (1, .int x1), (2, .int x2), (3, .int x3), (4, .int x4), (5, .int x5)] → zit (fun q => FX7_glass_L70 k0 x1 x4 q.1 q.2.1 q.2.2.1 q.2.2.2) n (x2, x3, x5, σ) = some t1 → W p l e { frames := 7, cells := 1, slots := 6, locals := 161 } s m args below meth c H locs 0 0 Q (F0 m 70 ls []) := by
        intro n
        induction n with
        | zero => intro x2 x3 x4 x5 σ H locs ls  _ _ h1; cases h1
        | succ n ih70 =>
          intro x2 x3 x4 x5 σ H locs ls  hZ hl h1
          obtain ⟨t2, h1, hz2⟩ := zit_1 h1
          have J132 : ∀ (x2 : Int32) (x3 : Int32) (x5 : Int32) (σ : zS) (H : Heap) (locs : List Loc) (ls : Array Slot), zZ 0 V A σ s H locs → lv_has ls 7 [(0, .ref (zad V k0)), (1, .int x1), (2, .int x2), (3, .int x3), (4, .int x4), (5, .int x5)] → FX7_glass_b132 k0 x1 x2 x3 x4 x5 σ = some t2 → W p l e { frames := 7, cells := 1, slots := 6, locals := 161 } s m args below meth c H locs 0 0 Q (F0 m 132 ls []) := by
            intro x2 x3 x5 σ H locs ls  hZ hl h1
            unfold FX7_glass_b132 at h1
            refine z_iinc (v := 1) C0 h1 hl (fun x5_2 => [(5, .int x5_2), (0, .ref (zad V k0)), (1, .int x1), (2, .int x2), (3, .int x3), (4, .int x4)]) dX7_glass_132 (k := 5) rfl (by decide) (by decide) (fun _ => rfl) (fun x5_2 ls h1 hl => ?_)
            refine lv_goto (tgt := 70) hx hb dX7_glass_135 (by decide) ?_
            exact ih70 x2 x3 x4 x5_2 _ _ _ _  hZ (lv_sub hl [1, 2, 3, 4, 5, 0] rfl) (zback h1 hz2)
          have J112 : ∀ (x2 : Int32) (x3 : Int32) (x5 : Int32) (y0 : Int32) (σ : zS) (H : Heap) (locs : List Loc) (ls : Array Slot), zZ 0 V A σ s H locs → lv_has ls 7 [(0, .ref (zad V k0)), (1, .int x1), (2, .int x2), (3, .int x3), (4, .int x4), (5, .int x5)] → FX7_glass_b112 k0 x1 x2 x3 x4 x5 y0 σ = some t2 → W p l e { frames := 7, cells := 1, slots := 6, locals := 161 } s m args below meth c H locs 0 0 Q (F0 m 112 ls [.int y0]) := by
            intro x2 x3 x5 y0 σ H locs ls  hZ hl h1
            unfold FX7_glass_b112 at h1
            refine z_istore C0 h1 hl (fun x6_3 => [(6, .int x6_3), (0, .ref (zad V k0)), (1, .int x1), (2, .int x2), (3, .int x3), (4, .int x4), (5, .int x5)]) dX7_glass_112 (by decide) (fun _ => rfl) (fun x6_3 ls h1 hl => ?_)
            refine lv_iload hx hb dX7_glass_114 (lv_at hl 0 rfl) ?_
            refine lv_iload_n hx hb dX7_glass_116 rfl (lv_at hl 4 rfl) ?_
            refine z_ic_ge (tgt := 132) C0 h1 dX7_glass_117 (by decide) (fun h1 => ?_) (fun h1 => ?_)
            · exact J132 x2 x3 x5 _ _ _ _  hZ (lv_sub hl [1, 2, 3, 4, 5, 6] rfl) h1
            refine lv_bipush (v := 10) hx hb dX7_glass_120 (by decide) ?_
            refine lv_iload hx hb dX7_glass_122 (lv_at hl 5 rfl) ?_
            refine lv_imul hx hb dX7_glass_124 ?_
            refine lv_iload hx hb dX7_glass_125 (lv_at hl 6 rfl) ?_
            refine lv_iadd hx hb dX7_glass_127 ?_
            refine z_istore_n C0 h1 hl (fun x2_4 => [(2, .int x2_4), (6, .int x6_3), (0, .ref (zad V k0)), (1, .int x1), (3, .int x3), (4, .int x4), (5, .int x5)]) dX7_glass_128 rfl (by decide) (fun _ => rfl) (fun x2_4 ls h1 hl => ?_)
            refine lv_iload hx hb dX7_glass_129 (lv_at hl 1 rfl) ?_
            refine z_istore_n C0 h1 hl (fun x3_5 => [(3, .int x3_5), (2, .int x2_4), (6, .int x6_3), (0, .ref (zad V k0)), (1, .int x1), (4, .int x4), (5, .int x5)]) dX7_glass_131 rfl (by decide) (fun _ => rfl) (fun x3_5 ls h1 hl => ?_)
            exact J132 x2_4 x3_5 x5 _ _ _ _  hZ (lv_sub hl [3, 4, 1, 0, 5, 6] rfl) h1
          replace h1 : FX7_glass_L70 k0 x1 x4 x2 x3 x5 σ = some t2 := h1
          unfold FX7_glass_L70 at h1
          refine lv_iload hx hb dX7_glass_70 (lv_at hl 5 rfl) ?_
          refine lv_aload_n hx hb dX7_glass_72 rfl (lv_at hl 0 rfl) ?_
          refine z_getm C0 hZ h1 hk0 fRX7_19 rfl dX7_glass_73 (fun q_6 hq_6 h1 => ?_)
          refine z_getr C0 hZ hq_6 fRX7_103 rfl dX7_glass_76 ?_
          refine z_geti C0 hZ (zkt5_0 hq_6) fRX7_107 rfl dX7_glass_79 ?_
          refine z_ic_ge (tgt := 138) C0 h1 dX7_glass_82 (by decide) (fun h1 => ?_) (fun h1 => ?_)
          · have h1 := zout h1 hz2
            exact J138 x2 x3 x4 _ _ _ _  hZ (lv_sub hl [0, 1, 2, 3, 4] rfl) h1
          refine lv_iload_n hx hb dX7_glass_85 rfl (lv_at hl 3 rfl) ?_
          refine z_if_eq (tgt := 138) C0 h1 dX7_glass_86 (by decide) (fun h1 => ?_) (fun h1 => ?_)
          · have h1 := zout h1 hz2
            exact J138 x2 x3 x4 _ _ _ _  hZ (lv_sub hl [0, 1, 2, 3, 4] rfl) h1
          refine lv_aload_n hx hb dX7_glass_89 rfl (lv_at hl 0 rfl) ?_
          refine lv_iload hx hb dX7_glass_90 (lv_at hl 4 rfl) ?_
          refine lv_iload hx hb dX7_glass_92 (lv_at hl 5 rfl) ?_
          refine z_cVi (As := [.int x4, .int x5]) (rest := []) C0 hZ h1 (fun _ hf => kX7_canHang l hk0 hf) mRX7_228 vX7_canHang hk0 rfl rfl hl.1 (Nat.le_of_ble_eq_true rfl) ⟨Nat.le_of_ble_eq_true rfl, Nat.le_of_ble_eq_true rfl⟩ dX7_glass_94 ⟨Nat.le_of_ble_eq_true rfl, Nat.le_of_ble_eq_true rfl⟩ (fun r_8 σ_7 H locs h1 hZ => ?_)
          refine z_if_eq (tgt := 111) C0 h1 dX7_glass_97 (by decide) (fun h1 => ?_) (fun h1 => ?_)
          · refine lv_iload_n hx hb dX7_glass_111 rfl (lv_at hl 3 rfl) ?_
            exact J112 x2 x3 x5 x3 _ _ _ _  hZ (lv_sub hl [0, 1, 2, 3, 4, 5] rfl) h1
          refine lv_aload_n hx hb dX7_glass_100 rfl (lv_at hl 0 rfl) ?_
          refine lv_iload hx hb dX7_glass_101 (lv_at hl 4 rfl) ?_
          refine lv_iload hx hb dX7_glass_103 (lv_at hl 5 rfl) ?_
          refine z_cVi (As := [.int x4, .int x5]) (rest := []) C0 hZ h1 (fun _ hf => kX7_costMirrored l hk0 hf) mRX7_277 vX7_costMirrored hk0 rfl rfl hl.1 (Nat.le_of_ble_eq_true rfl) ⟨Nat.le_of_ble_eq_true rfl, Nat.le_of_ble_eq_true rfl⟩ dX7_glass_105 ⟨Nat.le_of_ble_eq_true rfl, Nat.le_of_ble_eq_true rfl⟩ (fun r_10 σ_9 H locs h1 hZ => ?_)
          refine lv_goto (tgt := 112) hx hb dX7_glass_108 (by decide) ?_
          exact J112 x2 x3 x5 r_10 _ _ _ _  hZ (lv_sub hl [0, 1, 2, 3, 4, 5] rfl) h1
      replace h1 : FX7_glass_L52 k0 x1 x2 x3 x4 σ = some t1 := h1
      unfold FX7_glass_L52 at h1
      refine lv_iload hx hb dX7_glass_52 (lv_at hl 4 rfl) ?_
      refine lv_aload_n hx hb dX7_glass_54 rfl (lv_at hl 0 rfl) ?_
      refine z_getm C0 hZ h1 hk0 fRX7_19 rfl dX7_glass_55 (fun q_11 hq_11 h1 => ?_)
      refine z_getr C0 hZ hq_11 fRX7_103 rfl dX7_glass_58 ?_
      refine z_geti C0 hZ (zkt5_0 hq_11) fRX7_107 rfl dX7_glass_61 ?_
      refine z_ic_ge (tgt := 144) C0 h1 dX7_glass_64 (by decide) (fun h1 => ?_) (fun h1 => ?_)
      · have h1 := zout h1 hz1
        exact J144 x2 x3 _ _ _ _  hZ (lv_sub hl [1, 2, 3] rfl) h1
      refine lv_iconst (v := 0) hx hb dX7_glass_67 (by decide) ?_
      refine z_istore C0 h1 hl (fun x5_12 => [(5, .int x5_12), (0, .ref (zad V k0)), (1, .int x1), (2, .int x2), (3, .int x3), (4, .int x4)]) dX7_glass_68 (by decide) (fun _ => rfl) (fun x5_12 ls h1 hl => ?_)
      obtain ⟨n, h1⟩ := zlp_iff.mp h1
      exact J70 n x2 x3 x4 x5_12 _ _ _ _  hZ (lv_sub hl [1, 2, 3, 4, 5, 0] rfl) h1
  refine lv_iload_n hx hb dX7_glass_0 rfl (lv_at hl 1 rfl) ?_
  refine z_if_lt (tgt := 9) C0 h1 dX7_glass_1 (by decide) (fun h1 => ?_) (fun h1 => ?_)
  · exact J9  _ _ _ _  hZ (lv_sub hl [] rfl) h1
  refine lv_iload_n hx hb dX7_glass_4 rfl (lv_at hl 1 rfl) ?_
  refine lv_iconst (v := 1) hx hb dX7_glass_5 (by decide) ?_
  refine z_ic_le (tgt := 17) C0 h1 dX7_glass_6 (by decide) (fun h1 => ?_) (fun h1 => ?_)
  · refine lv_aload_n hx hb dX7_glass_17 rfl (lv_at hl 0 rfl) ?_
    refine z_getr C0 hZ hk0 fRX7_33 rfl dX7_glass_18 ?_
    refine z_geti C0 hZ (zkt7_4 hk0) fRX7_115 rfl dX7_glass_21 ?_
    refine lv_bipush (v := 6) hx hb dX7_glass_24 (by decide) ?_
    refine z_ic_lt (tgt := 31) C0 h1 dX7_glass_26 (by decide) (fun h1 => ?_) (fun h1 => ?_)
    · refine lv_aload_n hx hb dX7_glass_31 rfl (lv_at hl 0 rfl) ?_
      refine z_cVv (As := []) (rest := []) C0 hZ h1 (fun _ hf => kX7_knowToday l hk0 hf) mRX7_253 vX7_knowToday hk0 rfl rfl hl.1 (Nat.le_of_ble_eq_true rfl) ⟨Nat.le_of_ble_eq_true rfl, Nat.le_of_ble_eq_true rfl⟩ dX7_glass_32 ⟨Nat.le_of_ble_eq_true rfl, Nat.le_of_ble_eq_true rfl⟩ (fun _ σ_13 H locs h1 hZ => ?_)
      refine lv_iconst (v := (-1)) hx hb dX7_glass_35 (by decide) ?_
      refine z_istore_n C0 h1 hl (fun x2_15 => [(2, .int x2_15), (0, .ref (zad V k0)), (1, .int x1)]) dX7_glass_36 rfl (by decide) (fun _ => rfl) (fun x2_15 ls h1 hl => ?_)
      refine lv_aload_n hx hb dX7_glass_37 rfl (lv_at hl 1 rfl) ?_
      refine z_getr C0 hZ hk0 fRX7_49 rfl dX7_glass_38 ?_
      refine z_getr C0 hZ (zkt7_7 hk0) fRX7_256 rfl dX7_glass_41 ?_
      refine lv_iconst (v := 0) hx hb dX7_glass_44 (by decide) ?_
      refine z_cSi (As := [.ref (zad V ((k0 + 24) + 8)), .int 0]) (rest := []) C0 hZ h1 (fun _ hf => kX7_at l (zkt0_15 (zkt7_7 hk0)) hf) mRX7_167 sX7_at rfl rfl hl.1 (Nat.le_of_ble_eq_true rfl) ⟨Nat.le_of_ble_eq_true rfl, Nat.le_of_ble_eq_true rfl⟩ dX7_glass_45 ⟨Nat.le_of_ble_eq_true rfl, Nat.le_of_ble_eq_true rfl⟩ (fun r_17 σ_16 H locs h1 hZ => ?_)
      refine z_istore_n C0 h1 hl (fun x3_18 => [(3, .int x3_18), (2, .int x2_15), (0, .ref (zad V k0)), (1, .int x1)]) dX7_glass_48 rfl (by decide) (fun _ => rfl) (fun x3_18 ls h1 hl => ?_)
      refine lv_iconst (v := 0) hx hb dX7_glass_49 (by decide) ?_
      refine z_istore C0 h1 hl (fun x4_19 => [(4, .int x4_19), (3, .int x3_18), (2, .int x2_15), (0, .ref (zad V k0)), (1, .int x1)]) dX7_glass_50 (by decide) (fun _ => rfl) (fun x4_19 ls h1 hl => ?_)
      obtain ⟨n, h1⟩ := zlp_iff.mp h1
      exact J52 n x2_15 x3_18 x4_19 _ _ _ _  hZ (lv_sub hl [3, 4, 2, 1, 0] rfl) h1
    refine lv_iconst (v := (-1)) hx hb dX7_glass_29 (by decide) ?_
    rw [hQ]; exact z_xiret C0 hr hlk hZ h1 ⟨Nat.le_of_ble_eq_true rfl, Nat.le_of_ble_eq_true rfl⟩ dX7_glass_30
  exact J9  _ _ _ _  hZ (lv_sub hl [] rfl) h1
noncomputable def FX7_costLaid_b60 (k0 : Nat) (σ : zS) : Option (Int32 × zS) := zbd (FX0_run (k0 + 35) σ) (fun r_2 σ_1 => some (r_2, σ_1))
noncomputable def FX7_costLaid_L17 (k0 : Nat) (x1 : Int32) (x2 : Int32) (σ : zS) : Option ((Int32 × zS) ⊕ (Int32 × zS)) := if x1 ≤ x2 then zinr (FX7_costLaid_b60 k0 σ) else zgd (kd 0 (σ k0 2).toNatClampNeg == 5) (zlet (σ k0 2).toNatClampNeg (fun q_3 => zbd (FX7_at (k0 + 1) x2 σ) (fun r_5 σ_4 => zbd (FX7_at ((q_3 + 1) + 1) r_5 σ_4) (fun r_7 σ_6 => zbd (FX7_put ((k0 + 35) + 1) x2 r_7 σ_6) (fun _ σ_8 => zlet (x2 + 1) (fun x2_10 => some (.inl (x2_10, σ_8))))))))
noncomputable def FX7_costLaid (k0 : Nat) (x1 : Int32) (σ : zS) : Option (Int32 × zS) := zgd (kd 0 (σ k0 2).toNatClampNeg == 5) (zlet (σ k0 2).toNatClampNeg (fun q_11 => zbd (FX0_prepare (k0 + 35) q_11 (k0 + 6) σ) (fun _ σ_12 => zlet 0 (fun x2_14 => zlp (fun q => FX7_costLaid_L17 k0 x1 q.1 q.2) (x2_14, σ_12)))))
set_option maxHeartbeats 4000000 in
set_option maxRecDepth 100000 in
theorem kX7_costLaid (l : Launch) {V : zV} {σ : zS} {t0 : Int32 × zS} {k0 : Nat} {x1 : Int32} (hk0 : kd 0 k0 = 7) (h1 : FX7_costLaid k0 x1 σ = some t0) : zMi l yX7_costLaid cX7_costLaid 3 (some .int) 6 139 0 V σ t0 [.ref (zad V k0), .int x1] := by
  refine zMi_of (by decide) (Nat.le_of_ble_eq_true rfl) ?_
  intro p e s m below meth c A C0 hr hlk hZ ls hl
  generalize ([.ref (zad V k0), .int x1] : List Value).toArray = args at C0 ⊢
  obtain ⟨Q, hQ⟩ : ∃ Q, Q = MQ below (zQi 0 V t0 A) args s 0 0 A := ⟨_, rfl⟩
  rw [← hQ]
  have hx := C0.1
  have hb := C0.2.1
  have hl : lv_has ls 3 [(0, .ref (zad V k0)), (1, .int x1)] := hl
  unfold FX7_costLaid at h1
  have J60 : ∀  (σ : zS) (H : Heap) (locs : List Loc) (ls : Array Slot), zZ 0 V A σ s H locs → lv_has ls 3 [(0, .ref (zad V k0))] → FX7_costLaid_b60 k0 σ = some t0 → W p l e (zrm 6 139) s m args below meth c H locs 0 0 Q (F0 m 60 ls []) := by
    intro  σ H locs ls  hZ hl h1
    unfold FX7_costLaid_b60 at h1
    refine lv_aload_n hx hb dX7_costLaid_60 rfl (lv_at hl 0 rfl) ?_
    refine z_getr C0 hZ hk0 fRX7_53 rfl dX7_costLaid_61 ?_
    refine z_cVi (As := []) (rest := []) C0 hZ h1 (fun _ hf => kX0_run l (zkt7_8 hk0) hf) mRX7_241 vX0_run (zkt7_8 hk0) rfl rfl hl.1 (Nat.le_of_ble_eq_true rfl) ⟨Nat.le_of_ble_eq_true rfl, Nat.le_of_ble_eq_true rfl⟩ dX7_costLaid_64 ⟨Nat.le_of_ble_eq_true rfl, Nat.le_of_ble_eq_true rfl⟩ (fun r_2 σ_1 H locs h1 hZ => ?_)
    rw [hQ]; exact z_iret C0 hr hlk hZ h1 dX7_costLaid_67
  have J17 : ∀ (n : Nat) (x2 : Int32) (σ : zS) (H : Heap) (locs : List Loc) (ls : Array Slot), zZ 0 V A σ s H locs → lv_has ls 3 [(0, .ref (zad V k0)), (1, .int x1), (2, .int x2)] → zit (fun q => FX7_costLaid_L17 k0 x1 q.1 q.2) n (x2, σ) = some t0 → W p l e (zrm 6 139) s m args below meth c H locs 0 0 Q (F0 m 17 ls []) := by
    intro n
    induction n with
    | zero => intro x2 σ H locs ls  _ _ h1; cases h1
    | succ n ih17 =>
      intro x2 σ H locs ls  hZ hl h1
      obtain ⟨t1, h1, hz1⟩ := zit_1 h1
      replace h1 : FX7_costLaid_L17 k0 x1 x2 σ = some t1 := h1
      unfold FX7_costLaid_L17 at h1
      refine lv_iload_n hx hb dX7_costLaid_17 rfl (lv_at hl 2 rfl) ?_
      refine lv_iload_n hx hb dX7_costLaid_18 rfl (lv_at hl 1 rfl) ?_
      refine z_ic_ge (tgt := 60) C0 h1 dX7_costLaid_19 (by decide) (fun h1 => ?_) (fun h1 => ?_)
      · have h1 := zout h1 hz1
        exact J60  _ _ _ _  hZ (lv_sub hl [0] rfl) h1
      refine lv_aload_n hx hb dX7_costLaid_22 rfl (lv_at hl 0 rfl) ?_
      refine z_getr C0 hZ hk0 fRX7_53 rfl dX7_costLaid_23 ?_
      refine z_getr C0 hZ (zkt7_8 hk0) fRX7_288 rfl dX7_costLaid_26 ?_
      refine lv_iload_n hx hb dX7_costLaid_29 rfl (lv_at hl 2 rfl) ?_
      refine lv_aload_n hx hb dX7_costLaid_30 rfl (lv_at hl 0 rfl) ?_
      refine z_getm C0 hZ h1 hk0 fRX7_19 rfl dX7_costLaid_31 (fun q_3 hq_3 h1 => ?_)
      refine z_getr C0 hZ hq_3 fRX7_103 rfl dX7_costLaid_34 ?_
      refine z_getr C0 hZ (zkt5_0 hq_3) fRX7_177 rfl dX7_costLaid_37 ?_
      refine lv_aload_n hx hb dX7_costLaid_40 rfl (lv_at hl 0 rfl) ?_
      refine z_getr C0 hZ hk0 fRX7_59 rfl dX7_costLaid_41 ?_
      refine lv_iload_n hx hb dX7_costLaid_44 rfl (lv_at hl 2 rfl) ?_
      refine z_cSi (As := [.ref (zad V (k0 + 1)), .int x2]) (rest := [.ref (zad V ((q_3 + 1) + 1)), .int x2, .ref (zad V ((k0 + 35) + 1))]) C0 hZ h1 (fun _ hf => kX7_at l (zkt7_10 hk0) hf) mRX7_167 sX7_at rfl rfl hl.1 (Nat.le_of_ble_eq_true rfl) ⟨Nat.le_of_ble_eq_true rfl, Nat.le_of_ble_eq_true rfl⟩ dX7_costLaid_45 ⟨Nat.le_of_ble_eq_true rfl, Nat.le_of_ble_eq_true rfl⟩ (fun r_5 σ_4 H locs h1 hZ => ?_)
      refine z_cSi (As := [.ref (zad V ((q_3 + 1) + 1)), .int r_5]) (rest := [.int x2, .ref (zad V ((k0 + 35) + 1))]) C0 hZ h1 (fun _ hf => kX7_at l (zkt1_3 (zkt5_0 hq_3)) hf) mRX7_167 sX7_at rfl rfl hl.1 (Nat.le_of_ble_eq_true rfl) ⟨Nat.le_of_ble_eq_true rfl, Nat.le_of_ble_eq_true rfl⟩ dX7_costLaid_48 ⟨Nat.le_of_ble_eq_true rfl, Nat.le_of_ble_eq_true rfl⟩ (fun r_7 σ_6 H locs h1 hZ => ?_)
      refine z_cSv (As := [.ref (zad V ((k0 + 35) + 1)), .int x2, .int r_7]) (rest := []) C0 hZ h1 (fun _ hf => kX7_put l (zkt0_6 (zkt7_8 hk0)) hf) mRX7_79 sX7_put rfl rfl hl.1 (Nat.le_of_ble_eq_true rfl) ⟨Nat.le_of_ble_eq_true rfl, Nat.le_of_ble_eq_true rfl⟩ dX7_costLaid_51 ⟨Nat.le_of_ble_eq_true rfl, Nat.le_of_ble_eq_true rfl⟩ (fun _ σ_8 H locs h1 hZ => ?_)
      refine z_iinc (v := 1) C0 h1 hl (fun x2_10 => [(2, .int x2_10), (0, .ref (zad V k0)), (1, .int x1)]) dX7_costLaid_54 (k := 2) rfl (by decide) (by decide) (fun _ => rfl) (fun x2_10 ls h1 hl => ?_)
      refine lv_goto (tgt := 17) hx hb dX7_costLaid_57 (by decide) ?_
      exact ih17 x2_10 _ _ _ _  hZ (lv_sub hl [1, 2, 0] rfl) (zback h1 hz1)
  refine lv_aload_n hx hb dX7_costLaid_0 rfl (lv_at hl 0 rfl) ?_
  refine z_getr C0 hZ hk0 fRX7_53 rfl dX7_costLaid_1 ?_
  refine lv_aload_n hx hb dX7_costLaid_4 rfl (lv_at hl 0 rfl) ?_
  refine z_getm C0 hZ h1 hk0 fRX7_19 rfl dX7_costLaid_5 (fun q_11 hq_11 h1 => ?_)
  refine lv_aload_n hx hb dX7_costLaid_8 rfl (lv_at hl 0 rfl) ?_
  refine z_getr C0 hZ hk0 fRX7_33 rfl dX7_costLaid_9 ?_
  refine z_cVv (As := [.ref (zad V q_11), .ref (zad V (k0 + 6))]) (rest := []) C0 hZ h1 (fun _ hf => kX0_prepare l (zkt7_8 hk0) hq_11 (zkt7_4 hk0) hf) mRX7_237 vX0_prepare (zkt7_8 hk0) rfl rfl hl.1 (Nat.le_of_ble_eq_true rfl) ⟨Nat.le_of_ble_eq_true rfl, Nat.le_of_ble_eq_true rfl⟩ dX7_costLaid_12 ⟨Nat.le_of_ble_eq_true rfl, Nat.le_of_ble_eq_true rfl⟩ (fun _ σ_12 H locs h1 hZ => ?_)
  refine lv_iconst (v := 0) hx hb dX7_costLaid_15 (by decide) ?_
  refine z_istore_n C0 h1 hl (fun x2_14 => [(2, .int x2_14), (0, .ref (zad V k0)), (1, .int x1)]) dX7_costLaid_16 rfl (by decide) (fun _ => rfl) (fun x2_14 ls h1 hl => ?_)
  obtain ⟨n, h1⟩ := zlp_iff.mp h1
  exact J17 n x2_14 _ _ _ _  hZ (lv_sub hl [1, 2, 0] rfl) h1
noncomputable def FX7_swap (k0 : Nat) (x1 : Int32) (x2 : Int32) (σ : zS) : Option (Int32 × zS) := zbd (FX7_at k0 x1 σ) (fun r_2 σ_1 => zlet r_2 (fun x3_3 => zbd (FX7_at k0 x2 σ_1) (fun r_5 σ_4 => zbd (FX7_put k0 x1 r_5 σ_4) (fun _ σ_6 => zbd (FX7_put k0 x2 x3_3 σ_6) (fun _ σ_8 => some (0, σ_8))))))
set_option maxHeartbeats 4000000 in
set_option maxRecDepth 100000 in
theorem kX7_swap (l : Launch) {V : zV} {σ : zS} {t0 : Int32 × zS} {k0 : Nat} {x1 : Int32} {x2 : Int32} (hk0 : kd 0 k0 = 100) (h1 : FX7_swap k0 x1 x2 σ = some t0) : zMv l yX7_swap cX7_swap 4 1 22 0 V σ t0 [.ref (zad V k0), .int x1, .int x2] := by
  refine zMv_of (by decide) (Nat.le_of_ble_eq_true rfl) ?_
  intro p e s m below meth c A C0 hr hlk hZ ls hl
  generalize ([.ref (zad V k0), .int x1, .int x2] : List Value).toArray = args at C0 ⊢
  obtain ⟨Q, hQ⟩ : ∃ Q, Q = MQ below (zQv 0 V t0 A) args s 0 0 A := ⟨_, rfl⟩
  rw [← hQ]
  have hx := C0.1
  have hb := C0.2.1
  have hl : lv_has ls 4 [(0, .ref (zad V k0)), (1, .int x1), (2, .int x2)] := hl
  unfold FX7_swap at h1
  refine lv_aload_n hx hb dX7_swap_0 rfl (lv_at hl 0 rfl) ?_
  refine lv_iload_n hx hb dX7_swap_1 rfl (lv_at hl 1 rfl) ?_
  refine z_cSi (As := [.ref (zad V k0), .int x1]) (rest := []) C0 hZ h1 (fun _ hf => kX7_at l hk0 hf) mRX7_167 sX7_at rfl rfl hl.1 (Nat.le_of_ble_eq_true rfl) ⟨Nat.le_of_ble_eq_true rfl, Nat.le_of_ble_eq_true rfl⟩ dX7_swap_2 ⟨Nat.le_of_ble_eq_true rfl, Nat.le_of_ble_eq_true rfl⟩ (fun r_2 σ_1 H locs h1 hZ => ?_)
  refine z_istore_n C0 h1 hl (fun x3_3 => [(3, .int x3_3), (0, .ref (zad V k0)), (1, .int x1), (2, .int x2)]) dX7_swap_5 rfl (by decide) (fun _ => rfl) (fun x3_3 ls h1 hl => ?_)
  refine lv_aload_n hx hb dX7_swap_6 rfl (lv_at hl 1 rfl) ?_
  refine lv_iload_n hx hb dX7_swap_7 rfl (lv_at hl 2 rfl) ?_
  refine lv_aload_n hx hb dX7_swap_8 rfl (lv_at hl 1 rfl) ?_
  refine lv_iload_n hx hb dX7_swap_9 rfl (lv_at hl 3 rfl) ?_
  refine z_cSi (As := [.ref (zad V k0), .int x2]) (rest := [.int x1, .ref (zad V k0)]) C0 hZ h1 (fun _ hf => kX7_at l hk0 hf) mRX7_167 sX7_at rfl rfl hl.1 (Nat.le_of_ble_eq_true rfl) ⟨Nat.le_of_ble_eq_true rfl, Nat.le_of_ble_eq_true rfl⟩ dX7_swap_10 ⟨Nat.le_of_ble_eq_true rfl, Nat.le_of_ble_eq_true rfl⟩ (fun r_5 σ_4 H locs h1 hZ => ?_)
  refine z_cSv (As := [.ref (zad V k0), .int x1, .int r_5]) (rest := []) C0 hZ h1 (fun _ hf => kX7_put l hk0 hf) mRX7_79 sX7_put rfl rfl hl.1 (Nat.le_of_ble_eq_true rfl) ⟨Nat.le_of_ble_eq_true rfl, Nat.le_of_ble_eq_true rfl⟩ dX7_swap_13 ⟨Nat.le_of_ble_eq_true rfl, Nat.le_of_ble_eq_true rfl⟩ (fun _ σ_6 H locs h1 hZ => ?_)
  refine lv_aload_n hx hb dX7_swap_16 rfl (lv_at hl 1 rfl) ?_
  refine lv_iload_n hx hb dX7_swap_17 rfl (lv_at hl 3 rfl) ?_
  refine lv_iload_n hx hb dX7_swap_18 rfl (lv_at hl 0 rfl) ?_
  refine z_cSv (As := [.ref (zad V k0), .int x2, .int x3_3]) (rest := []) C0 hZ h1 (fun _ hf => kX7_put l hk0 hf) mRX7_79 sX7_put rfl rfl hl.1 (Nat.le_of_ble_eq_true rfl) ⟨Nat.le_of_ble_eq_true rfl, Nat.le_of_ble_eq_true rfl⟩ dX7_swap_19 ⟨Nat.le_of_ble_eq_true rfl, Nat.le_of_ble_eq_true rfl⟩ (fun _ σ_8 H locs h1 hZ => ?_)
  rw [hQ]; exact z_vret C0 hr hlk hZ h1 dX7_swap_22
noncomputable def FX7_nextOrder_b103  (σ : zS) : Option (Int32 × zS) := zgd (1 == 0 || 1 == 1) (some (1, σ))
noncomputable def FX7_nextOrder_L79 (k0 : Nat) (x4 : Int32) (x5 : Int32) (σ : zS) : Option ((Int32 × Int32 × zS) ⊕ (Int32 × zS)) := if x5 ≤ x4 then zinr (FX7_nextOrder_b103  σ) else zbd (FX7_swap k0 x4 x5 σ) (fun _ σ_1 => zlet (x4 + 1) (fun x4_3 => zlet (x5 + (-1)) (fun x5_4 => some (.inl (x4_3, x5_4, σ_1)))))
noncomputable def FX7_nextOrder_b63 (k0 : Nat) (x1 : Int32) (x2 : Int32) (x3 : Int32) (σ : zS) : Option (Int32 × zS) := zbd (FX7_swap k0 x2 x3 σ) (fun _ σ_5 => zlet (x2 + 1) (fun x4_7 => zlet (x1 - 1) (fun x5_8 => zlp (fun q => FX7_nextOrder_L79 k0 q.1 q.2.1 q.2.2) (x4_7, x5_8, σ_5))))
noncomputable def FX7_nextOrder_L39 (k0 : Nat) (x1 : Int32) (x2 : Int32) (x3 : Int32) (σ : zS) : Option ((Int32 × zS) ⊕ (Int32 × zS)) := if x3 ≤ x2 then zinr (FX7_nextOrder_b63 k0 x1 x2 x3 σ) else zbd (FX7_at k0 x3 σ) (fun r_10 σ_9 => zbd (FX7_at k0 x2 σ_9) (fun r_12 σ_11 => if r_12 < r_10 then zinr (FX7_nextOrder_b63 k0 x1 x2 x3 σ_11) else zlet (x3 + (-1)) (fun x3_13 => some (.inl (x3_13, σ_11)))))
noncomputable def FX7_nextOrder_b29 (k0 : Nat) (x1 : Int32) (x2 : Int32) (σ : zS) : Option (Int32 × zS) := if 0 ≤ x2 then zlet (x1 - 1) (fun x3_14 => zlp (fun q => FX7_nextOrder_L39 k0 x1 x2 q.1 q.2) (x3_14, σ)) else zgd (0 == 0 || 0 == 1) (some (0, σ))
noncomputable def FX7_nextOrder_L4 (k0 : Nat) (x1 : Int32) (x2 : Int32) (σ : zS) : Option ((Int32 × zS) ⊕ (Int32 × zS)) := if x2 < 0 then zinr (FX7_nextOrder_b29 k0 x1 x2 σ) else zbd (FX7_at k0 x2 σ) (fun r_16 σ_15 => zbd (FX7_at k0 (x2 + 1) σ_15) (fun r_18 σ_17 => if r_16 < r_18 then zinr (FX7_nextOrder_b29 k0 x1 x2 σ_17) else zlet (x2 + (-1)) (fun x2_19 => some (.inl (x2_19, σ_17)))))
noncomputable def FX7_nextOrder (k0 : Nat) (x1 : Int32) (σ : zS) : Option (Int32 × zS) := zlet (x1 - 2) (fun x2_20 => zlp (fun q => FX7_nextOrder_L4 k0 x1 q.1 q.2) (x2_20, σ))
set_option maxHeartbeats 4000000 in
set_option maxRecDepth 100000 in
theorem kX7_nextOrder (l : Launch) {V : zV} {σ : zS} {t0 : Int32 × zS} {k0 : Nat} {x1 : Int32} (hk0 : kd 0 k0 = 100) (h1 : FX7_nextOrder k0 x1 σ = some t0) : zMi l yX7_nextOrder cX7_nextOrder 6 (some .boolean) 2 45 0 V σ t0 [.ref (zad V k0), .int x1] := by
  refine zMi_of (by decide) (Nat.le_of_ble_eq_true rfl) ?_
  intro p e s m below meth c A C0 hr hlk hZ ls hl
  generalize ([.ref (zad V k0), .int x1] : List Value).toArray = args at C0 ⊢
  obtain ⟨Q, hQ⟩ : ∃ Q, Q = MQ below (zQi 0 V t0 A) args s 0 0 A := ⟨_, rfl⟩
  rw [← hQ]
  have hx := C0.1
  have hb := C0.2.1
  have hl : lv_has ls 6 [(0, .ref (zad V k0)), (1, .int x1)] := hl
  unfold FX7_nextOrder at h1
  have J103 : ∀  (σ : zS) (H : Heap) (locs : List Loc) (ls : Array Slot), zZ 0 V A σ s H locs → lv_has ls 6 [] → FX7_nextOrder_b103  σ = some t0 → W p l e (zrm 2 45) s m args below meth c H locs 0 0 Q (F0 m 103 ls []) := by
    intro  σ H locs ls  hZ hl h1
    unfold FX7_nextOrder_b103 at h1
    refine lv_iconst (v := 1) hx hb dX7_nextOrder_103 (by decide) ?_
    rw [hQ]; exact z_zret C0 hr hlk hZ h1 dX7_nextOrder_104
  have J79 : ∀ (n : Nat) (x4 : Int32) (x5 : Int32) (σ : zS) (H : Heap) (locs : List Loc) (ls : Array Slot), zZ 0 V A σ s H locs → lv_has ls 6 [(0, .ref (zad V k0)), (4, .int x4), (5, .int x5)] → zit (fun q => FX7_nextOrder_L79 k0 q.1 q.2.1 q.2.2) n (x4, x5, σ) = some t0 → W p l e (zrm 2 45) s m args below meth c H locs 0 0 Q (F0 m 79 ls []) := by
    intro n
    induction n with
    | zero => intro x4 x5 σ H locs ls  _ _ h1; cases h1
    | succ n ih79 =>
      intro x4 x5 σ H locs ls  hZ hl h1
      obtain ⟨t1, h1, hz1⟩ := zit_1 h1
      replace h1 : FX7_nextOrder_L79 k0 x4 x5 σ = some t1 := h1
      unfold FX7_nextOrder_L79 at h1
      refine lv_iload hx hb dX7_nextOrder_79 (lv_at hl 1 rfl) ?_
      refine lv_iload hx hb dX7_nextOrder_81 (lv_at hl 2 rfl) ?_
      refine z_ic_ge (tgt := 103) C0 h1 dX7_nextOrder_83 (by decide) (fun h1 => ?_) (fun h1 => ?_)
      · have h1 := zout h1 hz1
        exact J103  _ _ _ _  hZ (lv_sub hl [] rfl) h1
      refine lv_aload_n hx hb dX7_nextOrder_86 rfl (lv_at hl 0 rfl) ?_
      refine lv_iload hx hb dX7_nextOrder_87 (lv_at hl 1 rfl) ?_
      refine lv_iload hx hb dX7_nextOrder_89 (lv_at hl 2 rfl) ?_
      refine z_cSv (As := [.ref (zad V k0), .int x4, .int x5]) (rest := []) C0 hZ h1 (fun _ hf => kX7_swap l hk0 hf) mRX7_289 sX7_swap rfl rfl hl.1 (Nat.le_of_ble_eq_true rfl) ⟨Nat.le_of_ble_eq_true rfl, Nat.le_of_ble_eq_true rfl⟩ dX7_nextOrder_91 ⟨Nat.le_of_ble_eq_true rfl, Nat.le_of_ble_eq_true rfl⟩ (fun _ σ_1 H locs h1 hZ => ?_)
      refine z_iinc (v := 1) C0 h1 hl (fun x4_3 => [(4, .int x4_3), (0, .ref (zad V k0)), (5, .int x5)]) dX7_nextOrder_94 (k := 1) rfl (by decide) (by decide) (fun _ => rfl) (fun x4_3 ls h1 hl => ?_)
      refine z_iinc (v := (-1)) C0 h1 hl (fun x5_4 => [(5, .int x5_4), (4, .int x4_3), (0, .ref (zad V k0))]) dX7_nextOrder_97 (k := 2) rfl (by decide) (by decide) (fun _ => rfl) (fun x5_4 ls h1 hl => ?_)
      refine lv_goto (tgt := 79) hx hb dX7_nextOrder_100 (by decide) ?_
      exact ih79 x4_3 x5_4 _ _ _ _  hZ (lv_sub hl [2, 1, 0] rfl) (zback h1 hz1)
  have J63 : ∀ (x2 : Int32) (x3 : Int32) (σ : zS) (H : Heap) (locs : List Loc) (ls : Array Slot), zZ 0 V A σ s H locs → lv_has ls 6 [(0, .ref (zad V k0)), (1, .int x1), (2, .int x2), (3, .int x3)] → FX7_nextOrder_b63 k0 x1 x2 x3 σ = some t0 → W p l e (zrm 2 45) s m args below meth c H locs 0 0 Q (F0 m 63 ls []) := by
    intro x2 x3 σ H locs ls  hZ hl h1
    unfold FX7_nextOrder_b63 at h1
    refine lv_aload_n hx hb dX7_nextOrder_63 rfl (lv_at hl 0 rfl) ?_
    refine lv_iload_n hx hb dX7_nextOrder_64 rfl (lv_at hl 2 rfl) ?_
    refine lv_iload_n hx hb dX7_nextOrder_65 rfl (lv_at hl 3 rfl) ?_
    refine z_cSv (As := [.ref (zad V k0), .int x2, .int x3]) (rest := []) C0 hZ h1 (fun _ hf => kX7_swap l hk0 hf) mRX7_289 sX7_swap rfl rfl hl.1 (Nat.le_of_ble_eq_true rfl) ⟨Nat.le_of_ble_eq_true rfl, Nat.le_of_ble_eq_true rfl⟩ dX7_nextOrder_66 ⟨Nat.le_of_ble_eq_true rfl, Nat.le_of_ble_eq_true rfl⟩ (fun _ σ_5 H locs h1 hZ => ?_)
    refine lv_iload_n hx hb dX7_nextOrder_69 rfl (lv_at hl 2 rfl) ?_
    refine lv_iconst (v := 1) hx hb dX7_nextOrder_70 (by decide) ?_
    refine lv_iadd hx hb dX7_nextOrder_71 ?_
    refine z_istore C0 h1 hl (fun x4_7 => [(4, .int x4_7), (0, .ref (zad V k0)), (1, .int x1), (2, .int x2), (3, .int x3)]) dX7_nextOrder_72 (by decide) (fun _ => rfl) (fun x4_7 ls h1 hl => ?_)
    refine lv_iload_n hx hb dX7_nextOrder_74 rfl (lv_at hl 2 rfl) ?_
    refine lv_iconst (v := 1) hx hb dX7_nextOrder_75 (by decide) ?_
    refine lv_isub hx hb dX7_nextOrder_76 ?_
    refine z_istore C0 h1 hl (fun x5_8 => [(5, .int x5_8), (4, .int x4_7), (0, .ref (zad V k0)), (1, .int x1), (2, .int x2), (3, .int x3)]) dX7_nextOrder_77 (by decide) (fun _ => rfl) (fun x5_8 ls h1 hl => ?_)
    obtain ⟨n, h1⟩ := zlp_iff.mp h1
    exact J79 n x4_7 x5_8 _ _ _ _  hZ (lv_sub hl [2, 1, 0] rfl) h1
  have J39 : ∀ (n : Nat) (x2 : Int32) (x3 : Int32) (σ : zS) (H : Heap) (locs : List Loc) (ls : Array Slot), zZ 0 V A σ s H locs → lv_has ls 6 [(0, .ref (zad V k0)), (1, .int x1), (2, .int x2), (3, .int x3)] → zit (fun q => FX7_nextOrder_L39 k0 x1 x2 q.1 q.2) n (x3, σ) = some t0 → W p l e (zrm 2 45) s m args below meth c H locs 0 0 Q (F0 m 39 ls []) := by
    intro n
    induction n with
    | zero => intro x2 x3 σ H locs ls  _ _ h1; cases h1
    | succ n ih39 =>
      intro x2 x3 σ H locs ls  hZ hl h1
      obtain ⟨t1, h1, hz1⟩ := zit_1 h1
      replace h1 : FX7_nextOrder_L39 k0 x1 x2 x3 σ = some t1 := h1
      unfold FX7_nextOrder_L39 at h1
      refine lv_iload_n hx hb dX7_nextOrder_39 rfl (lv_at hl 3 rfl) ?_
      refine lv_iload_n hx hb dX7_nextOrder_40 rfl (lv_at hl 2 rfl) ?_
      refine z_ic_le (tgt := 63) C0 h1 dX7_nextOrder_41 (by decide) (fun h1 => ?_) (fun h1 => ?_)
      · have h1 := zout h1 hz1
        exact J63 x2 x3 _ _ _ _  hZ (lv_sub hl [0, 1, 2, 3] rfl) h1
      refine lv_aload_n hx hb dX7_nextOrder_44 rfl (lv_at hl 0 rfl) ?_
      refine lv_iload_n hx hb dX7_nextOrder_45 rfl (lv_at hl 3 rfl) ?_
      refine z_cSi (As := [.ref (zad V k0), .int x3]) (rest := []) C0 hZ h1 (fun _ hf => kX7_at l hk0 hf) mRX7_167 sX7_at rfl rfl hl.1 (Nat.le_of_ble_eq_true rfl) ⟨Nat.le_of_ble_eq_true rfl, Nat.le_of_ble_eq_true rfl⟩ dX7_nextOrder_46 ⟨Nat.le_of_ble_eq_true rfl, Nat.le_of_ble_eq_true rfl⟩ (fun r_10 σ_9 H locs h1 hZ => ?_)
      refine lv_aload_n hx hb dX7_nextOrder_49 rfl (lv_at hl 0 rfl) ?_
      refine lv_iload_n hx hb dX7_nextOrder_50 rfl (lv_at hl 2 rfl) ?_
      refine z_cSi (As := [.ref (zad V k0), .int x2]) (rest := [.int r_10]) C0 hZ h1 (fun _ hf => kX7_at l hk0 hf) mRX7_167 sX7_at rfl rfl hl.1 (Nat.le_of_ble_eq_true rfl) ⟨Nat.le_of_ble_eq_true rfl, Nat.le_of_ble_eq_true rfl⟩ dX7_nextOrder_51 ⟨Nat.le_of_ble_eq_true rfl, Nat.le_of_ble_eq_true rfl⟩ (fun r_12 σ_11 H locs h1 hZ => ?_)
      refine z_ic_gt (tgt := 63) C0 h1 dX7_nextOrder_54 (by decide) (fun h1 => ?_) (fun h1 => ?_)
      · have h1 := zout h1 hz1
        exact J63 x2 x3 _ _ _ _  hZ (lv_sub hl [0, 1, 2, 3] rfl) h1
      refine z_iinc (v := (-1)) C0 h1 hl (fun x3_13 => [(3, .int x3_13), (0, .ref (zad V k0)), (1, .int x1), (2, .int x2)]) dX7_nextOrder_57 (k := 3) rfl (by decide) (by decide) (fun _ => rfl) (fun x3_13 ls h1 hl => ?_)
      refine lv_goto (tgt := 39) hx hb dX7_nextOrder_60 (by decide) ?_
      exact ih39 x2 x3_13 _ _ _ _  hZ (lv_sub hl [1, 2, 3, 0] rfl) (zback h1 hz1)
  have J29 : ∀ (x2 : Int32) (σ : zS) (H : Heap) (locs : List Loc) (ls : Array Slot), zZ 0 V A σ s H locs → lv_has ls 6 [(0, .ref (zad V k0)), (1, .int x1), (2, .int x2)] → FX7_nextOrder_b29 k0 x1 x2 σ = some t0 → W p l e (zrm 2 45) s m args below meth c H locs 0 0 Q (F0 m 29 ls []) := by
    intro x2 σ H locs ls  hZ hl h1
    unfold FX7_nextOrder_b29 at h1
    refine lv_iload_n hx hb dX7_nextOrder_29 rfl (lv_at hl 2 rfl) ?_
    refine z_if_ge (tgt := 35) C0 h1 dX7_nextOrder_30 (by decide) (fun h1 => ?_) (fun h1 => ?_)
    · refine lv_iload_n hx hb dX7_nextOrder_35 rfl (lv_at hl 1 rfl) ?_
      refine lv_iconst (v := 1) hx hb dX7_nextOrder_36 (by decide) ?_
      refine lv_isub hx hb dX7_nextOrder_37 ?_
      refine z_istore_n C0 h1 hl (fun x3_14 => [(3, .int x3_14), (0, .ref (zad V k0)), (1, .int x1), (2, .int x2)]) dX7_nextOrder_38 rfl (by decide) (fun _ => rfl) (fun x3_14 ls h1 hl => ?_)
      obtain ⟨n, h1⟩ := zlp_iff.mp h1
      exact J39 n x2 x3_14 _ _ _ _  hZ (lv_sub hl [1, 2, 3, 0] rfl) h1
    refine lv_iconst (v := 0) hx hb dX7_nextOrder_33 (by decide) ?_
    rw [hQ]; exact z_zret C0 hr hlk hZ h1 dX7_nextOrder_34
  have J4 : ∀ (n : Nat) (x2 : Int32) (σ : zS) (H : Heap) (locs : List Loc) (ls : Array Slot), zZ 0 V A σ s H locs → lv_has ls 6 [(0, .ref (zad V k0)), (1, .int x1), (2, .int x2)] → zit (fun q => FX7_nextOrder_L4 k0 x1 q.1 q.2) n (x2, σ) = some t0 → W p l e (zrm 2 45) s m args below meth c H locs 0 0 Q (F0 m 4 ls []) := by
    intro n
    induction n with
    | zero => intro x2 σ H locs ls  _ _ h1; cases h1
    | succ n ih4 =>
      intro x2 σ H locs ls  hZ hl h1
      obtain ⟨t1, h1, hz1⟩ := zit_1 h1
      replace h1 : FX7_nextOrder_L4 k0 x1 x2 σ = some t1 := h1
      unfold FX7_nextOrder_L4 at h1
      refine lv_iload_n hx hb dX7_nextOrder_4 rfl (lv_at hl 2 rfl) ?_
      refine z_if_lt (tgt := 29) C0 h1 dX7_nextOrder_5 (by decide) (fun h1 => ?_) (fun h1 => ?_)
      · have h1 := zout h1 hz1
        exact J29 x2 _ _ _ _  hZ (lv_sub hl [0, 1, 2] rfl) h1
      refine lv_aload_n hx hb dX7_nextOrder_8 rfl (lv_at hl 0 rfl) ?_
      refine lv_iload_n hx hb dX7_nextOrder_9 rfl (lv_at hl 2 rfl) ?_
      refine z_cSi (As := [.ref (zad V k0), .int x2]) (rest := []) C0 hZ h1 (fun _ hf => kX7_at l hk0 hf) mRX7_167 sX7_at rfl rfl hl.1 (Nat.le_of_ble_eq_true rfl) ⟨Nat.le_of_ble_eq_true rfl, Nat.le_of_ble_eq_true rfl⟩ dX7_nextOrder_10 ⟨Nat.le_of_ble_eq_true rfl, Nat.le_of_ble_eq_true rfl⟩ (fun r_16 σ_15 H locs h1 hZ => ?_)
      refine lv_aload_n hx hb dX7_nextOrder_13 rfl (lv_at hl 0 rfl) ?_
      refine lv_iload_n hx hb dX7_nextOrder_14 rfl (lv_at hl 2 rfl) ?_
      refine lv_iconst (v := 1) hx hb dX7_nextOrder_15 (by decide) ?_
      refine lv_iadd hx hb dX7_nextOrder_16 ?_
      refine z_cSi (As := [.ref (zad V k0), .int (x2 + 1)]) (rest := [.int r_16]) C0 hZ h1 (fun _ hf => kX7_at l hk0 hf) mRX7_167 sX7_at rfl rfl hl.1 (Nat.le_of_ble_eq_true rfl) ⟨Nat.le_of_ble_eq_true rfl, Nat.le_of_ble_eq_true rfl⟩ dX7_nextOrder_17 ⟨Nat.le_of_ble_eq_true rfl, Nat.le_of_ble_eq_true rfl⟩ (fun r_18 σ_17 H locs h1 hZ => ?_)
      refine z_ic_lt (tgt := 29) C0 h1 dX7_nextOrder_20 (by decide) (fun h1 => ?_) (fun h1 => ?_)
      · have h1 := zout h1 hz1
        exact J29 x2 _ _ _ _  hZ (lv_sub hl [0, 1, 2] rfl) h1
      refine z_iinc (v := (-1)) C0 h1 hl (fun x2_19 => [(2, .int x2_19), (0, .ref (zad V k0)), (1, .int x1)]) dX7_nextOrder_23 (k := 2) rfl (by decide) (by decide) (fun _ => rfl) (fun x2_19 ls h1 hl => ?_)
      refine lv_goto (tgt := 4) hx hb dX7_nextOrder_26 (by decide) ?_
      exact ih4 x2_19 _ _ _ _  hZ (lv_sub hl [1, 2, 0] rfl) (zback h1 hz1)
  refine lv_iload_n hx hb dX7_nextOrder_0 rfl (lv_at hl 1 rfl) ?_
  refine lv_iconst (v := 2) hx hb dX7_nextOrder_1 (by decide) ?_
  refine lv_isub hx hb dX7_nextOrder_2 ?_
  refine z_istore_n C0 h1 hl (fun x2_20 => [(2, .int x2_20), (0, .ref (zad V k0)), (1, .int x1)]) dX7_nextOrder_3 rfl (by decide) (fun _ => rfl) (fun x2_20 ls h1 hl => ?_)
  obtain ⟨n, h1⟩ := zlp_iff.mp h1
  exact J4 n x2_20 _ _ _ _  hZ (lv_sub hl [1, 2, 0] rfl) h1
noncomputable def FX7_lay_b110 (k0 : Nat) (x2 : Int32) (σ : zS) : Option (Int32 × zS) := zlet (zup σ k0 12 1) (fun σ_1 => some (x2, σ_1))
noncomputable def FX7_lay_b95 (k0 : Nat) (x1 : Int32) (x2 : Int32) (x4 : Int32) (σ : zS) : Option ((Int32 × Int32 × Int32 × zS) ⊕ (Int32 × zS)) := zbd (FX7_nextOrder (k0 + 1) x1 σ) (fun r_3 σ_2 => zlet r_3 (fun x3_4 => zlet (x4 + 1) (fun x4_5 => some (.inl (x2, x3_4, x4_5, σ_2)))))
noncomputable def FX7_lay_b81 (k0 : Nat) (x1 : Int32) (x4 : Int32) (x5 : Int32) (σ : zS) : Option ((Int32 × Int32 × Int32 × zS) ⊕ (Int32 × zS)) := zlet x5 (fun x2_6 => zbd (FX7_copyRow (k0 + 1) (k0 + 2) σ) (fun _ σ_7 => FX7_lay_b95 k0 x1 x2_6 x4 σ_7))
noncomputable def FX7_lay_L48 (k0 : Nat) (x1 : Int32) (x2 : Int32) (x3 : Int32) (x4 : Int32) (σ : zS) : Option ((Int32 × Int32 × Int32 × zS) ⊕ (Int32 × zS)) := if 120 ≤ x4 then zinr (FX7_lay_b110 k0 x2 σ) else if x3 = 0 then zinr (FX7_lay_b110 k0 x2 σ) else if x2 = 0 then zinr (FX7_lay_b110 k0 x2 σ) else zbd (FX7_costLaid k0 x1 σ) (fun r_10 σ_9 => zlet r_10 (fun x5_11 => if x2 = (-1) then FX7_lay_b81 k0 x1 x4 x5_11 σ_9 else if x2 ≤ x5_11 then FX7_lay_b95 k0 x1 x2 x4 σ_9 else FX7_lay_b81 k0 x1 x4 x5_11 σ_9))
noncomputable def FX7_lay_b41 (k0 : Nat) (x1 : Int32) (σ : zS) : Option (Int32 × zS) := zlet (-1) (fun x2_12 => zlet 1 (fun x3_13 => zlet 0 (fun x4_14 => zlp (fun q => FX7_lay_L48 k0 x1 q.1 q.2.1 q.2.2.1 q.2.2.2) (x2_12, x3_13, x4_14, σ))))
noncomputable def FX7_lay_L21 (k0 : Nat) (x1 : Int32) (x2 : Int32) (σ : zS) : Option ((Int32 × zS) ⊕ (Int32 × zS)) := if x1 ≤ x2 then zinr (FX7_lay_b41 k0 x1 σ) else zbd (FX7_put (k0 + 1) x2 x2 σ) (fun _ σ_15 => zlet (x2 + 1) (fun x2_17 => some (.inl (x2_17, σ_15))))
noncomputable def FX7_lay (k0 : Nat) (σ : zS) : Option (Int32 × zS) := zgd (kd 0 (σ k0 2).toNatClampNeg == 5) (zlet (σ k0 2).toNatClampNeg (fun q_18 => zlet (σ (q_18 + 1) 0) (fun x1_19 => if x1_19 ≤ 5 then zlet 0 (fun x2_20 => zlp (fun q => FX7_lay_L21 k0 x1_19 q.1 q.2) (x2_20, σ)) else some ((-2), σ))))
set_option maxHeartbeats 4000000 in
set_option maxRecDepth 100000 in
theorem kX7_lay (l : Launch) {V : zV} {σ : zS} {t0 : Int32 × zS} {k0 : Nat} (hk0 : kd 0 k0 = 7) (h1 : FX7_lay k0 σ = some t0) : zMi l yX7_lay cX7_lay 6 (some .int) 7 161 0 V σ t0 [.ref (zad V k0)] := by
  refine zMi_of (by decide) (Nat.le_of_ble_eq_true rfl) ?_
  intro p e s m below meth c A C0 hr hlk hZ ls hl
  generalize ([.ref (zad V k0)] : List Value).toArray = args at C0 ⊢
  obtain ⟨Q, hQ⟩ : ∃ Q, Q = MQ below (zQi 0 V t0 A) args s 0 0 A := ⟨_, rfl⟩
  rw [← hQ]
  have hx := C0.1
  have hb := C0.2.1
  have hl : lv_has ls 6 [(0, .ref (zad V k0))] := hl
  unfold FX7_lay at h1
  have J110 : ∀ (x2 : Int32) (σ : zS) (H : Heap) (locs : List Loc) (ls : Array Slot), zZ 0 V A σ s H locs → lv_has ls 6 [(0, .ref (zad V k0)), (2, .int x2)] → FX7_lay_b110 k0 x2 σ = some t0 → W p l e (zrm 7 161) s m args below meth c H locs 0 0 Q (F0 m 110 ls []) := by
    intro x2 σ H locs ls  hZ hl h1
    unfold FX7_lay_b110 at h1
    refine lv_aload_n hx hb dX7_lay_110 rfl (lv_at hl 0 rfl) ?_
    refine lv_iconst (v := 1) hx hb dX7_lay_111 (by decide) ?_
    refine z_puti C0 hZ h1 hk0 fRX7_66 rfl tyX7_ok nmX7 rfl rfl rfl dX7_lay_112 (fun σ_1 H locs h1 hZ => ?_)
    refine lv_iload_n hx hb dX7_lay_115 rfl (lv_at hl 1 rfl) ?_
    rw [hQ]; exact z_iret C0 hr hlk hZ h1 dX7_lay_116
  have J48 : ∀ (n : Nat) (x1 : Int32) (x2 : Int32) (x3 : Int32) (x4 : Int32) (σ : zS) (H : Heap) (locs : List Loc) (ls : Array Slot), zZ 0 V A σ s H locs → lv_has ls 6 [(0, .ref (zad V k0)), (1, .int x1), (2, .int x2), (3, .int x3), (4, .int x4)] → zit (fun q => FX7_lay_L48 k0 x1 q.1 q.2.1 q.2.2.1 q.2.2.2) n (x2, x3, x4, σ) = some t0 → W p l e (zrm 7 161) s m args below meth c H locs 0 0 Q (F0 m 48 ls []) := by
    intro n
    induction n with
    | zero => intro x1 x2 x3 x4 σ H locs ls  _ _ h1; cases h1
    | succ n ih48 =>
      intro x1 x2 x3 x4 σ H locs ls  hZ hl h1
      obtain ⟨t1, h1, hz1⟩ := zit_1 h1
      have J95 : ∀ (x2 : Int32) (x4 : Int32) (σ : zS) (H : Heap) (locs : List Loc) (ls : Array Slot), zZ 0 V A σ s H locs → lv_has ls 6 [(0, .ref (zad V k0)), (1, .int x1), (2, .int x2), (4, .int x4)] → FX7_lay_b95 k0 x1 x2 x4 σ = some t1 → W p l e (zrm 7 161) s m args below meth c H locs 0 0 Q (F0 m 95 ls []) := by
        intro x2 x4 σ H locs ls  hZ hl h1
        unfold FX7_lay_b95 at h1
        refine lv_aload_n hx hb dX7_lay_95 rfl (lv_at hl 0 rfl) ?_
        refine z_getr C0 hZ hk0 fRX7_59 rfl dX7_lay_96 ?_
        refine lv_iload_n hx hb dX7_lay_99 rfl (lv_at hl 1 rfl) ?_
        refine z_cSi (As := [.ref (zad V (k0 + 1)), .int x1]) (rest := []) C0 hZ h1 (fun _ hf => kX7_nextOrder l (zkt7_10 hk0) hf) mRX7_284 sX7_nextOrder rfl rfl hl.1 (Nat.le_of_ble_eq_true rfl) ⟨Nat.le_of_ble_eq_true rfl, Nat.le_of_ble_eq_true rfl⟩ dX7_lay_100 ⟨Nat.le_of_ble_eq_true rfl, Nat.le_of_ble_eq_true rfl⟩ (fun r_3 σ_2 H locs h1 hZ => ?_)
        refine z_istore_n C0 h1 hl (fun x3_4 => [(3, .int x3_4), (0, .ref (zad V k0)), (1, .int x1), (2, .int x2), (4, .int x4)]) dX7_lay_103 rfl (by decide) (fun _ => rfl) (fun x3_4 ls h1 hl => ?_)
        refine z_iinc (v := 1) C0 h1 hl (fun x4_5 => [(4, .int x4_5), (3, .int x3_4), (0, .ref (zad V k0)), (1, .int x1), (2, .int x2)]) dX7_lay_104 (k := 4) rfl (by decide) (by decide) (fun _ => rfl) (fun x4_5 ls h1 hl => ?_)
        refine lv_goto (tgt := 48) hx hb dX7_lay_107 (by decide) ?_
        exact ih48 x1 x2 x3_4 x4_5 _ _ _ _  hZ (lv_sub hl [2, 3, 4, 1, 0] rfl) (zback h1 hz1)
      have J81 : ∀ (x4 : Int32) (x5 : Int32) (σ : zS) (H : Heap) (locs : List Loc) (ls : Array Slot), zZ 0 V A σ s H locs → lv_has ls 6 [(0, .ref (zad V k0)), (1, .int x1), (4, .int x4), (5, .int x5)] → FX7_lay_b81 k0 x1 x4 x5 σ = some t1 → W p l e (zrm 7 161) s m args below meth c H locs 0 0 Q (F0 m 81 ls []) := by
        intro x4 x5 σ H locs ls  hZ hl h1
        unfold FX7_lay_b81 at h1
        refine lv_iload hx hb dX7_lay_81 (lv_at hl 3 rfl) ?_
        refine z_istore_n C0 h1 hl (fun x2_6 => [(2, .int x2_6), (0, .ref (zad V k0)), (1, .int x1), (4, .int x4), (5, .int x5)]) dX7_lay_83 rfl (by decide) (fun _ => rfl) (fun x2_6 ls h1 hl => ?_)
        refine lv_aload_n hx hb dX7_lay_84 rfl (lv_at hl 1 rfl) ?_
        refine z_getr C0 hZ hk0 fRX7_59 rfl dX7_lay_85 ?_
        refine lv_aload_n hx hb dX7_lay_88 rfl (lv_at hl 1 rfl) ?_
        refine z_getr C0 hZ hk0 fRX7_63 rfl dX7_lay_89 ?_
        refine z_cSv (As := [.ref (zad V (k0 + 1)), .ref (zad V (k0 + 2))]) (rest := []) C0 hZ h1 (fun _ hf => kX7_copyRow l (zkt7_10 hk0) (zkt7_11 hk0) hf) mRX7_246 sX7_copyRow rfl rfl hl.1 (Nat.le_of_ble_eq_true rfl) ⟨Nat.le_of_ble_eq_true rfl, Nat.le_of_ble_eq_true rfl⟩ dX7_lay_92 ⟨Nat.le_of_ble_eq_true rfl, Nat.le_of_ble_eq_true rfl⟩ (fun _ σ_7 H locs h1 hZ => ?_)
        exact J95 x2_6 x4 _ _ _ _  hZ (lv_sub hl [1, 2, 0, 3] rfl) h1
      replace h1 : FX7_lay_L48 k0 x1 x2 x3 x4 σ = some t1 := h1
      unfold FX7_lay_L48 at h1
      refine lv_iload hx hb dX7_lay_48 (lv_at hl 4 rfl) ?_
      refine lv_bipush (v := 120) hx hb dX7_lay_50 (by decide) ?_
      refine z_ic_ge (tgt := 110) C0 h1 dX7_lay_52 (by decide) (fun h1 => ?_) (fun h1 => ?_)
      · have h1 := zout h1 hz1
        exact J110 x2 _ _ _ _  hZ (lv_sub hl [0, 2] rfl) h1
      refine lv_iload_n hx hb dX7_lay_55 rfl (lv_at hl 3 rfl) ?_
      refine z_if_eq (tgt := 110) C0 h1 dX7_lay_56 (by decide) (fun h1 => ?_) (fun h1 => ?_)
      · have h1 := zout h1 hz1
        exact J110 x2 _ _ _ _  hZ (lv_sub hl [0, 2] rfl) h1
      refine lv_iload_n hx hb dX7_lay_59 rfl (lv_at hl 2 rfl) ?_
      refine z_if_eq (tgt := 110) C0 h1 dX7_lay_60 (by decide) (fun h1 => ?_) (fun h1 => ?_)
      · have h1 := zout h1 hz1
        exact J110 x2 _ _ _ _  hZ (lv_sub hl [0, 2] rfl) h1
      refine lv_aload_n hx hb dX7_lay_63 rfl (lv_at hl 0 rfl) ?_
      refine lv_iload_n hx hb dX7_lay_64 rfl (lv_at hl 1 rfl) ?_
      refine z_cVi (As := [.int x1]) (rest := []) C0 hZ h1 (fun _ hf => kX7_costLaid l hk0 hf) mRX7_281 vX7_costLaid hk0 rfl rfl hl.1 (Nat.le_of_ble_eq_true rfl) ⟨Nat.le_of_ble_eq_true rfl, Nat.le_of_ble_eq_true rfl⟩ dX7_lay_65 ⟨Nat.le_of_ble_eq_true rfl, Nat.le_of_ble_eq_true rfl⟩ (fun r_10 σ_9 H locs h1 hZ => ?_)
      refine z_istore C0 h1 hl (fun x5_11 => [(5, .int x5_11), (0, .ref (zad V k0)), (1, .int x1), (2, .int x2), (3, .int x3), (4, .int x4)]) dX7_lay_68 (by decide) (fun _ => rfl) (fun x5_11 ls h1 hl => ?_)
      refine lv_iload_n hx hb dX7_lay_70 rfl (lv_at hl 3 rfl) ?_
      refine lv_iconst (v := (-1)) hx hb dX7_lay_71 (by decide) ?_
      refine z_ic_eq (tgt := 81) C0 h1 dX7_lay_72 (by decide) (fun h1 => ?_) (fun h1 => ?_)
      · exact J81 x4 x5_11 _ _ _ _  hZ (lv_sub hl [1, 2, 5, 0] rfl) h1
      refine lv_iload hx hb dX7_lay_75 (lv_at hl 0 rfl) ?_
      refine lv_iload_n hx hb dX7_lay_77 rfl (lv_at hl 3 rfl) ?_
      refine z_ic_ge (tgt := 95) C0 h1 dX7_lay_78 (by decide) (fun h1 => ?_) (fun h1 => ?_)
      · exact J95 x2 x4 _ _ _ _  hZ (lv_sub hl [1, 2, 3, 5] rfl) h1
      exact J81 x4 x5_11 _ _ _ _  hZ (lv_sub hl [1, 2, 5, 0] rfl) h1
  have J41 : ∀ (x1 : Int32) (σ : zS) (H : Heap) (locs : List Loc) (ls : Array Slot), zZ 0 V A σ s H locs → lv_has ls 6 [(0, .ref (zad V k0)), (1, .int x1)] → FX7_lay_b41 k0 x1 σ = some t0 → W p l e (zrm 7 161) s m args below meth c H locs 0 0 Q (F0 m 41 ls []) := by
    intro x1 σ H locs ls  hZ hl h1
    unfold FX7_lay_b41 at h1
    refine lv_iconst (v := (-1)) hx hb dX7_lay_41 (by decide) ?_
    refine z_istore_n C0 h1 hl (fun x2_12 => [(2, .int x2_12), (0, .ref (zad V k0)), (1, .int x1)]) dX7_lay_42 rfl (by decide) (fun _ => rfl) (fun x2_12 ls h1 hl => ?_)
    refine lv_iconst (v := 1) hx hb dX7_lay_43 (by decide) ?_
    refine z_istore_n C0 h1 hl (fun x3_13 => [(3, .int x3_13), (2, .int x2_12), (0, .ref (zad V k0)), (1, .int x1)]) dX7_lay_44 rfl (by decide) (fun _ => rfl) (fun x3_13 ls h1 hl => ?_)
    refine lv_iconst (v := 0) hx hb dX7_lay_45 (by decide) ?_
    refine z_istore C0 h1 hl (fun x4_14 => [(4, .int x4_14), (3, .int x3_13), (2, .int x2_12), (0, .ref (zad V k0)), (1, .int x1)]) dX7_lay_46 (by decide) (fun _ => rfl) (fun x4_14 ls h1 hl => ?_)
    obtain ⟨n, h1⟩ := zlp_iff.mp h1
    exact J48 n x1 x2_12 x3_13 x4_14 _ _ _ _  hZ (lv_sub hl [3, 4, 2, 1, 0] rfl) h1
  have J21 : ∀ (n : Nat) (x1 : Int32) (x2 : Int32) (σ : zS) (H : Heap) (locs : List Loc) (ls : Array Slot), zZ 0 V A σ s H locs → lv_has ls 6 [(0, .ref (zad V k0)), (1, .int x1), (2, .int x2)] → zit (fun q => FX7_lay_L21 k0 x1 q.1 q.2) n (x2, σ) = some t0 → W p l e (zrm 7 161) s m args below meth c H locs 0 0 Q (F0 m 21 ls []) := by
    intro n
    induction n with
    | zero => intro x1 x2 σ H locs ls  _ _ h1; cases h1
    | succ n ih21 =>
      intro x1 x2 σ H locs ls  hZ hl h1
      obtain ⟨t1, h1, hz1⟩ := zit_1 h1
      replace h1 : FX7_lay_L21 k0 x1 x2 σ = some t1 := h1
      unfold FX7_lay_L21 at h1
      refine lv_iload_n hx hb dX7_lay_21 rfl (lv_at hl 2 rfl) ?_
      refine lv_iload_n hx hb dX7_lay_22 rfl (lv_at hl 1 rfl) ?_
      refine z_ic_ge (tgt := 41) C0 h1 dX7_lay_23 (by decide) (fun h1 => ?_) (fun h1 => ?_)
      · have h1 := zout h1 hz1
        exact J41 x1 _ _ _ _  hZ (lv_sub hl [0, 1] rfl) h1
      refine lv_aload_n hx hb dX7_lay_26 rfl (lv_at hl 0 rfl) ?_
      refine z_getr C0 hZ hk0 fRX7_59 rfl dX7_lay_27 ?_
      refine lv_iload_n hx hb dX7_lay_30 rfl (lv_at hl 2 rfl) ?_
      refine lv_iload_n hx hb dX7_lay_31 rfl (lv_at hl 2 rfl) ?_
      refine z_cSv (As := [.ref (zad V (k0 + 1)), .int x2, .int x2]) (rest := []) C0 hZ h1 (fun _ hf => kX7_put l (zkt7_10 hk0) hf) mRX7_79 sX7_put rfl rfl hl.1 (Nat.le_of_ble_eq_true rfl) ⟨Nat.le_of_ble_eq_true rfl, Nat.le_of_ble_eq_true rfl⟩ dX7_lay_32 ⟨Nat.le_of_ble_eq_true rfl, Nat.le_of_ble_eq_true rfl⟩ (fun _ σ_15 H locs h1 hZ => ?_)
      refine z_iinc (v := 1) C0 h1 hl (fun x2_17 => [(2, .int x2_17), (0, .ref (zad V k0)), (1, .int x1)]) dX7_lay_35 (k := 2) rfl (by decide) (by decide) (fun _ => rfl) (fun x2_17 ls h1 hl => ?_)
      refine lv_goto (tgt := 21) hx hb dX7_lay_38 (by decide) ?_
      exact ih21 x1 x2_17 _ _ _ _  hZ (lv_sub hl [1, 2, 0] rfl) (zback h1 hz1)
  refine lv_aload_n hx hb dX7_lay_0 rfl (lv_at hl 0 rfl) ?_
  refine z_getm C0 hZ h1 hk0 fRX7_19 rfl dX7_lay_1 (fun q_18 hq_18 h1 => ?_)
  refine z_getr C0 hZ hq_18 fRX7_103 rfl dX7_lay_4 ?_
  refine z_geti C0 hZ (zkt5_0 hq_18) fRX7_107 rfl dX7_lay_7 ?_
  refine z_istore_n C0 h1 hl (fun x1_19 => [(1, .int x1_19), (0, .ref (zad V k0))]) dX7_lay_10 rfl (by decide) (fun _ => rfl) (fun x1_19 ls h1 hl => ?_)
  refine lv_iload_n hx hb dX7_lay_11 rfl (lv_at hl 0 rfl) ?_
  refine lv_iconst (v := 5) hx hb dX7_lay_12 (by decide) ?_
  refine z_ic_le (tgt := 19) C0 h1 dX7_lay_13 (by decide) (fun h1 => ?_) (fun h1 => ?_)
  · refine lv_iconst (v := 0) hx hb dX7_lay_19 (by decide) ?_
    refine z_istore_n C0 h1 hl (fun x2_20 => [(2, .int x2_20), (1, .int x1_19), (0, .ref (zad V k0))]) dX7_lay_20 rfl (by decide) (fun _ => rfl) (fun x2_20 ls h1 hl => ?_)
    obtain ⟨n, h1⟩ := zlp_iff.mp h1
    exact J21 n x1_19 x2_20 _ _ _ _  hZ (lv_sub hl [2, 1, 0] rfl) h1
  refine lv_bipush (v := (-2)) hx hb dX7_lay_16 (by decide) ?_
  rw [hQ]; exact z_iret C0 hr hlk hZ h1 dX7_lay_18
