noncomputable def FX7_laid (k0 : Nat) (x1 : Int32) (σ : zS) : Option zT3 := zbx (FX7_needAisle k0 x1 σ) (fun _ σ_1 => if (σ_1 k0 12) = 0 then some (1, 0, σ_1) else zbd (FX7_at (k0 + 2) x1 σ_1) (fun r_3 σ_2 => some (0, r_3, σ_2))) (fun n σ => some (n, 0, σ))
set_option maxHeartbeats 4000000 in
set_option maxRecDepth 100000 in
theorem kX7_laid (l : Launch) (hfl : l.stackTraces = false) {V : zV} {σ : zS} {t0 : zT3} {k0 : Nat} {x1 : Int32} (hk0 : kd 0 k0 = 7) (h1 : FX7_laid k0 x1 σ = some t0) : zXi l yX7_laid cX7_laid 2 (some .int) 7 111 2 12 0 V σ t0 [.ref (zad V k0), .int x1] := by
  refine zXi_of (by decide) (Nat.le_of_ble_eq_true rfl) ?_
  intro p e s m below meth c A C0 hr hlk hnt hZ ls hl
  generalize ([.ref (zad V k0), .int x1] : List Value).toArray = args at C0 ⊢
  obtain ⟨Q, hQ⟩ : ∃ Q, Q = vx_MQ below (zxQ 0 V t0 A) (zxX 0 V t0 A) args s 2 12 A := ⟨_, rfl⟩
  rw [← hQ]
  have hx := C0.1
  have hb := C0.2.1
  have hl : lv_has ls 2 [(0, .ref (zad V k0)), (1, .int x1)] := hl
  unfold FX7_laid at h1
  refine lv_aload_n hx hb dX7_laid_0 rfl (lv_at hl 0 rfl) ?_
  refine lv_iload_n hx hb dX7_laid_1 rfl (lv_at hl 1 rfl) ?_
  rw [hQ]
  refine z_xVv (As := [.int x1]) (rest := []) C0 hlk hnt hZ h1 (fun _ hf => kX7_needAisle l hfl hk0 hf) (zmem 1195 (by decide +kernel) (by decide +kernel)) mRX7_174 vX7_needAisle hk0 rfl rfl hl.1 (Nat.le_of_ble_eq_true rfl) ⟨Nat.le_of_ble_eq_true rfl, Nat.le_of_ble_eq_true rfl⟩ dX7_laid_2 ⟨Nat.le_of_ble_eq_true rfl, Nat.le_of_ble_eq_true rfl⟩ ⟨Nat.le_of_ble_eq_true rfl, Nat.le_of_ble_eq_true rfl⟩ (fun _ σ_1 H locs h1 hZ => ?_)
  rw [← hQ]
  refine lv_aload_n hx hb dX7_laid_5 rfl (lv_at hl 0 rfl) ?_
  refine z_geti C0 hZ hk0 fRX7_66 rfl dX7_laid_6 ?_
  refine z_if_ne (tgt := 20) C0 h1 dX7_laid_9 (by decide) (fun h1 => ?_) (fun h1 => ?_)
  · refine lv_aload_n hx hb dX7_laid_20 rfl (lv_at hl 0 rfl) ?_
    refine z_getr C0 hZ hk0 fRX7_63 rfl dX7_laid_21 ?_
    refine lv_iload_n hx hb dX7_laid_24 rfl (lv_at hl 1 rfl) ?_
    refine z_cSi (As := [.ref (zad V (k0 + 2)), .int x1]) (rest := []) C0 hZ h1 (fun _ hf => kX7_at l (zkt7_11 hk0) hf) mRX7_167 sX7_at rfl rfl hl.1 (Nat.le_of_ble_eq_true rfl) ⟨Nat.le_of_ble_eq_true rfl, Nat.le_of_ble_eq_true rfl⟩ dX7_laid_25 ⟨Nat.le_of_ble_eq_true rfl, Nat.le_of_ble_eq_true rfl⟩ (fun r_3 σ_2 H locs h1 hZ => ?_)
    rw [hQ]; exact z_xiret C0 hr hlk hZ h1 ⟨Nat.le_of_ble_eq_true rfl, Nat.le_of_ble_eq_true rfl⟩ dX7_laid_28
  rw [hQ]; exact z_throw (n := 0) C0 hfl hnt hl.1 hlk hZ h1 xxRX7_171 dX7_laid_12 dX7_laid_15 dX7_laid_16 dX7_laid_19 ⟨Nat.le_of_ble_eq_true rfl, Nat.le_of_ble_eq_true rfl, Nat.le_of_ble_eq_true rfl, Nat.le_of_ble_eq_true rfl⟩ ⟨Nat.le_of_ble_eq_true rfl, Nat.le_of_ble_eq_true rfl⟩
noncomputable def FX7_without (k0 : Nat) (x1 : Int32) (σ : zS) : Option zT3 := zbx (FX7_needPerson k0 x1 σ) (fun _ σ_1 => zgd (kd 0 (σ_1 k0 2).toNatClampNeg == 5) (zlet (σ_1 k0 2).toNatClampNeg (fun q_2 => zbd (FX0_prepare (k0 + 35) q_2 (k0 + 6) σ_1) (fun _ σ_3 => zbd (FX7_bit x1 σ_3) (fun r_6 σ_5 => zlet (zup σ_5 (k0 + 35) 5 r_6) (fun σ_7 => zbd (FX0_run (k0 + 35) σ_7) (fun r_9 σ_8 => some (0, r_9, σ_8)))))))) (fun n σ => some (n, 0, σ))
set_option maxHeartbeats 4000000 in
set_option maxRecDepth 100000 in
theorem kX7_without (l : Launch) (hfl : l.stackTraces = false) {V : zV} {σ : zS} {t0 : zT3} {k0 : Nat} {x1 : Int32} (hk0 : kd 0 k0 = 7) (h1 : FX7_without k0 x1 σ = some t0) : zXi l yX7_without cX7_without 2 (some .int) 7 139 1 6 0 V σ t0 [.ref (zad V k0), .int x1] := by
  refine zXi_of (by decide) (Nat.le_of_ble_eq_true rfl) ?_
  intro p e s m below meth c A C0 hr hlk hnt hZ ls hl
  generalize ([.ref (zad V k0), .int x1] : List Value).toArray = args at C0 ⊢
  obtain ⟨Q, hQ⟩ : ∃ Q, Q = vx_MQ below (zxQ 0 V t0 A) (zxX 0 V t0 A) args s 1 6 A := ⟨_, rfl⟩
  rw [← hQ]
  have hx := C0.1
  have hb := C0.2.1
  have hl : lv_has ls 2 [(0, .ref (zad V k0)), (1, .int x1)] := hl
  unfold FX7_without at h1
  refine lv_aload_n hx hb dX7_without_0 rfl (lv_at hl 0 rfl) ?_
  refine lv_iload_n hx hb dX7_without_1 rfl (lv_at hl 1 rfl) ?_
  rw [hQ]
  refine z_xVv (As := [.int x1]) (rest := []) C0 hlk hnt hZ h1 (fun _ hf => kX7_needPerson l hfl hk0 hf) (zmem 1206 (by decide +kernel) (by decide +kernel)) mRX7_189 vX7_needPerson hk0 rfl rfl hl.1 (Nat.le_of_ble_eq_true rfl) ⟨Nat.le_of_ble_eq_true rfl, Nat.le_of_ble_eq_true rfl⟩ dX7_without_2 ⟨Nat.le_of_ble_eq_true rfl, Nat.le_of_ble_eq_true rfl⟩ ⟨Nat.le_of_ble_eq_true rfl, Nat.le_of_ble_eq_true rfl⟩ (fun _ σ_1 H locs h1 hZ => ?_)
  rw [← hQ]
  refine lv_aload_n hx hb dX7_without_5 rfl (lv_at hl 0 rfl) ?_
  refine z_getr C0 hZ hk0 fRX7_53 rfl dX7_without_6 ?_
  refine lv_aload_n hx hb dX7_without_9 rfl (lv_at hl 0 rfl) ?_
  refine z_getm C0 hZ h1 hk0 fRX7_19 rfl dX7_without_10 (fun q_2 hq_2 h1 => ?_)
  refine lv_aload_n hx hb dX7_without_13 rfl (lv_at hl 0 rfl) ?_
  refine z_getr C0 hZ hk0 fRX7_33 rfl dX7_without_14 ?_
  refine z_cVv (As := [.ref (zad V q_2), .ref (zad V (k0 + 6))]) (rest := []) C0 hZ h1 (fun _ hf => kX0_prepare l (zkt7_8 hk0) hq_2 (zkt7_4 hk0) hf) mRX7_237 vX0_prepare (zkt7_8 hk0) rfl rfl hl.1 (Nat.le_of_ble_eq_true rfl) ⟨Nat.le_of_ble_eq_true rfl, Nat.le_of_ble_eq_true rfl⟩ dX7_without_17 ⟨Nat.le_of_ble_eq_true rfl, Nat.le_of_ble_eq_true rfl⟩ (fun _ σ_3 H locs h1 hZ => ?_)
  refine lv_aload_n hx hb dX7_without_20 rfl (lv_at hl 0 rfl) ?_
  refine z_getr C0 hZ hk0 fRX7_53 rfl dX7_without_21 ?_
  refine lv_iload_n hx hb dX7_without_24 rfl (lv_at hl 1 rfl) ?_
  refine z_cSi (As := [.int x1]) (rest := [.ref (zad V (k0 + 35))]) C0 hZ h1 (fun _ hf => kX7_bit l  hf) mRX7_231 sX7_bit rfl rfl hl.1 (Nat.le_of_ble_eq_true rfl) ⟨Nat.le_of_ble_eq_true rfl, Nat.le_of_ble_eq_true rfl⟩ dX7_without_25 ⟨Nat.le_of_ble_eq_true rfl, Nat.le_of_ble_eq_true rfl⟩ (fun r_6 σ_5 H locs h1 hZ => ?_)
  refine z_puti C0 hZ h1 (zkt7_8 hk0) fRX7_292 rfl tyX0_ok nmX0 rfl rfl rfl dX7_without_28 (fun σ_7 H locs h1 hZ => ?_)
  refine lv_aload_n hx hb dX7_without_31 rfl (lv_at hl 0 rfl) ?_
  refine z_getr C0 hZ hk0 fRX7_53 rfl dX7_without_32 ?_
  refine z_cVi (As := []) (rest := []) C0 hZ h1 (fun _ hf => kX0_run l (zkt7_8 hk0) hf) mRX7_241 vX0_run (zkt7_8 hk0) rfl rfl hl.1 (Nat.le_of_ble_eq_true rfl) ⟨Nat.le_of_ble_eq_true rfl, Nat.le_of_ble_eq_true rfl⟩ dX7_without_35 ⟨Nat.le_of_ble_eq_true rfl, Nat.le_of_ble_eq_true rfl⟩ (fun r_9 σ_8 H locs h1 hZ => ?_)
  rw [hQ]; exact z_xiret C0 hr hlk hZ h1 ⟨Nat.le_of_ble_eq_true rfl, Nat.le_of_ble_eq_true rfl⟩ dX7_without_38
noncomputable def FX7_sign_b22 (k0 : Nat) (σ : zS) : Option (Int32 × zS) := zbd (FX6_refuse (k0 + 6) 2 σ) (fun _ σ_1 => some ((-1), σ_1))
noncomputable def FX7_sign_b73 (k0 : Nat) (q0 : Nat) (y1 : Int32) (y2 : Int32) (σ : zS) : Option (Int32 × zS) := zbd (FX7_put q0 y1 y2 σ) (fun _ σ_3 => zlet (zup σ_3 (k0 + 6) 10 ((σ_3 (k0 + 6) 10) + 1)) (fun σ_5 => some ((σ_5 (k0 + 6) 10), σ_5)))
noncomputable def FX7_sign (k0 : Nat) (x1 : Int32) (x2 : Int32) (σ : zS) : Option (Int32 × zS) := if 12 ≤ (σ (k0 + 6) 10) then FX7_sign_b22 k0 σ else if x1 < 0 then FX7_sign_b22 k0 σ else if x1 ≤ 9 then zbd (FX7_put ((k0 + 6) + 4) (σ (k0 + 6) 10) x1 σ) (fun _ σ_6 => if x2 = 0 then FX7_sign_b73 k0 ((k0 + 6) + 5) (σ_6 (k0 + 6) 10) 0 σ_6 else FX7_sign_b73 k0 ((k0 + 6) + 5) (σ_6 (k0 + 6) 10) 1 σ_6) else FX7_sign_b22 k0 σ
set_option maxHeartbeats 4000000 in
set_option maxRecDepth 100000 in
theorem kX7_sign (l : Launch) {V : zV} {σ : zS} {t0 : Int32 × zS} {k0 : Nat} {x1 : Int32} {x2 : Int32} (hk0 : kd 0 k0 = 7) (h1 : FX7_sign k0 x1 x2 σ = some t0) : zMi l yX7_sign cX7_sign 3 (some .int) 2 43 0 V σ t0 [.ref (zad V k0), .int x1, .int x2] := by
  refine zMi_of (by decide) (Nat.le_of_ble_eq_true rfl) ?_
  intro p e s m below meth c A C0 hr hlk hZ ls hl
  generalize ([.ref (zad V k0), .int x1, .int x2] : List Value).toArray = args at C0 ⊢
  obtain ⟨Q, hQ⟩ : ∃ Q, Q = MQ below (zQi 0 V t0 A) args s 0 0 A := ⟨_, rfl⟩
  rw [← hQ]
  have hx := C0.1
  have hb := C0.2.1
  have hl : lv_has ls 3 [(0, .ref (zad V k0)), (1, .int x1), (2, .int x2)] := hl
  unfold FX7_sign at h1
  have J22 : ∀  (σ : zS) (H : Heap) (locs : List Loc) (ls : Array Slot), zZ 0 V A σ s H locs → lv_has ls 3 [(0, .ref (zad V k0))] → FX7_sign_b22 k0 σ = some t0 → W p l e (zrm 2 43) s m args below meth c H locs 0 0 Q (F0 m 22 ls []) := by
    intro  σ H locs ls  hZ hl h1
    unfold FX7_sign_b22 at h1
    refine lv_aload_n hx hb dX7_sign_22 rfl (lv_at hl 0 rfl) ?_
    refine z_getr C0 hZ hk0 fRX7_33 rfl dX7_sign_23 ?_
    refine lv_iconst (v := 2) hx hb dX7_sign_26 (by decide) ?_
    refine z_cVv (As := [.int 2]) (rest := []) C0 hZ h1 (fun _ hf => kX6_refuse l (zkt7_4 hk0) hf) mRX7_93 vX6_refuse (zkt7_4 hk0) rfl rfl hl.1 (Nat.le_of_ble_eq_true rfl) ⟨Nat.le_of_ble_eq_true rfl, Nat.le_of_ble_eq_true rfl⟩ dX7_sign_27 ⟨Nat.le_of_ble_eq_true rfl, Nat.le_of_ble_eq_true rfl⟩ (fun _ σ_1 H locs h1 hZ => ?_)
    refine lv_iconst (v := (-1)) hx hb dX7_sign_30 (by decide) ?_
    rw [hQ]; exact z_iret C0 hr hlk hZ h1 dX7_sign_31
  have J73 : ∀ (q0 : Nat) (y1 : Int32) (y2 : Int32) (σ : zS) (H : Heap) (locs : List Loc) (ls : Array Slot), kd 0 q0 = 100 → zZ 0 V A σ s H locs → lv_has ls 3 [(0, .ref (zad V k0))] → FX7_sign_b73 k0 q0 y1 y2 σ = some t0 → W p l e (zrm 2 43) s m args below meth c H locs 0 0 Q (F0 m 73 ls [.int y2, .int y1, .ref (zad V q0)]) := by
    intro q0 y1 y2 σ H locs ls hq0 hZ hl h1
    unfold FX7_sign_b73 at h1
    refine z_cSv (As := [.ref (zad V q0), .int y1, .int y2]) (rest := []) C0 hZ h1 (fun _ hf => kX7_put l hq0 hf) mRX7_79 sX7_put rfl rfl hl.1 (Nat.le_of_ble_eq_true rfl) ⟨Nat.le_of_ble_eq_true rfl, Nat.le_of_ble_eq_true rfl⟩ dX7_sign_73 ⟨Nat.le_of_ble_eq_true rfl, Nat.le_of_ble_eq_true rfl⟩ (fun _ σ_3 H locs h1 hZ => ?_)
    refine lv_aload_n hx hb dX7_sign_76 rfl (lv_at hl 0 rfl) ?_
    refine z_getr C0 hZ hk0 fRX7_33 rfl dX7_sign_77 ?_
    refine lv_dup hx hb dX7_sign_80 rfl ?_
    refine z_geti C0 hZ (zkt7_4 hk0) fRX7_158 rfl dX7_sign_81 ?_
    refine lv_iconst (v := 1) hx hb dX7_sign_84 (by decide) ?_
    refine lv_iadd hx hb dX7_sign_85 ?_
    refine z_puti C0 hZ h1 (zkt7_4 hk0) fRX7_158 rfl tyX6_ok nmX6 rfl rfl rfl dX7_sign_86 (fun σ_5 H locs h1 hZ => ?_)
    refine lv_aload_n hx hb dX7_sign_89 rfl (lv_at hl 0 rfl) ?_
    refine z_getr C0 hZ hk0 fRX7_33 rfl dX7_sign_90 ?_
    refine z_geti C0 hZ (zkt7_4 hk0) fRX7_158 rfl dX7_sign_93 ?_
    rw [hQ]; exact z_iret C0 hr hlk hZ h1 dX7_sign_96
  refine lv_aload_n hx hb dX7_sign_0 rfl (lv_at hl 0 rfl) ?_
  refine z_getr C0 hZ hk0 fRX7_33 rfl dX7_sign_1 ?_
  refine z_geti C0 hZ (zkt7_4 hk0) fRX7_158 rfl dX7_sign_4 ?_
  refine lv_bipush (v := 12) hx hb dX7_sign_7 (by decide) ?_
  refine z_ic_ge (tgt := 22) C0 h1 dX7_sign_9 (by decide) (fun h1 => ?_) (fun h1 => ?_)
  · exact J22  _ _ _ _  hZ (lv_sub hl [0] rfl) h1
  refine lv_iload_n hx hb dX7_sign_12 rfl (lv_at hl 1 rfl) ?_
  refine z_if_lt (tgt := 22) C0 h1 dX7_sign_13 (by decide) (fun h1 => ?_) (fun h1 => ?_)
  · exact J22  _ _ _ _  hZ (lv_sub hl [0] rfl) h1
  refine lv_iload_n hx hb dX7_sign_16 rfl (lv_at hl 1 rfl) ?_
  refine lv_bipush (v := 9) hx hb dX7_sign_17 (by decide) ?_
  refine z_ic_le (tgt := 32) C0 h1 dX7_sign_19 (by decide) (fun h1 => ?_) (fun h1 => ?_)
  · refine lv_aload_n hx hb dX7_sign_32 rfl (lv_at hl 0 rfl) ?_
    refine z_getr C0 hZ hk0 fRX7_33 rfl dX7_sign_33 ?_
    refine z_getr C0 hZ (zkt7_4 hk0) fRX7_295 rfl dX7_sign_36 ?_
    refine lv_aload_n hx hb dX7_sign_39 rfl (lv_at hl 0 rfl) ?_
    refine z_getr C0 hZ hk0 fRX7_33 rfl dX7_sign_40 ?_
    refine z_geti C0 hZ (zkt7_4 hk0) fRX7_158 rfl dX7_sign_43 ?_
    refine lv_iload_n hx hb dX7_sign_46 rfl (lv_at hl 1 rfl) ?_
    refine z_cSv (As := [.ref (zad V ((k0 + 6) + 4)), .int (σ (k0 + 6) 10), .int x1]) (rest := []) C0 hZ h1 (fun _ hf => kX7_put l (zkt6_11 (zkt7_4 hk0)) hf) mRX7_79 sX7_put rfl rfl hl.1 (Nat.le_of_ble_eq_true rfl) ⟨Nat.le_of_ble_eq_true rfl, Nat.le_of_ble_eq_true rfl⟩ dX7_sign_47 ⟨Nat.le_of_ble_eq_true rfl, Nat.le_of_ble_eq_true rfl⟩ (fun _ σ_6 H locs h1 hZ => ?_)
    refine lv_aload_n hx hb dX7_sign_50 rfl (lv_at hl 0 rfl) ?_
    refine z_getr C0 hZ hk0 fRX7_33 rfl dX7_sign_51 ?_
    refine z_getr C0 hZ (zkt7_4 hk0) fRX7_298 rfl dX7_sign_54 ?_
    refine lv_aload_n hx hb dX7_sign_57 rfl (lv_at hl 0 rfl) ?_
    refine z_getr C0 hZ hk0 fRX7_33 rfl dX7_sign_58 ?_
    refine z_geti C0 hZ (zkt7_4 hk0) fRX7_158 rfl dX7_sign_61 ?_
    refine lv_iload_n hx hb dX7_sign_64 rfl (lv_at hl 2 rfl) ?_
    refine z_if_eq (tgt := 72) C0 h1 dX7_sign_65 (by decide) (fun h1 => ?_) (fun h1 => ?_)
    · refine lv_iconst (v := 0) hx hb dX7_sign_72 (by decide) ?_
      exact J73 ((k0 + 6) + 5) (σ_6 (k0 + 6) 10) 0 _ _ _ _ (zkt6_12 (zkt7_4 hk0)) hZ (lv_sub hl [0] rfl) h1
    refine lv_iconst (v := 1) hx hb dX7_sign_68 (by decide) ?_
    refine lv_goto (tgt := 73) hx hb dX7_sign_69 (by decide) ?_
    exact J73 ((k0 + 6) + 5) (σ_6 (k0 + 6) 10) 1 _ _ _ _ (zkt6_12 (zkt7_4 hk0)) hZ (lv_sub hl [0] rfl) h1
  exact J22  _ _ _ _  hZ (lv_sub hl [0] rfl) h1
noncomputable def FX7_fraction_b47 (x2 : Int32) (σ : zS) : Option (Int32 × zS) := some (x2, σ)
noncomputable def FX7_fraction_b58 (x3 : Int32) (y0 : Int32) (σ : zS) : Option (Int32 × zS) := zgd (x3 != 0) (some ((y0 / x3), σ))
noncomputable def FX7_fraction_b39 (x0 : Int32) (x1 : Int32) (x2 : Int32) (x3 : Int32) (σ : zS) : Option (Int32 × zS) := if x1 = 0 then FX7_fraction_b47 x2 σ else if x3 = 0 then FX7_fraction_b47 x2 σ else if x2 = 0 then FX7_fraction_b58 x3 x0 σ else FX7_fraction_b58 x3 x1 σ
noncomputable def FX7_fraction_L8 (x0 : Int32) (x1 : Int32) (x2 : Int32) (x3 : Int32) (x4 : Int32) (x5 : Int32) (σ : zS) : Option ((Int32 × Int32 × Int32 × zS) ⊕ (Int32 × zS)) := if 64 ≤ x5 then zinr (FX7_fraction_b39 x0 x1 x2 x3 σ) else if x4 = 0 then zinr (FX7_fraction_b39 x0 x1 x2 x3 σ) else zgd (x4 != 0) (zlet (x3 - x3 / x4 * x4) (fun x6_1 => zlet x4 (fun x3_2 => zlet x6_1 (fun x4_3 => zlet (x5 + 1) (fun x5_4 => some (.inl (x3_2, x4_3, x5_4, σ)))))))
noncomputable def FX7_fraction (x0 : Int32) (x1 : Int32) (x2 : Int32) (σ : zS) : Option (Int32 × zS) := zlet x0 (fun x3_5 => zlet x1 (fun x4_6 => zlet 0 (fun x5_7 => zlp (fun q => FX7_fraction_L8 x0 x1 x2 q.1 q.2.1 q.2.2.1 q.2.2.2) (x3_5, x4_6, x5_7, σ))))
set_option maxHeartbeats 4000000 in
set_option maxRecDepth 100000 in
theorem kX7_fraction (l : Launch) {V : zV} {σ : zS} {t0 : Int32 × zS} {x0 : Int32} {x1 : Int32} {x2 : Int32}  (h1 : FX7_fraction x0 x1 x2 σ = some t0) : zMi l yX7_fraction cX7_fraction 7 (some .int) 0 0 0 V σ t0 [.int x0, .int x1, .int x2] := by
  refine zMi_of (by decide) (Nat.le_of_ble_eq_true rfl) ?_
  intro p e s m below meth c A C0 hr hlk hZ ls hl
  generalize ([.int x0, .int x1, .int x2] : List Value).toArray = args at C0 ⊢
  obtain ⟨Q, hQ⟩ : ∃ Q, Q = MQ below (zQi 0 V t0 A) args s 0 0 A := ⟨_, rfl⟩
  rw [← hQ]
  have hx := C0.1
  have hb := C0.2.1
  have hl : lv_has ls 7 [(0, .int x0), (1, .int x1), (2, .int x2)] := hl
  unfold FX7_fraction at h1
  have J47 : ∀  (σ : zS) (H : Heap) (locs : List Loc) (ls : Array Slot), zZ 0 V A σ s H locs → lv_has ls 7 [(2, .int x2)] → FX7_fraction_b47 x2 σ = some t0 → W p l e (zrm 0 0) s m args below meth c H locs 0 0 Q (F0 m 47 ls []) := by
    intro  σ H locs ls  hZ hl h1
    unfold FX7_fraction_b47 at h1
    refine lv_iload_n hx hb dX7_fraction_47 rfl (lv_at hl 0 rfl) ?_
    rw [hQ]; exact z_iret C0 hr hlk hZ h1 dX7_fraction_48
  have J58 : ∀ (x3 : Int32) (y0 : Int32) (σ : zS) (H : Heap) (locs : List Loc) (ls : Array Slot), zZ 0 V A σ s H locs → lv_has ls 7 [(3, .int x3)] → FX7_fraction_b58 x3 y0 σ = some t0 → W p l e (zrm 0 0) s m args below meth c H locs 0 0 Q (F0 m 58 ls [.int y0]) := by
    intro x3 y0 σ H locs ls  hZ hl h1
    unfold FX7_fraction_b58 at h1
    refine lv_iload_n hx hb dX7_fraction_58 rfl (lv_at hl 0 rfl) ?_
    refine z_idiv C0 h1 dX7_fraction_59 (fun h1 => ?_)
    rw [hQ]; exact z_iret C0 hr hlk hZ h1 dX7_fraction_60
  have J39 : ∀ (x3 : Int32) (σ : zS) (H : Heap) (locs : List Loc) (ls : Array Slot), zZ 0 V A σ s H locs → lv_has ls 7 [(0, .int x0), (1, .int x1), (2, .int x2), (3, .int x3)] → FX7_fraction_b39 x0 x1 x2 x3 σ = some t0 → W p l e (zrm 0 0) s m args below meth c H locs 0 0 Q (F0 m 39 ls []) := by
    intro x3 σ H locs ls  hZ hl h1
    unfold FX7_fraction_b39 at h1
    refine lv_iload_n hx hb dX7_fraction_39 rfl (lv_at hl 1 rfl) ?_
    refine z_if_eq (tgt := 47) C0 h1 dX7_fraction_40 (by decide) (fun h1 => ?_) (fun h1 => ?_)
    · exact J47  _ _ _ _  hZ (lv_sub hl [2] rfl) h1
    refine lv_iload_n hx hb dX7_fraction_43 rfl (lv_at hl 3 rfl) ?_
    refine z_if_ne (tgt := 49) C0 h1 dX7_fraction_44 (by decide) (fun h1 => ?_) (fun h1 => ?_)
    · refine lv_iload_n hx hb dX7_fraction_49 rfl (lv_at hl 2 rfl) ?_
      refine z_if_ne (tgt := 57) C0 h1 dX7_fraction_50 (by decide) (fun h1 => ?_) (fun h1 => ?_)
      · refine lv_iload_n hx hb dX7_fraction_57 rfl (lv_at hl 1 rfl) ?_
        exact J58 x3 x1 _ _ _ _  hZ (lv_sub hl [3] rfl) h1
      refine lv_iload_n hx hb dX7_fraction_53 rfl (lv_at hl 0 rfl) ?_
      refine lv_goto (tgt := 58) hx hb dX7_fraction_54 (by decide) ?_
      exact J58 x3 x0 _ _ _ _  hZ (lv_sub hl [3] rfl) h1
    exact J47  _ _ _ _  hZ (lv_sub hl [2] rfl) h1
  have J8 : ∀ (n : Nat) (x3 : Int32) (x4 : Int32) (x5 : Int32) (σ : zS) (H : Heap) (locs : List Loc) (ls : Array Slot), zZ 0 V A σ s H locs → lv_has ls 7 [(0, .int x0), (1, .int x1), (2, .int x2), (3, .int x3), (4, .int x4), (5, .int x5)] → zit (fun q => FX7_fraction_L8 x0 x1 x2 q.1 q.2.1 q.2.2.1 q.2.2.2) n (x3, x4, x5, σ) = some t0 → W p l e (zrm 0 0) s m args below meth c H locs 0 0 Q (F0 m 8 ls []) := by
    intro n
    induction n with
    | zero => intro x3 x4 x5 σ H locs ls  _ _ h1; cases h1
    | succ n ih8 =>
      intro x3 x4 x5 σ H locs ls  hZ hl h1
      obtain ⟨t1, h1, hz1⟩ := zit_1 h1
      replace h1 : FX7_fraction_L8 x0 x1 x2 x3 x4 x5 σ = some t1 := h1
      unfold FX7_fraction_L8 at h1
      refine lv_iload hx hb dX7_fraction_8 (lv_at hl 5 rfl) ?_
      refine lv_bipush (v := 64) hx hb dX7_fraction_10 (by decide) ?_
      refine z_ic_ge (tgt := 39) C0 h1 dX7_fraction_12 (by decide) (fun h1 => ?_) (fun h1 => ?_)
      · have h1 := zout h1 hz1
        exact J39 x3 _ _ _ _  hZ (lv_sub hl [0, 1, 2, 3] rfl) h1
      refine lv_iload hx hb dX7_fraction_15 (lv_at hl 4 rfl) ?_
      refine z_if_eq (tgt := 39) C0 h1 dX7_fraction_17 (by decide) (fun h1 => ?_) (fun h1 => ?_)
      · have h1 := zout h1 hz1
        exact J39 x3 _ _ _ _  hZ (lv_sub hl [0, 1, 2, 3] rfl) h1
      refine lv_iload_n hx hb dX7_fraction_20 rfl (lv_at hl 3 rfl) ?_
      refine lv_iload hx hb dX7_fraction_21 (lv_at hl 4 rfl) ?_
      refine z_irem C0 h1 dX7_fraction_23 (fun h1 => ?_)
      refine z_istore C0 h1 hl (fun x6_1 => [(6, .int x6_1), (0, .int x0), (1, .int x1), (2, .int x2), (3, .int x3), (4, .int x4), (5, .int x5)]) dX7_fraction_24 (by decide) (fun _ => rfl) (fun x6_1 ls h1 hl => ?_)
      refine lv_iload hx hb dX7_fraction_26 (lv_at hl 5 rfl) ?_
      refine z_istore_n C0 h1 hl (fun x3_2 => [(3, .int x3_2), (6, .int x6_1), (0, .int x0), (1, .int x1), (2, .int x2), (4, .int x4), (5, .int x5)]) dX7_fraction_28 rfl (by decide) (fun _ => rfl) (fun x3_2 ls h1 hl => ?_)
      refine lv_iload hx hb dX7_fraction_29 (lv_at hl 1 rfl) ?_
      refine z_istore C0 h1 hl (fun x4_3 => [(4, .int x4_3), (3, .int x3_2), (6, .int x6_1), (0, .int x0), (1, .int x1), (2, .int x2), (5, .int x5)]) dX7_fraction_31 (by decide) (fun _ => rfl) (fun x4_3 ls h1 hl => ?_)
      refine z_iinc (v := 1) C0 h1 hl (fun x5_4 => [(5, .int x5_4), (4, .int x4_3), (3, .int x3_2), (6, .int x6_1), (0, .int x0), (1, .int x1), (2, .int x2)]) dX7_fraction_33 (k := 6) rfl (by decide) (by decide) (fun _ => rfl) (fun x5_4 ls h1 hl => ?_)
      refine lv_goto (tgt := 8) hx hb dX7_fraction_36 (by decide) ?_
      exact ih8 x3_2 x4_3 x5_4 _ _ _ _  hZ (lv_sub hl [4, 5, 6, 2, 1, 0] rfl) (zback h1 hz1)
  refine lv_iload_n hx hb dX7_fraction_0 rfl (lv_at hl 0 rfl) ?_
  refine z_istore_n C0 h1 hl (fun x3_5 => [(3, .int x3_5), (0, .int x0), (1, .int x1), (2, .int x2)]) dX7_fraction_1 rfl (by decide) (fun _ => rfl) (fun x3_5 ls h1 hl => ?_)
  refine lv_iload_n hx hb dX7_fraction_2 rfl (lv_at hl 2 rfl) ?_
  refine z_istore C0 h1 hl (fun x4_6 => [(4, .int x4_6), (3, .int x3_5), (0, .int x0), (1, .int x1), (2, .int x2)]) dX7_fraction_3 (by decide) (fun _ => rfl) (fun x4_6 ls h1 hl => ?_)
  refine lv_iconst (v := 0) hx hb dX7_fraction_5 (by decide) ?_
  refine z_istore C0 h1 hl (fun x5_7 => [(5, .int x5_7), (4, .int x4_6), (3, .int x3_5), (0, .int x0), (1, .int x1), (2, .int x2)]) dX7_fraction_6 (by decide) (fun _ => rfl) (fun x5_7 ls h1 hl => ?_)
  obtain ⟨n, h1⟩ := zlp_iff.mp h1
  exact J8 n x3_5 x4_6 x5_7 _ _ _ _  hZ (lv_sub hl [3, 4, 5, 2, 1, 0] rfl) h1
noncomputable def FX7_odds_b9  (σ : zS) : Option zT3 := some (1, 0, σ)
noncomputable def FX7_odds_b27  (σ : zS) : Option zT3 := some (2, 0, σ)
noncomputable def FX7_odds (k0 : Nat) (x1 : Int32) (x2 : Int32) (σ : zS) : Option zT3 := if x2 < 0 then FX7_odds_b9  σ else if x2 ≤ 1 then if x1 < 0 then FX7_odds_b27  σ else if x1 ≤ 9 then zbd (FX6_hadFrom (k0 + 6) x1 σ) (fun r_2 σ_1 => zbd (FX6_toldFrom (k0 + 6) x1 σ_1) (fun r_4 σ_3 => zbd (FX7_fraction r_2 r_4 x2 σ_3) (fun r_6 σ_5 => some (0, r_6, σ_5)))) else FX7_odds_b27  σ else FX7_odds_b9  σ
set_option maxHeartbeats 4000000 in
set_option maxRecDepth 100000 in
theorem kX7_odds (l : Launch) (hfl : l.stackTraces = false) {V : zV} {σ : zS} {t0 : zT3} {k0 : Nat} {x1 : Int32} {x2 : Int32} (hk0 : kd 0 k0 = 7) (h1 : FX7_odds k0 x1 x2 σ = some t0) : zXi l yX7_odds cX7_odds 3 (some .int) 6 90 1 6 0 V σ t0 [.ref (zad V k0), .int x1, .int x2] := by
  refine zXi_of (by decide) (Nat.le_of_ble_eq_true rfl) ?_
  intro p e s m below meth c A C0 hr hlk hnt hZ ls hl
  generalize ([.ref (zad V k0), .int x1, .int x2] : List Value).toArray = args at C0 ⊢
  obtain ⟨Q, hQ⟩ : ∃ Q, Q = vx_MQ below (zxQ 0 V t0 A) (zxX 0 V t0 A) args s 1 6 A := ⟨_, rfl⟩
  rw [← hQ]
  have hx := C0.1
  have hb := C0.2.1
  have hl : lv_has ls 3 [(0, .ref (zad V k0)), (1, .int x1), (2, .int x2)] := hl
  unfold FX7_odds at h1
  have J9 : ∀  (σ : zS) (H : Heap) (locs : List Loc) (ls : Array Slot), zZ 0 V A σ s H locs → lv_has ls 3 [] → FX7_odds_b9  σ = some t0 → W p l e { frames := 6, cells := 1, slots := 6, locals := 90 } s m args below meth c H locs 0 0 Q (F0 m 9 ls []) := by
    intro  σ H locs ls  hZ hl h1
    unfold FX7_odds_b9 at h1
    rw [hQ]; exact z_throw (n := 0) C0 hfl hnt hl.1 hlk hZ h1 xxRX7_171 dX7_odds_9 dX7_odds_12 dX7_odds_13 dX7_odds_16 ⟨Nat.le_of_ble_eq_true rfl, Nat.le_of_ble_eq_true rfl, Nat.le_of_ble_eq_true rfl, Nat.le_of_ble_eq_true rfl⟩ ⟨Nat.le_of_ble_eq_true rfl, Nat.le_of_ble_eq_true rfl⟩
  have J27 : ∀  (σ : zS) (H : Heap) (locs : List Loc) (ls : Array Slot), zZ 0 V A σ s H locs → lv_has ls 3 [] → FX7_odds_b27  σ = some t0 → W p l e { frames := 6, cells := 1, slots := 6, locals := 90 } s m args below meth c H locs 0 0 Q (F0 m 27 ls []) := by
    intro  σ H locs ls  hZ hl h1
    unfold FX7_odds_b27 at h1
    rw [hQ]; exact z_throw (n := 1) C0 hfl hnt hl.1 hlk hZ h1 xxRX7_83 dX7_odds_27 dX7_odds_30 dX7_odds_31 dX7_odds_34 ⟨Nat.le_of_ble_eq_true rfl, Nat.le_of_ble_eq_true rfl, Nat.le_of_ble_eq_true rfl, Nat.le_of_ble_eq_true rfl⟩ ⟨Nat.le_of_ble_eq_true rfl, Nat.le_of_ble_eq_true rfl⟩
  refine lv_iload_n hx hb dX7_odds_0 rfl (lv_at hl 2 rfl) ?_
  refine z_if_lt (tgt := 9) C0 h1 dX7_odds_1 (by decide) (fun h1 => ?_) (fun h1 => ?_)
  · exact J9  _ _ _ _  hZ (lv_sub hl [] rfl) h1
  refine lv_iload_n hx hb dX7_odds_4 rfl (lv_at hl 2 rfl) ?_
  refine lv_iconst (v := 1) hx hb dX7_odds_5 (by decide) ?_
  refine z_ic_le (tgt := 17) C0 h1 dX7_odds_6 (by decide) (fun h1 => ?_) (fun h1 => ?_)
  · refine lv_iload_n hx hb dX7_odds_17 rfl (lv_at hl 1 rfl) ?_
    refine z_if_lt (tgt := 27) C0 h1 dX7_odds_18 (by decide) (fun h1 => ?_) (fun h1 => ?_)
    · exact J27  _ _ _ _  hZ (lv_sub hl [] rfl) h1
    refine lv_iload_n hx hb dX7_odds_21 rfl (lv_at hl 1 rfl) ?_
    refine lv_bipush (v := 9) hx hb dX7_odds_22 (by decide) ?_
    refine z_ic_le (tgt := 35) C0 h1 dX7_odds_24 (by decide) (fun h1 => ?_) (fun h1 => ?_)
    · refine lv_aload_n hx hb dX7_odds_35 rfl (lv_at hl 0 rfl) ?_
      refine z_getr C0 hZ hk0 fRX7_33 rfl dX7_odds_36 ?_
      refine lv_iload_n hx hb dX7_odds_39 rfl (lv_at hl 1 rfl) ?_
      refine z_cVi (As := [.int x1]) (rest := []) C0 hZ h1 (fun _ hf => kX6_hadFrom l (zkt7_4 hk0) hf) mRX7_301 vX6_hadFrom (zkt7_4 hk0) rfl rfl hl.1 (Nat.le_of_ble_eq_true rfl) ⟨Nat.le_of_ble_eq_true rfl, Nat.le_of_ble_eq_true rfl⟩ dX7_odds_40 ⟨Nat.le_of_ble_eq_true rfl, Nat.le_of_ble_eq_true rfl⟩ (fun r_2 σ_1 H locs h1 hZ => ?_)
      refine lv_aload_n hx hb dX7_odds_43 rfl (lv_at hl 0 rfl) ?_
      refine z_getr C0 hZ hk0 fRX7_33 rfl dX7_odds_44 ?_
      refine lv_iload_n hx hb dX7_odds_47 rfl (lv_at hl 1 rfl) ?_
      refine z_cVi (As := [.int x1]) (rest := [.int r_2]) C0 hZ h1 (fun _ hf => kX6_toldFrom l (zkt7_4 hk0) hf) mRX7_304 vX6_toldFrom (zkt7_4 hk0) rfl rfl hl.1 (Nat.le_of_ble_eq_true rfl) ⟨Nat.le_of_ble_eq_true rfl, Nat.le_of_ble_eq_true rfl⟩ dX7_odds_48 ⟨Nat.le_of_ble_eq_true rfl, Nat.le_of_ble_eq_true rfl⟩ (fun r_4 σ_3 H locs h1 hZ => ?_)
      refine lv_iload_n hx hb dX7_odds_51 rfl (lv_at hl 2 rfl) ?_
      refine z_cSi (As := [.int r_2, .int r_4, .int x2]) (rest := []) C0 hZ h1 (fun _ hf => kX7_fraction l  hf) mRX7_307 sX7_fraction rfl rfl hl.1 (Nat.le_of_ble_eq_true rfl) ⟨Nat.le_of_ble_eq_true rfl, Nat.le_of_ble_eq_true rfl⟩ dX7_odds_52 ⟨Nat.le_of_ble_eq_true rfl, Nat.le_of_ble_eq_true rfl⟩ (fun r_6 σ_5 H locs h1 hZ => ?_)
      rw [hQ]; exact z_xiret C0 hr hlk hZ h1 ⟨Nat.le_of_ble_eq_true rfl, Nat.le_of_ble_eq_true rfl⟩ dX7_odds_55
    exact J27  _ _ _ _  hZ (lv_sub hl [] rfl) h1
  exact J9  _ _ _ _  hZ (lv_sub hl [] rfl) h1
noncomputable def FX7_line_b39  (σ : zS) : Option (Int32 × zS) := some ((-1), σ)
noncomputable def FX7_line_b31 (x1 : Int32) (σ : zS) : Option (Int32 × zS) := some (x1, σ)
noncomputable def FX7_line_L2 (k0 : Nat) (x1 : Int32) (σ : zS) : Option ((Int32 × zS) ⊕ (Int32 × zS)) := if 9 < x1 then zinr (FX7_line_b39  σ) else zbd (FX6_hadFrom (k0 + 6) x1 σ) (fun r_2 σ_1 => zlet r_2 (fun x2_3 => zbd (FX6_toldFrom (k0 + 6) x1 σ_1) (fun r_5 σ_4 => if x2_3 ≤ (r_5 - x2_3) then zlet (x1 + 1) (fun x1_6 => some (.inl (x1_6, σ_4))) else zinr (FX7_line_b31 x1 σ_4))))
noncomputable def FX7_line (k0 : Nat) (σ : zS) : Option (Int32 × zS) := zlet 0 (fun x1_7 => zlp (fun q => FX7_line_L2 k0 q.1 q.2) (x1_7, σ))
set_option maxHeartbeats 4000000 in
set_option maxRecDepth 100000 in
theorem kX7_line (l : Launch) {V : zV} {σ : zS} {t0 : Int32 × zS} {k0 : Nat} (hk0 : kd 0 k0 = 7) (h1 : FX7_line k0 σ = some t0) : zMi l yX7_line cX7_line 3 (some .int) 2 44 0 V σ t0 [.ref (zad V k0)] := by
  refine zMi_of (by decide) (Nat.le_of_ble_eq_true rfl) ?_
  intro p e s m below meth c A C0 hr hlk hZ ls hl
  generalize ([.ref (zad V k0)] : List Value).toArray = args at C0 ⊢
  obtain ⟨Q, hQ⟩ : ∃ Q, Q = MQ below (zQi 0 V t0 A) args s 0 0 A := ⟨_, rfl⟩
  rw [← hQ]
  have hx := C0.1
  have hb := C0.2.1
  have hl : lv_has ls 3 [(0, .ref (zad V k0))] := hl
  unfold FX7_line at h1
  have J39 : ∀  (σ : zS) (H : Heap) (locs : List Loc) (ls : Array Slot), zZ 0 V A σ s H locs → lv_has ls 3 [] → FX7_line_b39  σ = some t0 → W p l e (zrm 2 44) s m args below meth c H locs 0 0 Q (F0 m 39 ls []) := by
    intro  σ H locs ls  hZ hl h1
    unfold FX7_line_b39 at h1
    refine lv_iconst (v := (-1)) hx hb dX7_line_39 (by decide) ?_
    rw [hQ]; exact z_iret C0 hr hlk hZ h1 dX7_line_40
  have J31 : ∀ (x1 : Int32) (σ : zS) (H : Heap) (locs : List Loc) (ls : Array Slot), zZ 0 V A σ s H locs → lv_has ls 3 [(1, .int x1)] → FX7_line_b31 x1 σ = some t0 → W p l e (zrm 2 44) s m args below meth c H locs 0 0 Q (F0 m 31 ls []) := by
    intro x1 σ H locs ls  hZ hl h1
    unfold FX7_line_b31 at h1
    refine lv_iload_n hx hb dX7_line_31 rfl (lv_at hl 0 rfl) ?_
    rw [hQ]; exact z_iret C0 hr hlk hZ h1 dX7_line_32
  have J2 : ∀ (n : Nat) (x1 : Int32) (σ : zS) (H : Heap) (locs : List Loc) (ls : Array Slot), zZ 0 V A σ s H locs → lv_has ls 3 [(0, .ref (zad V k0)), (1, .int x1)] → zit (fun q => FX7_line_L2 k0 q.1 q.2) n (x1, σ) = some t0 → W p l e (zrm 2 44) s m args below meth c H locs 0 0 Q (F0 m 2 ls []) := by
    intro n
    induction n with
    | zero => intro x1 σ H locs ls  _ _ h1; cases h1
    | succ n ih2 =>
      intro x1 σ H locs ls  hZ hl h1
      obtain ⟨t1, h1, hz1⟩ := zit_1 h1
      replace h1 : FX7_line_L2 k0 x1 σ = some t1 := h1
      unfold FX7_line_L2 at h1
      refine lv_iload_n hx hb dX7_line_2 rfl (lv_at hl 1 rfl) ?_
      refine lv_bipush (v := 9) hx hb dX7_line_3 (by decide) ?_
      refine z_ic_gt (tgt := 39) C0 h1 dX7_line_5 (by decide) (fun h1 => ?_) (fun h1 => ?_)
      · have h1 := zout h1 hz1
        exact J39  _ _ _ _  hZ (lv_sub hl [] rfl) h1
      refine lv_aload_n hx hb dX7_line_8 rfl (lv_at hl 0 rfl) ?_
      refine z_getr C0 hZ hk0 fRX7_33 rfl dX7_line_9 ?_
      refine lv_iload_n hx hb dX7_line_12 rfl (lv_at hl 1 rfl) ?_
      refine z_cVi (As := [.int x1]) (rest := []) C0 hZ h1 (fun _ hf => kX6_hadFrom l (zkt7_4 hk0) hf) mRX7_301 vX6_hadFrom (zkt7_4 hk0) rfl rfl hl.1 (Nat.le_of_ble_eq_true rfl) ⟨Nat.le_of_ble_eq_true rfl, Nat.le_of_ble_eq_true rfl⟩ dX7_line_13 ⟨Nat.le_of_ble_eq_true rfl, Nat.le_of_ble_eq_true rfl⟩ (fun r_2 σ_1 H locs h1 hZ => ?_)
      refine z_istore_n C0 h1 hl (fun x2_3 => [(2, .int x2_3), (0, .ref (zad V k0)), (1, .int x1)]) dX7_line_16 rfl (by decide) (fun _ => rfl) (fun x2_3 ls h1 hl => ?_)
      refine lv_iload_n hx hb dX7_line_17 rfl (lv_at hl 0 rfl) ?_
      refine lv_aload_n hx hb dX7_line_18 rfl (lv_at hl 1 rfl) ?_
      refine z_getr C0 hZ hk0 fRX7_33 rfl dX7_line_19 ?_
      refine lv_iload_n hx hb dX7_line_22 rfl (lv_at hl 2 rfl) ?_
      refine z_cVi (As := [.int x1]) (rest := [.int x2_3]) C0 hZ h1 (fun _ hf => kX6_toldFrom l (zkt7_4 hk0) hf) mRX7_304 vX6_toldFrom (zkt7_4 hk0) rfl rfl hl.1 (Nat.le_of_ble_eq_true rfl) ⟨Nat.le_of_ble_eq_true rfl, Nat.le_of_ble_eq_true rfl⟩ dX7_line_23 ⟨Nat.le_of_ble_eq_true rfl, Nat.le_of_ble_eq_true rfl⟩ (fun r_5 σ_4 H locs h1 hZ => ?_)
      refine lv_iload_n hx hb dX7_line_26 rfl (lv_at hl 0 rfl) ?_
      refine lv_isub hx hb dX7_line_27 ?_
      refine z_ic_le (tgt := 33) C0 h1 dX7_line_28 (by decide) (fun h1 => ?_) (fun h1 => ?_)
      · refine z_iinc (v := 1) C0 h1 hl (fun x1_6 => [(1, .int x1_6), (2, .int x2_3), (0, .ref (zad V k0))]) dX7_line_33 (k := 2) rfl (by decide) (by decide) (fun _ => rfl) (fun x1_6 ls h1 hl => ?_)
        refine lv_goto (tgt := 2) hx hb dX7_line_36 (by decide) ?_
        exact ih2 x1_6 _ _ _ _  hZ (lv_sub hl [2, 0] rfl) (zback h1 hz1)
      have h1 := zout h1 hz1
      exact J31 x1 _ _ _ _  hZ (lv_sub hl [2] rfl) h1
  refine lv_iconst (v := 0) hx hb dX7_line_0 (by decide) ?_
  refine z_istore_n C0 h1 hl (fun x1_7 => [(1, .int x1_7), (0, .ref (zad V k0))]) dX7_line_1 rfl (by decide) (fun _ => rfl) (fun x1_7 ls h1 hl => ?_)
  obtain ⟨n, h1⟩ := zlp_iff.mp h1
  exact J2 n x1_7 _ _ _ _  hZ (lv_sub hl [1, 0] rfl) h1
noncomputable def FX7_gate_b11  (σ : zS) : Option zT3 := some (1, 0, σ)
noncomputable def FX7_gate_b61  (σ : zS) : Option zT3 := some (2, 0, σ)
noncomputable def FX7_gate (k0 : Nat) (x1 : Int32) (x2 : Int32) (x3 : Int32) (x4 : Int32) (x5 : Int32) (σ : zS) : Option zT3 := if x5 < 0 then FX7_gate_b11  σ else if x5 ≤ 1 then if x2 < 1 then FX7_gate_b61  σ else if 99 < x2 then FX7_gate_b61  σ else if x1 < 0 then FX7_gate_b61  σ else if x2 < x1 then FX7_gate_b61  σ else if x3 < 0 then FX7_gate_b61  σ else if 10 < x3 then FX7_gate_b61  σ else if x4 < 0 then FX7_gate_b61  σ else if x4 ≤ 10 then zlet (x1 * x3) (fun x6_1 => zbd (FX7_fraction x6_1 (x6_1 + ((x2 - x1) * x4)) x5 σ) (fun r_3 σ_2 => some (0, r_3, σ_2))) else FX7_gate_b61  σ else FX7_gate_b11  σ
set_option maxHeartbeats 4000000 in
set_option maxRecDepth 100000 in
theorem kX7_gate (l : Launch) (hfl : l.stackTraces = false) {V : zV} {σ : zS} {t0 : zT3} {k0 : Nat} {x1 : Int32} {x2 : Int32} {x3 : Int32} {x4 : Int32} {x5 : Int32} (hk0 : kd 0 k0 = 7) (h1 : FX7_gate k0 x1 x2 x3 x4 x5 σ = some t0) : zXi l yX7_gate cX7_gate 7 (some .int) 6 90 1 6 0 V σ t0 [.ref (zad V k0), .int x1, .int x2, .int x3, .int x4, .int x5] := by
  refine zXi_of (by decide) (Nat.le_of_ble_eq_true rfl) ?_
  intro p e s m below meth c A C0 hr hlk hnt hZ ls hl
  generalize ([.ref (zad V k0), .int x1, .int x2, .int x3, .int x4, .int x5] : List Value).toArray = args at C0 ⊢
  obtain ⟨Q, hQ⟩ : ∃ Q, Q = vx_MQ below (zxQ 0 V t0 A) (zxX 0 V t0 A) args s 1 6 A := ⟨_, rfl⟩
  rw [← hQ]
  have hx := C0.1
  have hb := C0.2.1
  have hl : lv_has ls 7 [(0, .ref (zad V k0)), (1, .int x1), (2, .int x2), (3, .int x3), (4, .int x4), (5, .int x5)] := hl
  unfold FX7_gate at h1
  have J11 : ∀  (σ : zS) (H : Heap) (locs : List Loc) (ls : Array Slot), zZ 0 V A σ s H locs → lv_has ls 7 [] → FX7_gate_b11  σ = some t0 → W p l e { frames := 6, cells := 1, slots := 6, locals := 90 } s m args below meth c H locs 0 0 Q (F0 m 11 ls []) := by
    intro  σ H locs ls  hZ hl h1
    unfold FX7_gate_b11 at h1
    rw [hQ]; exact z_throw (n := 0) C0 hfl hnt hl.1 hlk hZ h1 xxRX7_171 dX7_gate_11 dX7_gate_14 dX7_gate_15 dX7_gate_18 ⟨Nat.le_of_ble_eq_true rfl, Nat.le_of_ble_eq_true rfl, Nat.le_of_ble_eq_true rfl, Nat.le_of_ble_eq_true rfl⟩ ⟨Nat.le_of_ble_eq_true rfl, Nat.le_of_ble_eq_true rfl⟩
  have J61 : ∀  (σ : zS) (H : Heap) (locs : List Loc) (ls : Array Slot), zZ 0 V A σ s H locs → lv_has ls 7 [] → FX7_gate_b61  σ = some t0 → W p l e { frames := 6, cells := 1, slots := 6, locals := 90 } s m args below meth c H locs 0 0 Q (F0 m 61 ls []) := by
    intro  σ H locs ls  hZ hl h1
    unfold FX7_gate_b61 at h1
    rw [hQ]; exact z_throw (n := 1) C0 hfl hnt hl.1 hlk hZ h1 xxRX7_83 dX7_gate_61 dX7_gate_64 dX7_gate_65 dX7_gate_68 ⟨Nat.le_of_ble_eq_true rfl, Nat.le_of_ble_eq_true rfl, Nat.le_of_ble_eq_true rfl, Nat.le_of_ble_eq_true rfl⟩ ⟨Nat.le_of_ble_eq_true rfl, Nat.le_of_ble_eq_true rfl⟩
  refine lv_iload hx hb dX7_gate_0 (lv_at hl 5 rfl) ?_
  refine z_if_lt (tgt := 11) C0 h1 dX7_gate_2 (by decide) (fun h1 => ?_) (fun h1 => ?_)
  · exact J11  _ _ _ _  hZ (lv_sub hl [] rfl) h1
  refine lv_iload hx hb dX7_gate_5 (lv_at hl 5 rfl) ?_
  refine lv_iconst (v := 1) hx hb dX7_gate_7 (by decide) ?_
  refine z_ic_le (tgt := 19) C0 h1 dX7_gate_8 (by decide) (fun h1 => ?_) (fun h1 => ?_)
  · refine lv_iload_n hx hb dX7_gate_19 rfl (lv_at hl 2 rfl) ?_
    refine lv_iconst (v := 1) hx hb dX7_gate_20 (by decide) ?_
    refine z_ic_lt (tgt := 61) C0 h1 dX7_gate_21 (by decide) (fun h1 => ?_) (fun h1 => ?_)
    · exact J61  _ _ _ _  hZ (lv_sub hl [] rfl) h1
    refine lv_iload_n hx hb dX7_gate_24 rfl (lv_at hl 2 rfl) ?_
    refine lv_bipush (v := 99) hx hb dX7_gate_25 (by decide) ?_
    refine z_ic_gt (tgt := 61) C0 h1 dX7_gate_27 (by decide) (fun h1 => ?_) (fun h1 => ?_)
    · exact J61  _ _ _ _  hZ (lv_sub hl [] rfl) h1
    refine lv_iload_n hx hb dX7_gate_30 rfl (lv_at hl 1 rfl) ?_
    refine z_if_lt (tgt := 61) C0 h1 dX7_gate_31 (by decide) (fun h1 => ?_) (fun h1 => ?_)
    · exact J61  _ _ _ _  hZ (lv_sub hl [] rfl) h1
    refine lv_iload_n hx hb dX7_gate_34 rfl (lv_at hl 1 rfl) ?_
    refine lv_iload_n hx hb dX7_gate_35 rfl (lv_at hl 2 rfl) ?_
    refine z_ic_gt (tgt := 61) C0 h1 dX7_gate_36 (by decide) (fun h1 => ?_) (fun h1 => ?_)
    · exact J61  _ _ _ _  hZ (lv_sub hl [] rfl) h1
    refine lv_iload_n hx hb dX7_gate_39 rfl (lv_at hl 3 rfl) ?_
    refine z_if_lt (tgt := 61) C0 h1 dX7_gate_40 (by decide) (fun h1 => ?_) (fun h1 => ?_)
    · exact J61  _ _ _ _  hZ (lv_sub hl [] rfl) h1
    refine lv_iload_n hx hb dX7_gate_43 rfl (lv_at hl 3 rfl) ?_
    refine lv_bipush (v := 10) hx hb dX7_gate_44 (by decide) ?_
    refine z_ic_gt (tgt := 61) C0 h1 dX7_gate_46 (by decide) (fun h1 => ?_) (fun h1 => ?_)
    · exact J61  _ _ _ _  hZ (lv_sub hl [] rfl) h1
    refine lv_iload hx hb dX7_gate_49 (lv_at hl 4 rfl) ?_
    refine z_if_lt (tgt := 61) C0 h1 dX7_gate_51 (by decide) (fun h1 => ?_) (fun h1 => ?_)
    · exact J61  _ _ _ _  hZ (lv_sub hl [] rfl) h1
    refine lv_iload hx hb dX7_gate_54 (lv_at hl 4 rfl) ?_
    refine lv_bipush (v := 10) hx hb dX7_gate_56 (by decide) ?_
    refine z_ic_le (tgt := 69) C0 h1 dX7_gate_58 (by decide) (fun h1 => ?_) (fun h1 => ?_)
    · refine lv_iload_n hx hb dX7_gate_69 rfl (lv_at hl 1 rfl) ?_
      refine lv_iload_n hx hb dX7_gate_70 rfl (lv_at hl 3 rfl) ?_
      refine lv_imul hx hb dX7_gate_71 ?_
      refine z_istore C0 h1 hl (fun x6_1 => [(6, .int x6_1), (0, .ref (zad V k0)), (1, .int x1), (2, .int x2), (3, .int x3), (4, .int x4), (5, .int x5)]) dX7_gate_72 (by decide) (fun _ => rfl) (fun x6_1 ls h1 hl => ?_)
      refine lv_iload hx hb dX7_gate_74 (lv_at hl 0 rfl) ?_
      refine lv_iload hx hb dX7_gate_76 (lv_at hl 0 rfl) ?_
      refine lv_iload_n hx hb dX7_gate_78 rfl (lv_at hl 3 rfl) ?_
      refine lv_iload_n hx hb dX7_gate_79 rfl (lv_at hl 2 rfl) ?_
      refine lv_isub hx hb dX7_gate_80 ?_
      refine lv_iload hx hb dX7_gate_81 (lv_at hl 5 rfl) ?_
      refine lv_imul hx hb dX7_gate_83 ?_
      refine lv_iadd hx hb dX7_gate_84 ?_
      refine lv_iload hx hb dX7_gate_85 (lv_at hl 6 rfl) ?_
      refine z_cSi (As := [.int x6_1, .int (x6_1 + ((x2 - x1) * x4)), .int x5]) (rest := []) C0 hZ h1 (fun _ hf => kX7_fraction l  hf) mRX7_307 sX7_fraction rfl rfl hl.1 (Nat.le_of_ble_eq_true rfl) ⟨Nat.le_of_ble_eq_true rfl, Nat.le_of_ble_eq_true rfl⟩ dX7_gate_87 ⟨Nat.le_of_ble_eq_true rfl, Nat.le_of_ble_eq_true rfl⟩ (fun r_3 σ_2 H locs h1 hZ => ?_)
      rw [hQ]; exact z_xiret C0 hr hlk hZ h1 ⟨Nat.le_of_ble_eq_true rfl, Nat.le_of_ble_eq_true rfl⟩ dX7_gate_90
    exact J61  _ _ _ _  hZ (lv_sub hl [] rfl) h1
  exact J11  _ _ _ _  hZ (lv_sub hl [] rfl) h1
noncomputable def FX7_miss_b33 (k0 : Nat) (σ : zS) : Option (Int32 × zS) := zbd (FX6_refuse (k0 + 6) 2 σ) (fun _ σ_1 => some ((-1), σ_1))
noncomputable def FX7_miss (k0 : Nat) (x1 : Int32) (x2 : Int32) (σ : zS) : Option (Int32 × zS) := if 8 ≤ (σ (k0 + 6) 13) then FX7_miss_b33 k0 σ else zgd (kd 0 (σ k0 2).toNatClampNeg == 5) (zlet (σ k0 2).toNatClampNeg (fun q_3 => zbd (FX1_hasAisle (q_3 + 1) x1 σ) (fun r_5 σ_4 => if r_5 = 0 then FX7_miss_b33 k0 σ_4 else zbd (FX7_isMinute x2 σ_4) (fun r_7 σ_6 => if r_7 = 0 then FX7_miss_b33 k0 σ_6 else zbd (FX7_put ((k0 + 6) + 6) (σ_6 (k0 + 6) 13) x1 σ_6) (fun _ σ_8 => zbd (FX7_put ((k0 + 6) + 7) (σ_8 (k0 + 6) 13) x2 σ_8) (fun _ σ_10 => zlet (zup σ_10 (k0 + 6) 13 ((σ_10 (k0 + 6) 13) + 1)) (fun σ_12 => some ((σ_12 (k0 + 6) 13), σ_12))))))))
set_option maxHeartbeats 4000000 in
set_option maxRecDepth 100000 in
theorem kX7_miss (l : Launch) {V : zV} {σ : zS} {t0 : Int32 × zS} {k0 : Nat} {x1 : Int32} {x2 : Int32} (hk0 : kd 0 k0 = 7) (h1 : FX7_miss k0 x1 x2 σ = some t0) : zMi l yX7_miss cX7_miss 3 (some .int) 2 43 0 V σ t0 [.ref (zad V k0), .int x1, .int x2] := by
  refine zMi_of (by decide) (Nat.le_of_ble_eq_true rfl) ?_
  intro p e s m below meth c A C0 hr hlk hZ ls hl
  generalize ([.ref (zad V k0), .int x1, .int x2] : List Value).toArray = args at C0 ⊢
  obtain ⟨Q, hQ⟩ : ∃ Q, Q = MQ below (zQi 0 V t0 A) args s 0 0 A := ⟨_, rfl⟩
  rw [← hQ]
  have hx := C0.1
  have hb := C0.2.1
  have hl : lv_has ls 3 [(0, .ref (zad V k0)), (1, .int x1), (2, .int x2)] := hl
  unfold FX7_miss at h1
  have J33 : ∀  (σ : zS) (H : Heap) (locs : List Loc) (ls : Array Slot), zZ 0 V A σ s H locs → lv_has ls 3 [(0, .ref (zad V k0))] → FX7_miss_b33 k0 σ = some t0 → W p l e (zrm 2 43) s m args below meth c H locs 0 0 Q (F0 m 33 ls []) := by
    intro  σ H locs ls  hZ hl h1
    unfold FX7_miss_b33 at h1
    refine lv_aload_n hx hb dX7_miss_33 rfl (lv_at hl 0 rfl) ?_
    refine z_getr C0 hZ hk0 fRX7_33 rfl dX7_miss_34 ?_
    refine lv_iconst (v := 2) hx hb dX7_miss_37 (by decide) ?_
    refine z_cVv (As := [.int 2]) (rest := []) C0 hZ h1 (fun _ hf => kX6_refuse l (zkt7_4 hk0) hf) mRX7_93 vX6_refuse (zkt7_4 hk0) rfl rfl hl.1 (Nat.le_of_ble_eq_true rfl) ⟨Nat.le_of_ble_eq_true rfl, Nat.le_of_ble_eq_true rfl⟩ dX7_miss_38 ⟨Nat.le_of_ble_eq_true rfl, Nat.le_of_ble_eq_true rfl⟩ (fun _ σ_1 H locs h1 hZ => ?_)
    refine lv_iconst (v := (-1)) hx hb dX7_miss_41 (by decide) ?_
    rw [hQ]; exact z_iret C0 hr hlk hZ h1 dX7_miss_42
  refine lv_aload_n hx hb dX7_miss_0 rfl (lv_at hl 0 rfl) ?_
  refine z_getr C0 hZ hk0 fRX7_33 rfl dX7_miss_1 ?_
  refine z_geti C0 hZ (zkt7_4 hk0) fRX7_161 rfl dX7_miss_4 ?_
  refine lv_bipush (v := 8) hx hb dX7_miss_7 (by decide) ?_
  refine z_ic_ge (tgt := 33) C0 h1 dX7_miss_9 (by decide) (fun h1 => ?_) (fun h1 => ?_)
  · exact J33  _ _ _ _  hZ (lv_sub hl [0] rfl) h1
  refine lv_aload_n hx hb dX7_miss_12 rfl (lv_at hl 0 rfl) ?_
  refine z_getm C0 hZ h1 hk0 fRX7_19 rfl dX7_miss_13 (fun q_3 hq_3 h1 => ?_)
  refine z_getr C0 hZ hq_3 fRX7_103 rfl dX7_miss_16 ?_
  refine lv_iload_n hx hb dX7_miss_19 rfl (lv_at hl 1 rfl) ?_
  refine z_cVi (As := [.int x1]) (rest := []) C0 hZ h1 (fun _ hf => kX1_hasAisle l (zkt5_0 hq_3) hf) mRX7_225 vX1_hasAisle (zkt5_0 hq_3) rfl rfl hl.1 (Nat.le_of_ble_eq_true rfl) ⟨Nat.le_of_ble_eq_true rfl, Nat.le_of_ble_eq_true rfl⟩ dX7_miss_20 ⟨Nat.le_of_ble_eq_true rfl, Nat.le_of_ble_eq_true rfl⟩ (fun r_5 σ_4 H locs h1 hZ => ?_)
  refine z_if_eq (tgt := 33) C0 h1 dX7_miss_23 (by decide) (fun h1 => ?_) (fun h1 => ?_)
  · exact J33  _ _ _ _  hZ (lv_sub hl [0] rfl) h1
  refine lv_iload_n hx hb dX7_miss_26 rfl (lv_at hl 2 rfl) ?_
  refine z_cSi (As := [.int x2]) (rest := []) C0 hZ h1 (fun _ hf => kX7_isMinute l  hf) mRX7_311 sX7_isMinute rfl rfl hl.1 (Nat.le_of_ble_eq_true rfl) ⟨Nat.le_of_ble_eq_true rfl, Nat.le_of_ble_eq_true rfl⟩ dX7_miss_27 ⟨Nat.le_of_ble_eq_true rfl, Nat.le_of_ble_eq_true rfl⟩ (fun r_7 σ_6 H locs h1 hZ => ?_)
  refine z_if_ne (tgt := 43) C0 h1 dX7_miss_30 (by decide) (fun h1 => ?_) (fun h1 => ?_)
  · refine lv_aload_n hx hb dX7_miss_43 rfl (lv_at hl 0 rfl) ?_
    refine z_getr C0 hZ hk0 fRX7_33 rfl dX7_miss_44 ?_
    refine z_getr C0 hZ (zkt7_4 hk0) fRX7_314 rfl dX7_miss_47 ?_
    refine lv_aload_n hx hb dX7_miss_50 rfl (lv_at hl 0 rfl) ?_
    refine z_getr C0 hZ hk0 fRX7_33 rfl dX7_miss_51 ?_
    refine z_geti C0 hZ (zkt7_4 hk0) fRX7_161 rfl dX7_miss_54 ?_
    refine lv_iload_n hx hb dX7_miss_57 rfl (lv_at hl 1 rfl) ?_
    refine z_cSv (As := [.ref (zad V ((k0 + 6) + 6)), .int (σ_6 (k0 + 6) 13), .int x1]) (rest := []) C0 hZ h1 (fun _ hf => kX7_put l (zkt6_14 (zkt7_4 hk0)) hf) mRX7_79 sX7_put rfl rfl hl.1 (Nat.le_of_ble_eq_true rfl) ⟨Nat.le_of_ble_eq_true rfl, Nat.le_of_ble_eq_true rfl⟩ dX7_miss_58 ⟨Nat.le_of_ble_eq_true rfl, Nat.le_of_ble_eq_true rfl⟩ (fun _ σ_8 H locs h1 hZ => ?_)
    refine lv_aload_n hx hb dX7_miss_61 rfl (lv_at hl 0 rfl) ?_
    refine z_getr C0 hZ hk0 fRX7_33 rfl dX7_miss_62 ?_
    refine z_getr C0 hZ (zkt7_4 hk0) fRX7_317 rfl dX7_miss_65 ?_
    refine lv_aload_n hx hb dX7_miss_68 rfl (lv_at hl 0 rfl) ?_
    refine z_getr C0 hZ hk0 fRX7_33 rfl dX7_miss_69 ?_
    refine z_geti C0 hZ (zkt7_4 hk0) fRX7_161 rfl dX7_miss_72 ?_
    refine lv_iload_n hx hb dX7_miss_75 rfl (lv_at hl 2 rfl) ?_
    refine z_cSv (As := [.ref (zad V ((k0 + 6) + 7)), .int (σ_8 (k0 + 6) 13), .int x2]) (rest := []) C0 hZ h1 (fun _ hf => kX7_put l (zkt6_15 (zkt7_4 hk0)) hf) mRX7_79 sX7_put rfl rfl hl.1 (Nat.le_of_ble_eq_true rfl) ⟨Nat.le_of_ble_eq_true rfl, Nat.le_of_ble_eq_true rfl⟩ dX7_miss_76 ⟨Nat.le_of_ble_eq_true rfl, Nat.le_of_ble_eq_true rfl⟩ (fun _ σ_10 H locs h1 hZ => ?_)
    refine lv_aload_n hx hb dX7_miss_79 rfl (lv_at hl 0 rfl) ?_
    refine z_getr C0 hZ hk0 fRX7_33 rfl dX7_miss_80 ?_
    refine lv_dup hx hb dX7_miss_83 rfl ?_
    refine z_geti C0 hZ (zkt7_4 hk0) fRX7_161 rfl dX7_miss_84 ?_
    refine lv_iconst (v := 1) hx hb dX7_miss_87 (by decide) ?_
    refine lv_iadd hx hb dX7_miss_88 ?_
    refine z_puti C0 hZ h1 (zkt7_4 hk0) fRX7_161 rfl tyX6_ok nmX6 rfl rfl rfl dX7_miss_89 (fun σ_12 H locs h1 hZ => ?_)
    refine lv_aload_n hx hb dX7_miss_92 rfl (lv_at hl 0 rfl) ?_
    refine z_getr C0 hZ hk0 fRX7_33 rfl dX7_miss_93 ?_
    refine z_geti C0 hZ (zkt7_4 hk0) fRX7_161 rfl dX7_miss_96 ?_
    rw [hQ]; exact z_iret C0 hr hlk hZ h1 dX7_miss_99
  exact J33  _ _ _ _  hZ (lv_sub hl [0] rfl) h1
noncomputable def FX7_forget (k0 : Nat) (σ : zS) : Option (Int32 × zS) := zlet (zup σ (k0 + 6) 10 0) (fun σ_1 => zlet (zup σ_1 (k0 + 6) 13 0) (fun σ_2 => some (0, σ_2)))
set_option maxHeartbeats 4000000 in
set_option maxRecDepth 100000 in
theorem kX7_forget (l : Launch) {V : zV} {σ : zS} {t0 : Int32 × zS} {k0 : Nat} (hk0 : kd 0 k0 = 7) (h1 : FX7_forget k0 σ = some t0) : zMv l yX7_forget cX7_forget 1 0 0 0 V σ t0 [.ref (zad V k0)] := by
  refine zMv_of (by decide) (Nat.le_of_ble_eq_true rfl) ?_
  intro p e s m below meth c A C0 hr hlk hZ ls hl
  generalize ([.ref (zad V k0)] : List Value).toArray = args at C0 ⊢
  obtain ⟨Q, hQ⟩ : ∃ Q, Q = MQ below (zQv 0 V t0 A) args s 0 0 A := ⟨_, rfl⟩
  rw [← hQ]
  have hx := C0.1
  have hb := C0.2.1
  have hl : lv_has ls 1 [(0, .ref (zad V k0))] := hl
  unfold FX7_forget at h1
  refine lv_aload_n hx hb dX7_forget_0 rfl (lv_at hl 0 rfl) ?_
  refine z_getr C0 hZ hk0 fRX7_33 rfl dX7_forget_1 ?_
  refine lv_iconst (v := 0) hx hb dX7_forget_4 (by decide) ?_
  refine z_puti C0 hZ h1 (zkt7_4 hk0) fRX7_158 rfl tyX6_ok nmX6 rfl rfl rfl dX7_forget_5 (fun σ_1 H locs h1 hZ => ?_)
  refine lv_aload_n hx hb dX7_forget_8 rfl (lv_at hl 0 rfl) ?_
  refine z_getr C0 hZ hk0 fRX7_33 rfl dX7_forget_9 ?_
  refine lv_iconst (v := 0) hx hb dX7_forget_12 (by decide) ?_
  refine z_puti C0 hZ h1 (zkt7_4 hk0) fRX7_161 rfl tyX6_ok nmX6 rfl rfl rfl dX7_forget_13 (fun σ_2 H locs h1 hZ => ?_)
  rw [hQ]; exact z_vret C0 hr hlk hZ h1 dX7_forget_16
noncomputable def FX7_canHave_b94 (x4 : Int32) (σ : zS) : Option (Int32 × zS) := some (x4, σ)
noncomputable def FX7_canHave_b88 (k0 : Nat) (x2 : Int32) (x3 : Int32) (x4 : Int32) (x5 : Int32) (σ : zS) : Option ((Int32 × Int32 × zS) ⊕ (Int32 × zS)) := zlet (x5 + 1) (fun x5_1 => some (.inl (x4, x5_1, σ)))
noncomputable def FX7_canHave_b82 (k0 : Nat) (x2 : Int32) (x3 : Int32) (x4 : Int32) (x5 : Int32) (x6 : Int32) (σ : zS) : Option ((Int32 × Int32 × zS) ⊕ ((Int32 × Int32 × zS) ⊕ (Int32 × zS))) := zlet (x6 + 1) (fun x6_2 => some (.inl (x4, x6_2, σ)))
noncomputable def FX7_canHave_L48 (k0 : Nat) (x2 : Int32) (x3 : Int32) (x5 : Int32) (x4 : Int32) (x6 : Int32) (σ : zS) : Option ((Int32 × Int32 × zS) ⊕ ((Int32 × Int32 × zS) ⊕ (Int32 × zS))) := if x3 < x6 then zinr (FX7_canHave_b88 k0 x2 x3 x4 x5 σ) else zgd (kd 0 (σ k0 2).toNatClampNeg == 5) (zlet (σ k0 2).toNatClampNeg (fun q_3 => zbd (FX2_placeIn (q_3 + 7) x5 x6 σ) (fun r_5 σ_4 => if r_5 = x2 then zbd (FX7_bit x5 σ_4) (fun r_7 σ_6 => zlet (x4 ||| r_7) (fun x4_8 => FX7_canHave_b82 k0 x2 x3 x4_8 x5 x6 σ_6)) else FX7_canHave_b82 k0 x2 x3 x4 x5 x6 σ_4)))
noncomputable def FX7_canHave_L30 (k0 : Nat) (x2 : Int32) (x3 : Int32) (x4 : Int32) (x5 : Int32) (σ : zS) : Option ((Int32 × Int32 × zS) ⊕ (Int32 × zS)) := zgd (kd 0 (σ k0 2).toNatClampNeg == 5) (zlet (σ k0 2).toNatClampNeg (fun q_9 => if (σ (q_9 + 7) 0) ≤ x5 then zinr (FX7_canHave_b94 x4 σ) else zlet 1 (fun x6_10 => zlp (fun q => FX7_canHave_L48 k0 x2 x3 x5 q.1 q.2.1 q.2.2) (x4, x6_10, σ))))
noncomputable def FX7_canHave (k0 : Nat) (x1 : Int32) (σ : zS) : Option (Int32 × zS) := zbd (FX7_at ((k0 + 6) + 6) x1 σ) (fun r_12 σ_11 => zlet r_12 (fun x2_13 => zbd (FX7_at ((k0 + 6) + 7) x1 σ_11) (fun r_15 σ_14 => zlet r_15 (fun x3_16 => zlet 0 (fun x4_17 => zlet 0 (fun x5_18 => zlp (fun q => FX7_canHave_L30 k0 x2_13 x3_16 q.1 q.2.1 q.2.2) (x4_17, x5_18, σ_14)))))))
set_option maxHeartbeats 4000000 in
set_option maxRecDepth 100000 in
theorem kX7_canHave (l : Launch) {V : zV} {σ : zS} {t0 : Int32 × zS} {k0 : Nat} {x1 : Int32} (hk0 : kd 0 k0 = 7) (h1 : FX7_canHave k0 x1 σ = some t0) : zMi l yX7_canHave cX7_canHave 7 (some .int) 4 87 0 V σ t0 [.ref (zad V k0), .int x1] := by
  refine zMi_of (by decide) (Nat.le_of_ble_eq_true rfl) ?_
  intro p e s m below meth c A C0 hr hlk hZ ls hl
  generalize ([.ref (zad V k0), .int x1] : List Value).toArray = args at C0 ⊢
  obtain ⟨Q, hQ⟩ : ∃ Q, Q = MQ below (zQi 0 V t0 A) args s 0 0 A := ⟨_, rfl⟩
  rw [← hQ]
  have hx := C0.1
  have hb := C0.2.1
  have hl : lv_has ls 7 [(0, .ref (zad V k0)), (1, .int x1)] := hl
  unfold FX7_canHave at h1
  have J94 : ∀ (x4 : Int32) (σ : zS) (H : Heap) (locs : List Loc) (ls : Array Slot), zZ 0 V A σ s H locs → lv_has ls 7 [(4, .int x4)] → FX7_canHave_b94 x4 σ = some t0 → W p l e (zrm 4 87) s m args below meth c H locs 0 0 Q (F0 m 94 ls []) := by
    intro x4 σ H locs ls  hZ hl h1
    unfold FX7_canHave_b94 at h1
    refine lv_iload hx hb dX7_canHave_94 (lv_at hl 0 rfl) ?_
    rw [hQ]; exact z_iret C0 hr hlk hZ h1 dX7_canHave_96
  have J30 : ∀ (n : Nat) (x2 : Int32) (x3 : Int32) (x4 : Int32) (x5 : Int32) (σ : zS) (H : Heap) (locs : List Loc) (ls : Array Slot), zZ 0 V A σ s H locs → lv_has ls 7 [(0, .ref (zad V k0)), (2, .int x2), (3, .int x3), (4, .int x4), (5, .int x5)] → zit (fun q => FX7_canHave_L30 k0 x2 x3 q.1 q.2.1 q.2.2) n (x4, x5, σ) = some t0 → W p l e (zrm 4 87) s m args below meth c H locs 0 0 Q (F0 m 30 ls []) := by
    intro n
    induction n with
    | zero => intro x2 x3 x4 x5 σ H locs ls  _ _ h1; cases h1
    | succ n ih30 =>
      intro x2 x3 x4 x5 σ H locs ls  hZ hl h1
      obtain ⟨t1, h1, hz1⟩ := zit_1 h1
      have J88 : ∀ (x4 : Int32) (x5 : Int32) (σ : zS) (H : Heap) (locs : List Loc) (ls : Array Slot), zZ 0 V A σ s H locs → lv_has ls 7 [(0, .ref (zad V k0)), (2, .int x2), (3, .int x3), (4, .int x4), (5, .int x5)] → FX7_canHave_b88 k0 x2 x3 x4 x5 σ = some t1 → W p l e (zrm 4 87) s m args below meth c H locs 0 0 Q (F0 m 88 ls []) := by
        intro x4 x5 σ H locs ls  hZ hl h1
        unfold FX7_canHave_b88 at h1
        refine z_iinc (v := 1) C0 h1 hl (fun x5_1 => [(5, .int x5_1), (0, .ref (zad V k0)), (2, .int x2), (3, .int x3), (4, .int x4)]) dX7_canHave_88 (k := 4) rfl (by decide) (by decide) (fun _ => rfl) (fun x5_1 ls h1 hl => ?_)
        refine lv_goto (tgt := 30) hx hb dX7_canHave_91 (by decide) ?_
        exact ih30 x2 x3 x4 x5_1 _ _ _ _  hZ (lv_sub hl [1, 2, 3, 4, 0] rfl) (zback h1 hz1)
      have J48 : ∀ (n : Nat) (x4 : Int32) (x5 : Int32) (x6 : Int32) (σ : zS) (H : Heap) (locs : List Loc) (ls : Array Slot), zZ 0 V A σ s H locs → lv_has ls 7 [(0, .ref (zad V k0)), (2, .int x2), (3, .int x3), (4, .int x4), (5, .int x5), (6, .int x6)] → zit (fun q => FX7_canHave_L48 k0 x2 x3 x5 q.1 q.2.1 q.2.2) n (x4, x6, σ) = some t1 → W p l e (zrm 4 87) s m args below meth c H locs 0 0 Q (F0 m 48 ls []) := by
        intro n
        induction n with
        | zero => intro x4 x5 x6 σ H locs ls  _ _ h1; cases h1
        | succ n ih48 =>
          intro x4 x5 x6 σ H locs ls  hZ hl h1
          obtain ⟨t2, h1, hz2⟩ := zit_1 h1
          have J82 : ∀ (x4 : Int32) (x6 : Int32) (σ : zS) (H : Heap) (locs : List Loc) (ls : Array Slot), zZ 0 V A σ s H locs → lv_has ls 7 [(0, .ref (zad V k0)), (2, .int x2), (3, .int x3), (4, .int x4), (5, .int x5), (6, .int x6)] → FX7_canHave_b82 k0 x2 x3 x4 x5 x6 σ = some t2 → W p l e (zrm 4 87) s m args below meth c H locs 0 0 Q (F0 m 82 ls []) := by
            intro x4 x6 σ H locs ls  hZ hl h1
            unfold FX7_canHave_b82 at h1
            refine z_iinc (v := 1) C0 h1 hl (fun x6_2 => [(6, .int x6_2), (0, .ref (zad V k0)), (2, .int x2), (3, .int x3), (4, .int x4), (5, .int x5)]) dX7_canHave_82 (k := 5) rfl (by decide) (by decide) (fun _ => rfl) (fun x6_2 ls h1 hl => ?_)
            refine lv_goto (tgt := 48) hx hb dX7_canHave_85 (by decide) ?_
            exact ih48 x4 x5 x6_2 _ _ _ _  hZ (lv_sub hl [1, 2, 3, 4, 5, 0] rfl) (zback h1 hz2)
          replace h1 : FX7_canHave_L48 k0 x2 x3 x5 x4 x6 σ = some t2 := h1
          unfold FX7_canHave_L48 at h1
          refine lv_iload hx hb dX7_canHave_48 (lv_at hl 5 rfl) ?_
          refine lv_iload_n hx hb dX7_canHave_50 rfl (lv_at hl 2 rfl) ?_
          refine z_ic_gt (tgt := 88) C0 h1 dX7_canHave_51 (by decide) (fun h1 => ?_) (fun h1 => ?_)
          · have h1 := zout h1 hz2
            exact J88 x4 x5 _ _ _ _  hZ (lv_sub hl [0, 1, 2, 3, 4] rfl) h1
          refine lv_aload_n hx hb dX7_canHave_54 rfl (lv_at hl 0 rfl) ?_
          refine z_getm C0 hZ h1 hk0 fRX7_19 rfl dX7_canHave_55 (fun q_3 hq_3 h1 => ?_)
          refine z_getr C0 hZ hq_3 fRX7_118 rfl dX7_canHave_58 ?_
          refine lv_iload hx hb dX7_canHave_61 (lv_at hl 4 rfl) ?_
          refine lv_iload hx hb dX7_canHave_63 (lv_at hl 5 rfl) ?_
          refine z_cVi (As := [.int x5, .int x6]) (rest := []) C0 hZ h1 (fun _ hf => kX2_placeIn l (zkt5_1 hq_3) hf) mRX7_262 vX2_placeIn (zkt5_1 hq_3) rfl rfl hl.1 (Nat.le_of_ble_eq_true rfl) ⟨Nat.le_of_ble_eq_true rfl, Nat.le_of_ble_eq_true rfl⟩ dX7_canHave_65 ⟨Nat.le_of_ble_eq_true rfl, Nat.le_of_ble_eq_true rfl⟩ (fun r_5 σ_4 H locs h1 hZ => ?_)
          refine lv_iload_n hx hb dX7_canHave_68 rfl (lv_at hl 1 rfl) ?_
          refine z_ic_ne (tgt := 82) C0 h1 dX7_canHave_69 (by decide) (fun h1 => ?_) (fun h1 => ?_)
          · exact J82 x4 x6 _ _ _ _  hZ (lv_sub hl [0, 1, 2, 3, 4, 5] rfl) h1
          refine lv_iload hx hb dX7_canHave_72 (lv_at hl 3 rfl) ?_
          refine lv_iload hx hb dX7_canHave_74 (lv_at hl 4 rfl) ?_
          refine z_cSi (As := [.int x5]) (rest := [.int x4]) C0 hZ h1 (fun _ hf => kX7_bit l  hf) mRX7_231 sX7_bit rfl rfl hl.1 (Nat.le_of_ble_eq_true rfl) ⟨Nat.le_of_ble_eq_true rfl, Nat.le_of_ble_eq_true rfl⟩ dX7_canHave_76 ⟨Nat.le_of_ble_eq_true rfl, Nat.le_of_ble_eq_true rfl⟩ (fun r_7 σ_6 H locs h1 hZ => ?_)
          refine lv_ior hx hb dX7_canHave_79 ?_
          refine z_istore C0 h1 hl (fun x4_8 => [(4, .int x4_8), (0, .ref (zad V k0)), (2, .int x2), (3, .int x3), (5, .int x5), (6, .int x6)]) dX7_canHave_80 (by decide) (fun _ => rfl) (fun x4_8 ls h1 hl => ?_)
          exact J82 x4_8 x6 _ _ _ _  hZ (lv_sub hl [1, 2, 3, 0, 4, 5] rfl) h1
      replace h1 : FX7_canHave_L30 k0 x2 x3 x4 x5 σ = some t1 := h1
      unfold FX7_canHave_L30 at h1
      refine lv_iload hx hb dX7_canHave_30 (lv_at hl 4 rfl) ?_
      refine lv_aload_n hx hb dX7_canHave_32 rfl (lv_at hl 0 rfl) ?_
      refine z_getm C0 hZ h1 hk0 fRX7_19 rfl dX7_canHave_33 (fun q_9 hq_9 h1 => ?_)
      refine z_getr C0 hZ hq_9 fRX7_118 rfl dX7_canHave_36 ?_
      refine z_geti C0 hZ (zkt5_1 hq_9) fRX7_122 rfl dX7_canHave_39 ?_
      refine z_ic_ge (tgt := 94) C0 h1 dX7_canHave_42 (by decide) (fun h1 => ?_) (fun h1 => ?_)
      · have h1 := zout h1 hz1
        exact J94 x4 _ _ _ _  hZ (lv_sub hl [3] rfl) h1
      refine lv_iconst (v := 1) hx hb dX7_canHave_45 (by decide) ?_
      refine z_istore C0 h1 hl (fun x6_10 => [(6, .int x6_10), (0, .ref (zad V k0)), (2, .int x2), (3, .int x3), (4, .int x4), (5, .int x5)]) dX7_canHave_46 (by decide) (fun _ => rfl) (fun x6_10 ls h1 hl => ?_)
      obtain ⟨n, h1⟩ := zlp_iff.mp h1
      exact J48 n x4 x5 x6_10 _ _ _ _  hZ (lv_sub hl [1, 2, 3, 4, 5, 0] rfl) h1
  refine lv_aload_n hx hb dX7_canHave_0 rfl (lv_at hl 0 rfl) ?_
  refine z_getr C0 hZ hk0 fRX7_33 rfl dX7_canHave_1 ?_
  refine z_getr C0 hZ (zkt7_4 hk0) fRX7_314 rfl dX7_canHave_4 ?_
  refine lv_iload_n hx hb dX7_canHave_7 rfl (lv_at hl 1 rfl) ?_
  refine z_cSi (As := [.ref (zad V ((k0 + 6) + 6)), .int x1]) (rest := []) C0 hZ h1 (fun _ hf => kX7_at l (zkt6_14 (zkt7_4 hk0)) hf) mRX7_167 sX7_at rfl rfl hl.1 (Nat.le_of_ble_eq_true rfl) ⟨Nat.le_of_ble_eq_true rfl, Nat.le_of_ble_eq_true rfl⟩ dX7_canHave_8 ⟨Nat.le_of_ble_eq_true rfl, Nat.le_of_ble_eq_true rfl⟩ (fun r_12 σ_11 H locs h1 hZ => ?_)
  refine z_istore_n C0 h1 hl (fun x2_13 => [(2, .int x2_13), (0, .ref (zad V k0)), (1, .int x1)]) dX7_canHave_11 rfl (by decide) (fun _ => rfl) (fun x2_13 ls h1 hl => ?_)
  refine lv_aload_n hx hb dX7_canHave_12 rfl (lv_at hl 1 rfl) ?_
  refine z_getr C0 hZ hk0 fRX7_33 rfl dX7_canHave_13 ?_
  refine z_getr C0 hZ (zkt7_4 hk0) fRX7_317 rfl dX7_canHave_16 ?_
  refine lv_iload_n hx hb dX7_canHave_19 rfl (lv_at hl 2 rfl) ?_
  refine z_cSi (As := [.ref (zad V ((k0 + 6) + 7)), .int x1]) (rest := []) C0 hZ h1 (fun _ hf => kX7_at l (zkt6_15 (zkt7_4 hk0)) hf) mRX7_167 sX7_at rfl rfl hl.1 (Nat.le_of_ble_eq_true rfl) ⟨Nat.le_of_ble_eq_true rfl, Nat.le_of_ble_eq_true rfl⟩ dX7_canHave_20 ⟨Nat.le_of_ble_eq_true rfl, Nat.le_of_ble_eq_true rfl⟩ (fun r_15 σ_14 H locs h1 hZ => ?_)
  refine z_istore_n C0 h1 hl (fun x3_16 => [(3, .int x3_16), (2, .int x2_13), (0, .ref (zad V k0)), (1, .int x1)]) dX7_canHave_23 rfl (by decide) (fun _ => rfl) (fun x3_16 ls h1 hl => ?_)
  refine lv_iconst (v := 0) hx hb dX7_canHave_24 (by decide) ?_
  refine z_istore C0 h1 hl (fun x4_17 => [(4, .int x4_17), (3, .int x3_16), (2, .int x2_13), (0, .ref (zad V k0)), (1, .int x1)]) dX7_canHave_25 (by decide) (fun _ => rfl) (fun x4_17 ls h1 hl => ?_)
  refine lv_iconst (v := 0) hx hb dX7_canHave_27 (by decide) ?_
  refine z_istore C0 h1 hl (fun x5_18 => [(5, .int x5_18), (4, .int x4_17), (3, .int x3_16), (2, .int x2_13), (0, .ref (zad V k0)), (1, .int x1)]) dX7_canHave_28 (by decide) (fun _ => rfl) (fun x5_18 ls h1 hl => ?_)
  obtain ⟨n, h1⟩ := zlp_iff.mp h1
  exact J30 n x2_13 x3_16 x4_17 x5_18 _ _ _ _  hZ (lv_sub hl [4, 3, 2, 1, 0] rfl) h1
