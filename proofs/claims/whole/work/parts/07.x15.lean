noncomputable def FGX : Nat → zGr
  | 0 => fun _ _ _ _ _ => none
  | n + 1 => fun i k a b σ => match i with
    | 0 => FX3_readExpr (FGX n) k a σ
    | 1 => FX3_readAnd (FGX n) k a σ
    | 2 => FX3_readNot (FGX n) k a b σ
    | 3 => FX3_readTest (FGX n) k a σ
    | 4 => FX3_readSum (FGX n) k a σ
    | 5 => FX3_readProduct (FGX n) k a σ
    | 6 => FX3_readPart (FGX n) k a σ
    | _ => none
theorem kGX (l : Launch) : ∀ n, zPGX l n (FGX n) := by
  intro n
  induction n with
  | zero => unfold zPGX; exact ⟨fun _ h => (by cases h), fun _ h => (by cases h), fun _ h => (by cases h), fun _ h => (by cases h), fun _ h => (by cases h), fun _ h => (by cases h), fun _ h => (by cases h)⟩
  | succ n ih => unfold zPGX; exact ⟨fun hk h => kX3_readExpr l ih hk h, fun hk h => kX3_readAnd l ih hk h, fun hk h => kX3_readNot l ih hk h, fun hk h => kX3_readTest l ih hk h, fun hk h => kX3_readSum l ih hk h, fun hk h => kX3_readProduct l ih hk h, fun hk h => kX3_readPart l ih hk h⟩
noncomputable def FX4_endRule (k0 : Nat) (σ : zS) : Option (Int32 × zS) := zbd (FX7_put (k0 + 1) (σ k0 0) (σ k0 1) σ) (fun _ σ_1 => zlet (zup σ_1 k0 0 ((σ_1 k0 0) + 1)) (fun σ_3 => some (0, σ_3)))
set_option maxHeartbeats 4000000 in
set_option maxRecDepth 100000 in
theorem kX4_endRule (l : Launch) {V : zV} {σ : zS} {t0 : Int32 × zS} {k0 : Nat} (hk0 : kd 0 k0 = 4) (h1 : FX4_endRule k0 σ = some t0) : zMv l yX4_endRule cX4_endRule 1 1 22 0 V σ t0 [.ref (zad V k0)] := by
  refine zMv_of (by decide) (Nat.le_of_ble_eq_true rfl) ?_
  intro p e s m below meth c A C0 hr hlk hZ ls hl
  generalize ([.ref (zad V k0)] : List Value).toArray = args at C0 ⊢
  obtain ⟨Q, hQ⟩ : ∃ Q, Q = MQ below (zQv 0 V t0 A) args s 0 0 A := ⟨_, rfl⟩
  rw [← hQ]
  have hx := C0.1
  have hb := C0.2.1
  have hl : lv_has ls 1 [(0, .ref (zad V k0))] := hl
  unfold FX4_endRule at h1
  refine lv_aload_n hx hb dX4_endRule_0 rfl (lv_at hl 0 rfl) ?_
  refine z_getr C0 hZ hk0 fRX4_18 rfl dX4_endRule_1 ?_
  refine lv_aload_n hx hb dX4_endRule_4 rfl (lv_at hl 0 rfl) ?_
  refine z_geti C0 hZ hk0 fRX4_9 rfl dX4_endRule_5 ?_
  refine lv_aload_n hx hb dX4_endRule_8 rfl (lv_at hl 0 rfl) ?_
  refine z_geti C0 hZ hk0 fRX4_15 rfl dX4_endRule_9 ?_
  refine z_cSv (As := [.ref (zad V (k0 + 1)), .int (σ k0 0), .int (σ k0 1)]) (rest := []) C0 hZ h1 (fun _ hf => kX7_put l (zkt4_2 hk0) hf) mRX4_31 sX7_put rfl rfl hl.1 (Nat.le_of_ble_eq_true rfl) ⟨Nat.le_of_ble_eq_true rfl, Nat.le_of_ble_eq_true rfl⟩ dX4_endRule_12 ⟨Nat.le_of_ble_eq_true rfl, Nat.le_of_ble_eq_true rfl⟩ (fun _ σ_1 H locs h1 hZ => ?_)
  refine lv_aload_n hx hb dX4_endRule_15 rfl (lv_at hl 0 rfl) ?_
  refine lv_dup hx hb dX4_endRule_16 rfl ?_
  refine z_geti C0 hZ hk0 fRX4_9 rfl dX4_endRule_17 ?_
  refine lv_iconst (v := 1) hx hb dX4_endRule_20 (by decide) ?_
  refine lv_iadd hx hb dX4_endRule_21 ?_
  refine z_puti C0 hZ h1 hk0 fRX4_9 rfl tyX4_ok nmX4 rfl rfl rfl dX4_endRule_22 (fun σ_3 H locs h1 hZ => ?_)
  rw [hQ]; exact z_vret C0 hr hlk hZ h1 dX4_endRule_25
noncomputable def FX3_readRule_b37  (σ : zS) : Option (Int32 × zS) := some (0, σ)
noncomputable def FX3_readRule (k0 : Nat) (σ : zS) : Option (Int32 × zS) := zgd (kd 0 (σ k0 1).toNatClampNeg == 5) (zlet (σ k0 1).toNatClampNeg (fun q_1 => zbd (FX3_readFirst k0 (σ (q_1 + 14) 0) 4 σ) (fun _ σ_2 => zbd ((FGX zfuel) 0 k0 0 0 σ_2) (fun _ σ_4 => if (σ_4 k0 8) = 0 then zgd (kd 0 (σ_4 k0 1).toNatClampNeg == 5) (zlet (σ_4 k0 1).toNatClampNeg (fun q_6 => zbd (FX4_endRule (q_6 + 14) σ_4) (fun _ σ_7 => FX3_readRule_b37  σ_7))) else FX3_readRule_b37  σ_4))))
set_option maxHeartbeats 4000000 in
set_option maxRecDepth 100000 in
theorem kX3_readRule (l : Launch) {V : zV} {σ : zS} {t0 : Int32 × zS} {k0 : Nat} (hk0 : kd 0 k0 = 3) (h1 : FX3_readRule k0 σ = some t0) : zMv l yX3_readRule cX3_readRule 1 211 8449 0 V σ t0 [.ref (zad V k0)] := by
  refine zMv_of (by decide) (Nat.le_of_ble_eq_true rfl) ?_
  intro p e s m below meth c A C0 hr hlk hZ ls hl
  generalize ([.ref (zad V k0)] : List Value).toArray = args at C0 ⊢
  obtain ⟨Q, hQ⟩ : ∃ Q, Q = MQ below (zQv 0 V t0 A) args s 0 0 A := ⟨_, rfl⟩
  rw [← hQ]
  have hx := C0.1
  have hb := C0.2.1
  have hl : lv_has ls 1 [(0, .ref (zad V k0))] := hl
  unfold FX3_readRule at h1
  have J37 : ∀  (σ : zS) (H : Heap) (locs : List Loc) (ls : Array Slot), zZ 0 V A σ s H locs → lv_has ls 1 [] → FX3_readRule_b37  σ = some t0 → W p l e (zrm 211 8449) s m args below meth c H locs 0 0 Q (F0 m 37 ls []) := by
    intro  σ H locs ls  hZ hl h1
    unfold FX3_readRule_b37 at h1
    rw [hQ]; exact z_vret C0 hr hlk hZ h1 dX3_readRule_37
  refine lv_aload_n hx hb dX3_readRule_0 rfl (lv_at hl 0 rfl) ?_
  refine lv_aload_n hx hb dX3_readRule_1 rfl (lv_at hl 0 rfl) ?_
  refine z_getm C0 hZ h1 hk0 fRX3_18 rfl dX3_readRule_2 (fun q_1 hq_1 h1 => ?_)
  refine z_getr C0 hZ hq_1 fRX3_229 rfl dX3_readRule_5 ?_
  refine z_geti C0 hZ (zkt5_2 hq_1) fRX3_233 rfl dX3_readRule_8 ?_
  refine lv_iconst (v := 4) hx hb dX3_readRule_11 (by decide) ?_
  refine z_cVv (As := [.int (σ (q_1 + 14) 0), .int 4]) (rest := []) C0 hZ h1 (fun _ hf => kX3_readFirst l hk0 hf) mRX3_159 vX3_readFirst hk0 rfl rfl hl.1 (Nat.le_of_ble_eq_true rfl) ⟨Nat.le_of_ble_eq_true rfl, Nat.le_of_ble_eq_true rfl⟩ dX3_readRule_12 ⟨Nat.le_of_ble_eq_true rfl, Nat.le_of_ble_eq_true rfl⟩ (fun _ σ_2 H locs h1 hZ => ?_)
  refine lv_aload_n hx hb dX3_readRule_15 rfl (lv_at hl 0 rfl) ?_
  refine lv_iconst (v := 0) hx hb dX3_readRule_16 (by decide) ?_
  refine z_cVv (As := [.int 0]) (rest := []) C0 hZ h1 (fun _ hf => zGGX_0 (kGX l zfuel) hk0 hf) mRX3_236 vX3_readExpr hk0 rfl rfl hl.1 (Nat.le_of_ble_eq_true rfl) ⟨Nat.le_of_ble_eq_true rfl, Nat.le_of_ble_eq_true rfl⟩ dX3_readRule_17 ⟨Nat.le_of_ble_eq_true rfl, Nat.le_of_ble_eq_true rfl⟩ (fun _ σ_4 H locs h1 hZ => ?_)
  refine lv_aload_n hx hb dX3_readRule_20 rfl (lv_at hl 0 rfl) ?_
  refine z_geti C0 hZ hk0 fRX3_41 rfl dX3_readRule_21 ?_
  refine z_if_ne (tgt := 37) C0 h1 dX3_readRule_24 (by decide) (fun h1 => ?_) (fun h1 => ?_)
  · exact J37  _ _ _ _  hZ (lv_sub hl [] rfl) h1
  refine lv_aload_n hx hb dX3_readRule_27 rfl (lv_at hl 0 rfl) ?_
  refine z_getm C0 hZ h1 hk0 fRX3_18 rfl dX3_readRule_28 (fun q_6 hq_6 h1 => ?_)
  refine z_getr C0 hZ hq_6 fRX3_229 rfl dX3_readRule_31 ?_
  refine z_cVv (As := []) (rest := []) C0 hZ h1 (fun _ hf => kX4_endRule l (zkt5_2 hq_6) hf) mRX3_239 vX4_endRule (zkt5_2 hq_6) rfl rfl hl.1 (Nat.le_of_ble_eq_true rfl) ⟨Nat.le_of_ble_eq_true rfl, Nat.le_of_ble_eq_true rfl⟩ dX3_readRule_34 ⟨Nat.le_of_ble_eq_true rfl, Nat.le_of_ble_eq_true rfl⟩ (fun _ σ_7 H locs h1 hZ => ?_)
  exact J37  _ _ _ _  hZ (lv_sub hl [] rfl) h1
noncomputable def FX3_readSetting_b14 (k0 : Nat) (x1 : Int32) (x2 : Int32) (x3 : Int32) (σ : zS) : Option (Int32 × zS) := zlet (zup σ k0 7 ((σ k0 7) ||| x1)) (fun σ_1 => zbd (FX3_readToken k0 σ_1) (fun _ σ_2 => zbd (FX3_readNumber k0 x2 x3 σ_2) (fun r_5 σ_4 => some (r_5, σ_4))))
noncomputable def FX3_readSetting (k0 : Nat) (x1 : Int32) (x2 : Int32) (x3 : Int32) (σ : zS) : Option (Int32 × zS) := if ((σ k0 7) &&& x1) = 0 then FX3_readSetting_b14 k0 x1 x2 x3 σ else zbd (FX3_fail k0 5 σ) (fun _ σ_6 => FX3_readSetting_b14 k0 x1 x2 x3 σ_6)
set_option maxHeartbeats 4000000 in
set_option maxRecDepth 100000 in
theorem kX3_readSetting (l : Launch) {V : zV} {σ : zS} {t0 : Int32 × zS} {k0 : Nat} {x1 : Int32} {x2 : Int32} {x3 : Int32} (hk0 : kd 0 k0 = 3) (h1 : FX3_readSetting k0 x1 x2 x3 σ = some t0) : zMi l yX3_readSetting cX3_readSetting 4 (some .int) 3 66 0 V σ t0 [.ref (zad V k0), .int x1, .int x2, .int x3] := by
  refine zMi_of (by decide) (Nat.le_of_ble_eq_true rfl) ?_
  intro p e s m below meth c A C0 hr hlk hZ ls hl
  generalize ([.ref (zad V k0), .int x1, .int x2, .int x3] : List Value).toArray = args at C0 ⊢
  obtain ⟨Q, hQ⟩ : ∃ Q, Q = MQ below (zQi 0 V t0 A) args s 0 0 A := ⟨_, rfl⟩
  rw [← hQ]
  have hx := C0.1
  have hb := C0.2.1
  have hl : lv_has ls 4 [(0, .ref (zad V k0)), (1, .int x1), (2, .int x2), (3, .int x3)] := hl
  unfold FX3_readSetting at h1
  have J14 : ∀  (σ : zS) (H : Heap) (locs : List Loc) (ls : Array Slot), zZ 0 V A σ s H locs → lv_has ls 4 [(0, .ref (zad V k0)), (1, .int x1), (2, .int x2), (3, .int x3)] → FX3_readSetting_b14 k0 x1 x2 x3 σ = some t0 → W p l e (zrm 3 66) s m args below meth c H locs 0 0 Q (F0 m 14 ls []) := by
    intro  σ H locs ls  hZ hl h1
    unfold FX3_readSetting_b14 at h1
    refine lv_aload_n hx hb dX3_readSetting_14 rfl (lv_at hl 0 rfl) ?_
    refine lv_dup hx hb dX3_readSetting_15 rfl ?_
    refine z_geti C0 hZ hk0 fRX3_38 rfl dX3_readSetting_16 ?_
    refine lv_iload_n hx hb dX3_readSetting_19 rfl (lv_at hl 1 rfl) ?_
    refine lv_ior hx hb dX3_readSetting_20 ?_
    refine z_puti C0 hZ h1 hk0 fRX3_38 rfl tyX3_ok nmX3 rfl rfl rfl dX3_readSetting_21 (fun σ_1 H locs h1 hZ => ?_)
    refine lv_aload_n hx hb dX3_readSetting_24 rfl (lv_at hl 0 rfl) ?_
    refine z_cVv (As := []) (rest := []) C0 hZ h1 (fun _ hf => kX3_readToken l hk0 hf) mRX3_50 vX3_readToken hk0 rfl rfl hl.1 (Nat.le_of_ble_eq_true rfl) ⟨Nat.le_of_ble_eq_true rfl, Nat.le_of_ble_eq_true rfl⟩ dX3_readSetting_25 ⟨Nat.le_of_ble_eq_true rfl, Nat.le_of_ble_eq_true rfl⟩ (fun _ σ_2 H locs h1 hZ => ?_)
    refine lv_aload_n hx hb dX3_readSetting_28 rfl (lv_at hl 0 rfl) ?_
    refine lv_iload_n hx hb dX3_readSetting_29 rfl (lv_at hl 2 rfl) ?_
    refine lv_iload_n hx hb dX3_readSetting_30 rfl (lv_at hl 3 rfl) ?_
    refine z_cVi (As := [.int x2, .int x3]) (rest := []) C0 hZ h1 (fun _ hf => kX3_readNumber l hk0 hf) mRX3_163 vX3_readNumber hk0 rfl rfl hl.1 (Nat.le_of_ble_eq_true rfl) ⟨Nat.le_of_ble_eq_true rfl, Nat.le_of_ble_eq_true rfl⟩ dX3_readSetting_31 ⟨Nat.le_of_ble_eq_true rfl, Nat.le_of_ble_eq_true rfl⟩ (fun r_5 σ_4 H locs h1 hZ => ?_)
    rw [hQ]; exact z_iret C0 hr hlk hZ h1 dX3_readSetting_34
  refine lv_aload_n hx hb dX3_readSetting_0 rfl (lv_at hl 0 rfl) ?_
  refine z_geti C0 hZ hk0 fRX3_38 rfl dX3_readSetting_1 ?_
  refine lv_iload_n hx hb dX3_readSetting_4 rfl (lv_at hl 1 rfl) ?_
  refine lv_iand hx hb dX3_readSetting_5 ?_
  refine z_if_eq (tgt := 14) C0 h1 dX3_readSetting_6 (by decide) (fun h1 => ?_) (fun h1 => ?_)
  · exact J14  _ _ _ _  hZ (lv_sub hl [0, 1, 2, 3] rfl) h1
  refine lv_aload_n hx hb dX3_readSetting_9 rfl (lv_at hl 0 rfl) ?_
  refine lv_iconst (v := 5) hx hb dX3_readSetting_10 (by decide) ?_
  refine z_cVv (As := [.int 5]) (rest := []) C0 hZ h1 (fun _ hf => kX3_fail l hk0 hf) mRX3_136 vX3_fail hk0 rfl rfl hl.1 (Nat.le_of_ble_eq_true rfl) ⟨Nat.le_of_ble_eq_true rfl, Nat.le_of_ble_eq_true rfl⟩ dX3_readSetting_11 ⟨Nat.le_of_ble_eq_true rfl, Nat.le_of_ble_eq_true rfl⟩ (fun _ σ_6 H locs h1 hZ => ?_)
  exact J14  _ _ _ _  hZ (lv_sub hl [0, 1, 2, 3] rfl) h1
noncomputable def FX3_readLine_b168 (k0 : Nat) (σ : zS) : Option (Int32 × zS) := zbd (FX3_readSign k0 59 σ) (fun _ σ_1 => some (0, σ_1))
noncomputable def FX3_readLine (k0 : Nat) (σ : zS) : Option (Int32 × zS) := zbd (FX3_sortTold k0 σ) (fun r_4 σ_3 => zlet r_4 (fun x1_5 => if x1_5 = (-1) then zbd (FX3_isWord k0 0 σ_3) (fun r_7 σ_6 => if r_7 = 0 then zbd (FX3_isWord k0 1 σ_6) (fun r_9 σ_8 => if r_9 = 0 then zbd (FX3_isWord k0 2 σ_8) (fun r_11 σ_10 => if r_11 = 0 then zbd (FX3_isWord k0 3 σ_10) (fun r_13 σ_12 => if r_13 = 0 then zbd (FX3_isWord k0 4 σ_12) (fun r_15 σ_14 => if r_15 = 0 then zbd (FX3_isWord k0 5 σ_14) (fun r_17 σ_16 => if r_17 = 0 then zbd (FX3_isWord k0 6 σ_16) (fun r_19 σ_18 => if r_19 = 0 then zbd (FX3_fail k0 1 σ_18) (fun _ σ_20 => FX3_readLine_b168 k0 σ_20) else zgd (kd 0 (σ_18 k0 1).toNatClampNeg == 5) (zlet (σ_18 k0 1).toNatClampNeg (fun q_22 => zbd (FX3_readSetting k0 4 0 2 σ_18) (fun r_24 σ_23 => zlet (zup σ_23 q_22 5 r_24) (fun σ_25 => FX3_readLine_b168 k0 σ_25))))) else zgd (kd 0 (σ_16 k0 1).toNatClampNeg == 5) (zlet (σ_16 k0 1).toNatClampNeg (fun q_26 => zbd (FX3_readSetting k0 2 0 999 σ_16) (fun r_28 σ_27 => zlet (zup σ_27 q_26 4 r_28) (fun σ_29 => FX3_readLine_b168 k0 σ_29))))) else zgd (kd 0 (σ_14 k0 1).toNatClampNeg == 5) (zlet (σ_14 k0 1).toNatClampNeg (fun q_30 => zbd (FX3_readSetting k0 1 1 9 σ_14) (fun r_32 σ_31 => zlet (zup σ_31 q_30 3 r_32) (fun σ_33 => FX3_readLine_b168 k0 σ_33))))) else zbd (FX3_readRule k0 σ_12) (fun _ σ_34 => FX3_readLine_b168 k0 σ_34)) else zbd (FX3_readMirror k0 σ_10) (fun _ σ_36 => FX3_readLine_b168 k0 σ_36)) else zbd (FX3_readWay k0 σ_8) (fun _ σ_38 => FX3_readLine_b168 k0 σ_38)) else zbd (FX3_readAisle k0 σ_6) (fun _ σ_40 => FX3_readLine_b168 k0 σ_40)) else zbd (FX3_readPerson k0 x1_5 σ_3) (fun _ σ_42 => FX3_readLine_b168 k0 σ_42)))
set_option maxHeartbeats 4000000 in
set_option maxRecDepth 100000 in
theorem kX3_readLine (l : Launch) {V : zV} {σ : zS} {t0 : Int32 × zS} {k0 : Nat} (hk0 : kd 0 k0 = 3) (h1 : FX3_readLine k0 σ = some t0) : zMv l yX3_readLine cX3_readLine 2 212 8469 0 V σ t0 [.ref (zad V k0)] := by
  refine zMv_of (by decide) (Nat.le_of_ble_eq_true rfl) ?_
  intro p e s m below meth c A C0 hr hlk hZ ls hl
  generalize ([.ref (zad V k0)] : List Value).toArray = args at C0 ⊢
  obtain ⟨Q, hQ⟩ : ∃ Q, Q = MQ below (zQv 0 V t0 A) args s 0 0 A := ⟨_, rfl⟩
  rw [← hQ]
  have hx := C0.1
  have hb := C0.2.1
  have hl : lv_has ls 2 [(0, .ref (zad V k0))] := hl
  unfold FX3_readLine at h1
  have J168 : ∀  (σ : zS) (H : Heap) (locs : List Loc) (ls : Array Slot), zZ 0 V A σ s H locs → lv_has ls 2 [(0, .ref (zad V k0))] → FX3_readLine_b168 k0 σ = some t0 → W p l e (zrm 212 8469) s m args below meth c H locs 0 0 Q (F0 m 168 ls []) := by
    intro  σ H locs ls  hZ hl h1
    unfold FX3_readLine_b168 at h1
    refine lv_aload_n hx hb dX3_readLine_168 rfl (lv_at hl 0 rfl) ?_
    refine lv_bipush (v := 59) hx hb dX3_readLine_169 (by decide) ?_
    refine z_cVv (As := [.int 59]) (rest := []) C0 hZ h1 (fun _ hf => kX3_readSign l hk0 hf) mRX3_139 vX3_readSign hk0 rfl rfl hl.1 (Nat.le_of_ble_eq_true rfl) ⟨Nat.le_of_ble_eq_true rfl, Nat.le_of_ble_eq_true rfl⟩ dX3_readLine_171 ⟨Nat.le_of_ble_eq_true rfl, Nat.le_of_ble_eq_true rfl⟩ (fun _ σ_1 H locs h1 hZ => ?_)
    rw [hQ]; exact z_vret C0 hr hlk hZ h1 dX3_readLine_174
  refine lv_aload_n hx hb dX3_readLine_0 rfl (lv_at hl 0 rfl) ?_
  refine z_cVi (As := []) (rest := []) C0 hZ h1 (fun _ hf => kX3_sortTold l hk0 hf) mRX3_88 vX3_sortTold hk0 rfl rfl hl.1 (Nat.le_of_ble_eq_true rfl) ⟨Nat.le_of_ble_eq_true rfl, Nat.le_of_ble_eq_true rfl⟩ dX3_readLine_1 ⟨Nat.le_of_ble_eq_true rfl, Nat.le_of_ble_eq_true rfl⟩ (fun r_4 σ_3 H locs h1 hZ => ?_)
  refine z_istore_n C0 h1 hl (fun x1_5 => [(1, .int x1_5), (0, .ref (zad V k0))]) dX3_readLine_4 rfl (by decide) (fun _ => rfl) (fun x1_5 ls h1 hl => ?_)
  refine lv_iload_n hx hb dX3_readLine_5 rfl (lv_at hl 0 rfl) ?_
  refine lv_iconst (v := (-1)) hx hb dX3_readLine_6 (by decide) ?_
  refine z_ic_eq (tgt := 18) C0 h1 dX3_readLine_7 (by decide) (fun h1 => ?_) (fun h1 => ?_)
  · refine lv_aload_n hx hb dX3_readLine_18 rfl (lv_at hl 1 rfl) ?_
    refine z_ldcS (i := 0) (tx := "aisle") C0 hZ (by decide +kernel) dX3_readLine_19 ?_
    refine z_cVi (As := [.ref (V.2.2.2.1 0)]) (rest := []) C0 hZ h1 (fun _ hf => kX3_isWord l hk0 (by decide) hf) mRX3_97 vX3_isWord hk0 rfl rfl hl.1 (Nat.le_of_ble_eq_true rfl) ⟨Nat.le_of_ble_eq_true rfl, Nat.le_of_ble_eq_true rfl⟩ dX3_readLine_21 ⟨Nat.le_of_ble_eq_true rfl, Nat.le_of_ble_eq_true rfl⟩ (fun r_7 σ_6 H locs h1 hZ => ?_)
    refine z_if_eq (tgt := 34) C0 h1 dX3_readLine_24 (by decide) (fun h1 => ?_) (fun h1 => ?_)
    · refine lv_aload_n hx hb dX3_readLine_34 rfl (lv_at hl 1 rfl) ?_
      refine z_ldcS (i := 1) (tx := "way") C0 hZ (by decide +kernel) dX3_readLine_35 ?_
      refine z_cVi (As := [.ref (V.2.2.2.1 1)]) (rest := []) C0 hZ h1 (fun _ hf => kX3_isWord l hk0 (by decide) hf) mRX3_97 vX3_isWord hk0 rfl rfl hl.1 (Nat.le_of_ble_eq_true rfl) ⟨Nat.le_of_ble_eq_true rfl, Nat.le_of_ble_eq_true rfl⟩ dX3_readLine_37 ⟨Nat.le_of_ble_eq_true rfl, Nat.le_of_ble_eq_true rfl⟩ (fun r_9 σ_8 H locs h1 hZ => ?_)
      refine z_if_eq (tgt := 50) C0 h1 dX3_readLine_40 (by decide) (fun h1 => ?_) (fun h1 => ?_)
      · refine lv_aload_n hx hb dX3_readLine_50 rfl (lv_at hl 1 rfl) ?_
        refine z_ldcS (i := 2) (tx := "mirror") C0 hZ (by decide +kernel) dX3_readLine_51 ?_
        refine z_cVi (As := [.ref (V.2.2.2.1 2)]) (rest := []) C0 hZ h1 (fun _ hf => kX3_isWord l hk0 (by decide) hf) mRX3_97 vX3_isWord hk0 rfl rfl hl.1 (Nat.le_of_ble_eq_true rfl) ⟨Nat.le_of_ble_eq_true rfl, Nat.le_of_ble_eq_true rfl⟩ dX3_readLine_53 ⟨Nat.le_of_ble_eq_true rfl, Nat.le_of_ble_eq_true rfl⟩ (fun r_11 σ_10 H locs h1 hZ => ?_)
        refine z_if_eq (tgt := 66) C0 h1 dX3_readLine_56 (by decide) (fun h1 => ?_) (fun h1 => ?_)
        · refine lv_aload_n hx hb dX3_readLine_66 rfl (lv_at hl 1 rfl) ?_
          refine z_ldcS (i := 3) (tx := "rule") C0 hZ (by decide +kernel) dX3_readLine_67 ?_
          refine z_cVi (As := [.ref (V.2.2.2.1 3)]) (rest := []) C0 hZ h1 (fun _ hf => kX3_isWord l hk0 (by decide) hf) mRX3_97 vX3_isWord hk0 rfl rfl hl.1 (Nat.le_of_ble_eq_true rfl) ⟨Nat.le_of_ble_eq_true rfl, Nat.le_of_ble_eq_true rfl⟩ dX3_readLine_69 ⟨Nat.le_of_ble_eq_true rfl, Nat.le_of_ble_eq_true rfl⟩ (fun r_13 σ_12 H locs h1 hZ => ?_)
          refine z_if_eq (tgt := 82) C0 h1 dX3_readLine_72 (by decide) (fun h1 => ?_) (fun h1 => ?_)
          · refine lv_aload_n hx hb dX3_readLine_82 rfl (lv_at hl 1 rfl) ?_
            refine z_ldcS (i := 4) (tx := "notice") C0 hZ (by decide +kernel) dX3_readLine_83 ?_
            refine z_cVi (As := [.ref (V.2.2.2.1 4)]) (rest := []) C0 hZ h1 (fun _ hf => kX3_isWord l hk0 (by decide) hf) mRX3_97 vX3_isWord hk0 rfl rfl hl.1 (Nat.le_of_ble_eq_true rfl) ⟨Nat.le_of_ble_eq_true rfl, Nat.le_of_ble_eq_true rfl⟩ dX3_readLine_85 ⟨Nat.le_of_ble_eq_true rfl, Nat.le_of_ble_eq_true rfl⟩ (fun r_15 σ_14 H locs h1 hZ => ?_)
            refine z_if_eq (tgt := 109) C0 h1 dX3_readLine_88 (by decide) (fun h1 => ?_) (fun h1 => ?_)
            · refine lv_aload_n hx hb dX3_readLine_109 rfl (lv_at hl 1 rfl) ?_
              refine z_ldcS (i := 5) (tx := "false") C0 hZ (by decide +kernel) dX3_readLine_110 ?_
              refine z_cVi (As := [.ref (V.2.2.2.1 5)]) (rest := []) C0 hZ h1 (fun _ hf => kX3_isWord l hk0 (by decide) hf) mRX3_97 vX3_isWord hk0 rfl rfl hl.1 (Nat.le_of_ble_eq_true rfl) ⟨Nat.le_of_ble_eq_true rfl, Nat.le_of_ble_eq_true rfl⟩ dX3_readLine_112 ⟨Nat.le_of_ble_eq_true rfl, Nat.le_of_ble_eq_true rfl⟩ (fun r_17 σ_16 H locs h1 hZ => ?_)
              refine z_if_eq (tgt := 137) C0 h1 dX3_readLine_115 (by decide) (fun h1 => ?_) (fun h1 => ?_)
              · refine lv_aload_n hx hb dX3_readLine_137 rfl (lv_at hl 1 rfl) ?_
                refine z_ldcS (i := 6) (tx := "stops") C0 hZ (by decide +kernel) dX3_readLine_138 ?_
                refine z_cVi (As := [.ref (V.2.2.2.1 6)]) (rest := []) C0 hZ h1 (fun _ hf => kX3_isWord l hk0 (by decide) hf) mRX3_97 vX3_isWord hk0 rfl rfl hl.1 (Nat.le_of_ble_eq_true rfl) ⟨Nat.le_of_ble_eq_true rfl, Nat.le_of_ble_eq_true rfl⟩ dX3_readLine_140 ⟨Nat.le_of_ble_eq_true rfl, Nat.le_of_ble_eq_true rfl⟩ (fun r_19 σ_18 H locs h1 hZ => ?_)
                refine z_if_eq (tgt := 163) C0 h1 dX3_readLine_143 (by decide) (fun h1 => ?_) (fun h1 => ?_)
                · refine lv_aload_n hx hb dX3_readLine_163 rfl (lv_at hl 1 rfl) ?_
                  refine lv_iconst (v := 1) hx hb dX3_readLine_164 (by decide) ?_
                  refine z_cVv (As := [.int 1]) (rest := []) C0 hZ h1 (fun _ hf => kX3_fail l hk0 hf) mRX3_136 vX3_fail hk0 rfl rfl hl.1 (Nat.le_of_ble_eq_true rfl) ⟨Nat.le_of_ble_eq_true rfl, Nat.le_of_ble_eq_true rfl⟩ dX3_readLine_165 ⟨Nat.le_of_ble_eq_true rfl, Nat.le_of_ble_eq_true rfl⟩ (fun _ σ_20 H locs h1 hZ => ?_)
                  exact J168  _ _ _ _  hZ (lv_sub hl [1] rfl) h1
                refine lv_aload_n hx hb dX3_readLine_146 rfl (lv_at hl 1 rfl) ?_
                refine z_getm C0 hZ h1 hk0 fRX3_18 rfl dX3_readLine_147 (fun q_22 hq_22 h1 => ?_)
                refine lv_aload_n hx hb dX3_readLine_150 rfl (lv_at hl 1 rfl) ?_
                refine lv_iconst (v := 4) hx hb dX3_readLine_151 (by decide) ?_
                refine lv_iconst (v := 0) hx hb dX3_readLine_152 (by decide) ?_
                refine lv_iconst (v := 2) hx hb dX3_readLine_153 (by decide) ?_
                refine z_cVi (As := [.int 4, .int 0, .int 2]) (rest := [.ref (zad V q_22)]) C0 hZ h1 (fun _ hf => kX3_readSetting l hk0 hf) mRX3_121 vX3_readSetting hk0 rfl rfl hl.1 (Nat.le_of_ble_eq_true rfl) ⟨Nat.le_of_ble_eq_true rfl, Nat.le_of_ble_eq_true rfl⟩ dX3_readLine_154 ⟨Nat.le_of_ble_eq_true rfl, Nat.le_of_ble_eq_true rfl⟩ (fun r_24 σ_23 H locs h1 hZ => ?_)
                refine z_puti C0 hZ h1 hq_22 fRX3_134 rfl tyX5_ok nmX5 rfl rfl rfl dX3_readLine_157 (fun σ_25 H locs h1 hZ => ?_)
                refine lv_goto (tgt := 168) hx hb dX3_readLine_160 (by decide) ?_
                exact J168  _ _ _ _  hZ (lv_sub hl [1] rfl) h1
              refine lv_aload_n hx hb dX3_readLine_118 rfl (lv_at hl 1 rfl) ?_
              refine z_getm C0 hZ h1 hk0 fRX3_18 rfl dX3_readLine_119 (fun q_26 hq_26 h1 => ?_)
              refine lv_aload_n hx hb dX3_readLine_122 rfl (lv_at hl 1 rfl) ?_
              refine lv_iconst (v := 2) hx hb dX3_readLine_123 (by decide) ?_
              refine lv_iconst (v := 0) hx hb dX3_readLine_124 (by decide) ?_
              refine lv_sipush (v := 999) hx hb dX3_readLine_125 (by decide) ?_
              refine z_cVi (As := [.int 2, .int 0, .int 999]) (rest := [.ref (zad V q_26)]) C0 hZ h1 (fun _ hf => kX3_readSetting l hk0 hf) mRX3_121 vX3_readSetting hk0 rfl rfl hl.1 (Nat.le_of_ble_eq_true rfl) ⟨Nat.le_of_ble_eq_true rfl, Nat.le_of_ble_eq_true rfl⟩ dX3_readLine_128 ⟨Nat.le_of_ble_eq_true rfl, Nat.le_of_ble_eq_true rfl⟩ (fun r_28 σ_27 H locs h1 hZ => ?_)
              refine z_puti C0 hZ h1 hq_26 fRX3_129 rfl tyX5_ok nmX5 rfl rfl rfl dX3_readLine_131 (fun σ_29 H locs h1 hZ => ?_)
              refine lv_goto (tgt := 168) hx hb dX3_readLine_134 (by decide) ?_
              exact J168  _ _ _ _  hZ (lv_sub hl [1] rfl) h1
            refine lv_aload_n hx hb dX3_readLine_91 rfl (lv_at hl 1 rfl) ?_
            refine z_getm C0 hZ h1 hk0 fRX3_18 rfl dX3_readLine_92 (fun q_30 hq_30 h1 => ?_)
            refine lv_aload_n hx hb dX3_readLine_95 rfl (lv_at hl 1 rfl) ?_
            refine lv_iconst (v := 1) hx hb dX3_readLine_96 (by decide) ?_
            refine lv_iconst (v := 1) hx hb dX3_readLine_97 (by decide) ?_
            refine lv_bipush (v := 9) hx hb dX3_readLine_98 (by decide) ?_
            refine z_cVi (As := [.int 1, .int 1, .int 9]) (rest := [.ref (zad V q_30)]) C0 hZ h1 (fun _ hf => kX3_readSetting l hk0 hf) mRX3_121 vX3_readSetting hk0 rfl rfl hl.1 (Nat.le_of_ble_eq_true rfl) ⟨Nat.le_of_ble_eq_true rfl, Nat.le_of_ble_eq_true rfl⟩ dX3_readLine_100 ⟨Nat.le_of_ble_eq_true rfl, Nat.le_of_ble_eq_true rfl⟩ (fun r_32 σ_31 H locs h1 hZ => ?_)
            refine z_puti C0 hZ h1 hq_30 fRX3_125 rfl tyX5_ok nmX5 rfl rfl rfl dX3_readLine_103 (fun σ_33 H locs h1 hZ => ?_)
            refine lv_goto (tgt := 168) hx hb dX3_readLine_106 (by decide) ?_
            exact J168  _ _ _ _  hZ (lv_sub hl [1] rfl) h1
          refine lv_aload_n hx hb dX3_readLine_75 rfl (lv_at hl 1 rfl) ?_
          refine z_cVv (As := []) (rest := []) C0 hZ h1 (fun _ hf => kX3_readRule l hk0 hf) mRX3_116 vX3_readRule hk0 rfl rfl hl.1 (Nat.le_of_ble_eq_true rfl) ⟨Nat.le_of_ble_eq_true rfl, Nat.le_of_ble_eq_true rfl⟩ dX3_readLine_76 ⟨Nat.le_of_ble_eq_true rfl, Nat.le_of_ble_eq_true rfl⟩ (fun _ σ_34 H locs h1 hZ => ?_)
          refine lv_goto (tgt := 168) hx hb dX3_readLine_79 (by decide) ?_
          exact J168  _ _ _ _  hZ (lv_sub hl [1] rfl) h1
        refine lv_aload_n hx hb dX3_readLine_59 rfl (lv_at hl 1 rfl) ?_
        refine z_cVv (As := []) (rest := []) C0 hZ h1 (fun _ hf => kX3_readMirror l hk0 hf) mRX3_111 vX3_readMirror hk0 rfl rfl hl.1 (Nat.le_of_ble_eq_true rfl) ⟨Nat.le_of_ble_eq_true rfl, Nat.le_of_ble_eq_true rfl⟩ dX3_readLine_60 ⟨Nat.le_of_ble_eq_true rfl, Nat.le_of_ble_eq_true rfl⟩ (fun _ σ_36 H locs h1 hZ => ?_)
        refine lv_goto (tgt := 168) hx hb dX3_readLine_63 (by decide) ?_
        exact J168  _ _ _ _  hZ (lv_sub hl [1] rfl) h1
      refine lv_aload_n hx hb dX3_readLine_43 rfl (lv_at hl 1 rfl) ?_
      refine z_cVv (As := []) (rest := []) C0 hZ h1 (fun _ hf => kX3_readWay l hk0 hf) mRX3_106 vX3_readWay hk0 rfl rfl hl.1 (Nat.le_of_ble_eq_true rfl) ⟨Nat.le_of_ble_eq_true rfl, Nat.le_of_ble_eq_true rfl⟩ dX3_readLine_44 ⟨Nat.le_of_ble_eq_true rfl, Nat.le_of_ble_eq_true rfl⟩ (fun _ σ_38 H locs h1 hZ => ?_)
      refine lv_goto (tgt := 168) hx hb dX3_readLine_47 (by decide) ?_
      exact J168  _ _ _ _  hZ (lv_sub hl [1] rfl) h1
    refine lv_aload_n hx hb dX3_readLine_27 rfl (lv_at hl 1 rfl) ?_
    refine z_cVv (As := []) (rest := []) C0 hZ h1 (fun _ hf => kX3_readAisle l hk0 hf) mRX3_101 vX3_readAisle hk0 rfl rfl hl.1 (Nat.le_of_ble_eq_true rfl) ⟨Nat.le_of_ble_eq_true rfl, Nat.le_of_ble_eq_true rfl⟩ dX3_readLine_28 ⟨Nat.le_of_ble_eq_true rfl, Nat.le_of_ble_eq_true rfl⟩ (fun _ σ_40 H locs h1 hZ => ?_)
    refine lv_goto (tgt := 168) hx hb dX3_readLine_31 (by decide) ?_
    exact J168  _ _ _ _  hZ (lv_sub hl [1] rfl) h1
  refine lv_aload_n hx hb dX3_readLine_10 rfl (lv_at hl 1 rfl) ?_
  refine lv_iload_n hx hb dX3_readLine_11 rfl (lv_at hl 0 rfl) ?_
  refine z_cVv (As := [.int x1_5]) (rest := []) C0 hZ h1 (fun _ hf => kX3_readPerson l hk0 hf) mRX3_91 vX3_readPerson hk0 rfl rfl hl.1 (Nat.le_of_ble_eq_true rfl) ⟨Nat.le_of_ble_eq_true rfl, Nat.le_of_ble_eq_true rfl⟩ dX3_readLine_12 ⟨Nat.le_of_ble_eq_true rfl, Nat.le_of_ble_eq_true rfl⟩ (fun _ σ_42 H locs h1 hZ => ?_)
  refine lv_goto (tgt := 168) hx hb dX3_readLine_15 (by decide) ?_
  exact J168  _ _ _ _  hZ (lv_sub hl [1] rfl) h1
noncomputable def FX3_read_b67 (k0 : Nat) (σ : zS) : Option (Int32 × zS) := zgd (kd 0 (σ k0 1).toNatClampNeg == 5) (zlet (σ k0 1).toNatClampNeg (fun q_1 => zbd (FX1_measure (q_1 + 1) σ) (fun _ σ_2 => some ((σ_2 k0 8), σ_2))))
noncomputable def FX3_read_L38 (k0 : Nat) (x1 : Int32) (x2 : Int32) (σ : zS) : Option ((Int32 × zS) ⊕ (Int32 × zS)) := if x1 < x2 then zinr (FX3_read_b67 k0 σ) else if (σ k0 8) = 0 then if (σ k0 3) = 0 then zinr (FX3_read_b67 k0 σ) else zbd (FX3_readLine k0 σ) (fun _ σ_4 => zlet (x2 + 1) (fun x2_6 => some (.inl (x2_6, σ_4)))) else zinr (FX3_read_b67 k0 σ)
noncomputable def FX3_read (k0 : Nat) (x1 : Int32) (σ : zS) : Option (Int32 × zS) := zgd (kd 0 (σ k0 1).toNatClampNeg == 5) (zlet (σ k0 1).toNatClampNeg (fun q_7 => zbd (FX5_clear q_7 σ) (fun _ σ_8 => zlet (zup σ_8 k0 2 x1) (fun σ_10 => zlet (zup σ_10 k0 5 0) (fun σ_11 => zlet (zup σ_11 k0 7 0) (fun σ_12 => zlet (zup σ_12 k0 8 0) (fun σ_13 => zlet (zup σ_13 k0 9 (-1)) (fun σ_14 => zbd (FX3_readToken k0 σ_14) (fun _ σ_15 => zlet 0 (fun x2_17 => zlp (fun q => FX3_read_L38 k0 x1 q.1 q.2) (x2_17, σ_15)))))))))))
set_option maxHeartbeats 4000000 in
set_option maxRecDepth 100000 in
theorem kX3_read (l : Launch) {V : zV} {σ : zS} {t0 : Int32 × zS} {k0 : Nat} {x1 : Int32} (hk0 : kd 0 k0 = 3) (h1 : FX3_read k0 x1 σ = some t0) : zMi l yX3_read cX3_read 3 (some .int) 213 8490 0 V σ t0 [.ref (zad V k0), .int x1] := by
  refine zMi_of (by decide) (Nat.le_of_ble_eq_true rfl) ?_
  intro p e s m below meth c A C0 hr hlk hZ ls hl
  generalize ([.ref (zad V k0), .int x1] : List Value).toArray = args at C0 ⊢
  obtain ⟨Q, hQ⟩ : ∃ Q, Q = MQ below (zQi 0 V t0 A) args s 0 0 A := ⟨_, rfl⟩
  rw [← hQ]
  have hx := C0.1
  have hb := C0.2.1
  have hl : lv_has ls 3 [(0, .ref (zad V k0)), (1, .int x1)] := hl
  unfold FX3_read at h1
  have J67 : ∀  (σ : zS) (H : Heap) (locs : List Loc) (ls : Array Slot), zZ 0 V A σ s H locs → lv_has ls 3 [(0, .ref (zad V k0))] → FX3_read_b67 k0 σ = some t0 → W p l e (zrm 213 8490) s m args below meth c H locs 0 0 Q (F0 m 67 ls []) := by
    intro  σ H locs ls  hZ hl h1
    unfold FX3_read_b67 at h1
    refine lv_aload_n hx hb dX3_read_67 rfl (lv_at hl 0 rfl) ?_
    refine z_getm C0 hZ h1 hk0 fRX3_18 rfl dX3_read_68 (fun q_1 hq_1 h1 => ?_)
    refine z_getr C0 hZ hq_1 fRX3_56 rfl dX3_read_71 ?_
    refine z_cVv (As := []) (rest := []) C0 hZ h1 (fun _ hf => kX1_measure l (zkt5_0 hq_1) hf) mRX3_60 vX1_measure (zkt5_0 hq_1) rfl rfl hl.1 (Nat.le_of_ble_eq_true rfl) ⟨Nat.le_of_ble_eq_true rfl, Nat.le_of_ble_eq_true rfl⟩ dX3_read_74 ⟨Nat.le_of_ble_eq_true rfl, Nat.le_of_ble_eq_true rfl⟩ (fun _ σ_2 H locs h1 hZ => ?_)
    refine lv_aload_n hx hb dX3_read_77 rfl (lv_at hl 0 rfl) ?_
    refine z_geti C0 hZ hk0 fRX3_41 rfl dX3_read_78 ?_
    rw [hQ]; exact z_iret C0 hr hlk hZ h1 dX3_read_81
  have J38 : ∀ (n : Nat) (x2 : Int32) (σ : zS) (H : Heap) (locs : List Loc) (ls : Array Slot), zZ 0 V A σ s H locs → lv_has ls 3 [(0, .ref (zad V k0)), (1, .int x1), (2, .int x2)] → zit (fun q => FX3_read_L38 k0 x1 q.1 q.2) n (x2, σ) = some t0 → W p l e (zrm 213 8490) s m args below meth c H locs 0 0 Q (F0 m 38 ls []) := by
    intro n
    induction n with
    | zero => intro x2 σ H locs ls  _ _ h1; cases h1
    | succ n ih38 =>
      intro x2 σ H locs ls  hZ hl h1
      obtain ⟨t1, h1, hz1⟩ := zit_1 h1
      replace h1 : FX3_read_L38 k0 x1 x2 σ = some t1 := h1
      unfold FX3_read_L38 at h1
      refine lv_iload_n hx hb dX3_read_38 rfl (lv_at hl 2 rfl) ?_
      refine lv_iload_n hx hb dX3_read_39 rfl (lv_at hl 1 rfl) ?_
      refine z_ic_gt (tgt := 67) C0 h1 dX3_read_40 (by decide) (fun h1 => ?_) (fun h1 => ?_)
      · have h1 := zout h1 hz1
        exact J67  _ _ _ _  hZ (lv_sub hl [0] rfl) h1
      refine lv_aload_n hx hb dX3_read_43 rfl (lv_at hl 0 rfl) ?_
      refine z_geti C0 hZ hk0 fRX3_41 rfl dX3_read_44 ?_
      refine z_if_ne (tgt := 67) C0 h1 dX3_read_47 (by decide) (fun h1 => ?_) (fun h1 => ?_)
      · have h1 := zout h1 hz1
        exact J67  _ _ _ _  hZ (lv_sub hl [0] rfl) h1
      refine lv_aload_n hx hb dX3_read_50 rfl (lv_at hl 0 rfl) ?_
      refine z_geti C0 hZ hk0 fRX3_26 rfl dX3_read_51 ?_
      refine z_if_eq (tgt := 67) C0 h1 dX3_read_54 (by decide) (fun h1 => ?_) (fun h1 => ?_)
      · have h1 := zout h1 hz1
        exact J67  _ _ _ _  hZ (lv_sub hl [0] rfl) h1
      refine lv_aload_n hx hb dX3_read_57 rfl (lv_at hl 0 rfl) ?_
      refine z_cVv (As := []) (rest := []) C0 hZ h1 (fun _ hf => kX3_readLine l hk0 hf) mRX3_53 vX3_readLine hk0 rfl rfl hl.1 (Nat.le_of_ble_eq_true rfl) ⟨Nat.le_of_ble_eq_true rfl, Nat.le_of_ble_eq_true rfl⟩ dX3_read_58 ⟨Nat.le_of_ble_eq_true rfl, Nat.le_of_ble_eq_true rfl⟩ (fun _ σ_4 H locs h1 hZ => ?_)
      refine z_iinc (v := 1) C0 h1 hl (fun x2_6 => [(2, .int x2_6), (0, .ref (zad V k0)), (1, .int x1)]) dX3_read_61 (k := 2) rfl (by decide) (by decide) (fun _ => rfl) (fun x2_6 ls h1 hl => ?_)
      refine lv_goto (tgt := 38) hx hb dX3_read_64 (by decide) ?_
      exact ih38 x2_6 _ _ _ _  hZ (lv_sub hl [1, 2, 0] rfl) (zback h1 hz1)
  refine lv_aload_n hx hb dX3_read_0 rfl (lv_at hl 0 rfl) ?_
  refine z_getm C0 hZ h1 hk0 fRX3_18 rfl dX3_read_1 (fun q_7 hq_7 h1 => ?_)
  refine z_cVv (As := []) (rest := []) C0 hZ h1 (fun _ hf => kX5_clear l hq_7 hf) mRX3_47 vX5_clear hq_7 rfl rfl hl.1 (Nat.le_of_ble_eq_true rfl) ⟨Nat.le_of_ble_eq_true rfl, Nat.le_of_ble_eq_true rfl⟩ dX3_read_4 ⟨Nat.le_of_ble_eq_true rfl, Nat.le_of_ble_eq_true rfl⟩ (fun _ σ_8 H locs h1 hZ => ?_)
  refine lv_aload_n hx hb dX3_read_7 rfl (lv_at hl 0 rfl) ?_
  refine lv_iload_n hx hb dX3_read_8 rfl (lv_at hl 1 rfl) ?_
  refine z_puti C0 hZ h1 hk0 fRX3_22 rfl tyX3_ok nmX3 rfl rfl rfl dX3_read_9 (fun σ_10 H locs h1 hZ => ?_)
  refine lv_aload_n hx hb dX3_read_12 rfl (lv_at hl 0 rfl) ?_
  refine lv_iconst (v := 0) hx hb dX3_read_13 (by decide) ?_
  refine z_puti C0 hZ h1 hk0 fRX3_32 rfl tyX3_ok nmX3 rfl rfl rfl dX3_read_14 (fun σ_11 H locs h1 hZ => ?_)
  refine lv_aload_n hx hb dX3_read_17 rfl (lv_at hl 0 rfl) ?_
  refine lv_iconst (v := 0) hx hb dX3_read_18 (by decide) ?_
  refine z_puti C0 hZ h1 hk0 fRX3_38 rfl tyX3_ok nmX3 rfl rfl rfl dX3_read_19 (fun σ_12 H locs h1 hZ => ?_)
  refine lv_aload_n hx hb dX3_read_22 rfl (lv_at hl 0 rfl) ?_
  refine lv_iconst (v := 0) hx hb dX3_read_23 (by decide) ?_
  refine z_puti C0 hZ h1 hk0 fRX3_41 rfl tyX3_ok nmX3 rfl rfl rfl dX3_read_24 (fun σ_13 H locs h1 hZ => ?_)
  refine lv_aload_n hx hb dX3_read_27 rfl (lv_at hl 0 rfl) ?_
  refine lv_iconst (v := (-1)) hx hb dX3_read_28 (by decide) ?_
  refine z_puti C0 hZ h1 hk0 fRX3_44 rfl tyX3_ok nmX3 rfl rfl rfl dX3_read_29 (fun σ_14 H locs h1 hZ => ?_)
  refine lv_aload_n hx hb dX3_read_32 rfl (lv_at hl 0 rfl) ?_
  refine z_cVv (As := []) (rest := []) C0 hZ h1 (fun _ hf => kX3_readToken l hk0 hf) mRX3_50 vX3_readToken hk0 rfl rfl hl.1 (Nat.le_of_ble_eq_true rfl) ⟨Nat.le_of_ble_eq_true rfl, Nat.le_of_ble_eq_true rfl⟩ dX3_read_33 ⟨Nat.le_of_ble_eq_true rfl, Nat.le_of_ble_eq_true rfl⟩ (fun _ σ_15 H locs h1 hZ => ?_)
  refine lv_iconst (v := 0) hx hb dX3_read_36 (by decide) ?_
  refine z_istore_n C0 h1 hl (fun x2_17 => [(2, .int x2_17), (0, .ref (zad V k0)), (1, .int x1)]) dX3_read_37 rfl (by decide) (fun _ => rfl) (fun x2_17 ls h1 hl => ?_)
  obtain ⟨n, h1⟩ := zlp_iff.mp h1
  exact J38 n x2_17 _ _ _ _  hZ (lv_sub hl [1, 2, 0] rfl) h1
noncomputable def FX6_begin_b16 (k0 : Nat) (k1 : Nat) (q0 : Nat) (y1 : Int32) (σ : zS) : Option (Int32 × zS) := zlet (zup σ q0 0 y1) (fun σ_1 => zlet (zup σ_1 k0 1 0) (fun σ_2 => zlet (zup σ_2 k0 2 0) (fun σ_3 => zlet (zup σ_3 k0 3 (σ_3 k1 5)) (fun σ_4 => zlet (zup σ_4 k0 4 (σ_4 (k1 + 1) 2)) (fun σ_5 => zlet (zup σ_5 k0 5 0) (fun σ_6 => zbd (FX7_copyRow ((k1 + 1) + 4) (k0 + 1) σ_6) (fun _ σ_7 => zbd (FX7_copyRow ((k1 + 1) + 2) (k0 + 2) σ_7) (fun _ σ_9 => zlet (zup σ_9 k0 8 0) (fun σ_11 => zlet (zup σ_11 k0 10 0) (fun σ_12 => zlet (zup σ_12 k0 13 0) (fun σ_13 => some (0, σ_13))))))))))))
noncomputable def FX6_begin (k0 : Nat) (k1 : Nat) (σ : zS) : Option (Int32 × zS) := if (σ (k1 + 14) 0) ≤ 0 then FX6_begin_b16 k0 k1 k0 0 σ else FX6_begin_b16 k0 k1 k0 1 σ
set_option maxHeartbeats 4000000 in
set_option maxRecDepth 100000 in
theorem kX6_begin (l : Launch) {V : zV} {σ : zS} {t0 : Int32 × zS} {k0 : Nat} {k1 : Nat} (hk0 : kd 0 k0 = 6) (hk1 : kd 0 k1 = 5) (h1 : FX6_begin k0 k1 σ = some t0) : zMv l yX6_begin cX6_begin 2 2 81 0 V σ t0 [.ref (zad V k0), .ref (zad V k1)] := by
  refine zMv_of (by decide) (Nat.le_of_ble_eq_true rfl) ?_
  intro p e s m below meth c A C0 hr hlk hZ ls hl
  generalize ([.ref (zad V k0), .ref (zad V k1)] : List Value).toArray = args at C0 ⊢
  obtain ⟨Q, hQ⟩ : ∃ Q, Q = MQ below (zQv 0 V t0 A) args s 0 0 A := ⟨_, rfl⟩
  rw [← hQ]
  have hx := C0.1
  have hb := C0.2.1
  have hl : lv_has ls 2 [(0, .ref (zad V k0)), (1, .ref (zad V k1))] := hl
  unfold FX6_begin at h1
  have J16 : ∀ (q0 : Nat) (y1 : Int32) (σ : zS) (H : Heap) (locs : List Loc) (ls : Array Slot), kd 0 q0 = 6 → zZ 0 V A σ s H locs → lv_has ls 2 [(0, .ref (zad V k0)), (1, .ref (zad V k1))] → FX6_begin_b16 k0 k1 q0 y1 σ = some t0 → W p l e (zrm 2 81) s m args below meth c H locs 0 0 Q (F0 m 16 ls [.int y1, .ref (zad V q0)]) := by
    intro q0 y1 σ H locs ls hq0 hZ hl h1
    unfold FX6_begin_b16 at h1
    refine z_puti C0 hZ h1 hq0 fRX6_9 rfl tyX6_ok nmX6 rfl rfl rfl dX6_begin_16 (fun σ_1 H locs h1 hZ => ?_)
    refine lv_aload_n hx hb dX6_begin_19 rfl (lv_at hl 0 rfl) ?_
    refine lv_iconst (v := 0) hx hb dX6_begin_20 (by decide) ?_
    refine z_puti C0 hZ h1 hk0 fRX6_15 rfl tyX6_ok nmX6 rfl rfl rfl dX6_begin_21 (fun σ_2 H locs h1 hZ => ?_)
    refine lv_aload_n hx hb dX6_begin_24 rfl (lv_at hl 0 rfl) ?_
    refine lv_iconst (v := 0) hx hb dX6_begin_25 (by decide) ?_
    refine z_puti C0 hZ h1 hk0 fRX6_18 rfl tyX6_ok nmX6 rfl rfl rfl dX6_begin_26 (fun σ_3 H locs h1 hZ => ?_)
    refine lv_aload_n hx hb dX6_begin_29 rfl (lv_at hl 0 rfl) ?_
    refine lv_aload_n hx hb dX6_begin_30 rfl (lv_at hl 1 rfl) ?_
    refine z_geti C0 hZ hk1 fRX6_75 rfl dX6_begin_31 ?_
    refine z_puti C0 hZ h1 hk0 fRX6_21 rfl tyX6_ok nmX6 rfl rfl rfl dX6_begin_34 (fun σ_4 H locs h1 hZ => ?_)
    refine lv_aload_n hx hb dX6_begin_37 rfl (lv_at hl 0 rfl) ?_
    refine lv_aload_n hx hb dX6_begin_38 rfl (lv_at hl 1 rfl) ?_
    refine z_getr C0 hZ hk1 fRX6_76 rfl dX6_begin_39 ?_
    refine z_geti C0 hZ (zkt5_0 hk1) fRX6_80 rfl dX6_begin_42 ?_
    refine z_puti C0 hZ h1 hk0 fRX6_24 rfl tyX6_ok nmX6 rfl rfl rfl dX6_begin_45 (fun σ_5 H locs h1 hZ => ?_)
    refine lv_aload_n hx hb dX6_begin_48 rfl (lv_at hl 0 rfl) ?_
    refine lv_iconst (v := 0) hx hb dX6_begin_49 (by decide) ?_
    refine z_puti C0 hZ h1 hk0 fRX6_27 rfl tyX6_ok nmX6 rfl rfl rfl dX6_begin_50 (fun σ_6 H locs h1 hZ => ?_)
    refine lv_aload_n hx hb dX6_begin_53 rfl (lv_at hl 1 rfl) ?_
    refine z_getr C0 hZ hk1 fRX6_76 rfl dX6_begin_54 ?_
    refine z_getr C0 hZ (zkt5_0 hk1) fRX6_83 rfl dX6_begin_57 ?_
    refine lv_aload_n hx hb dX6_begin_60 rfl (lv_at hl 0 rfl) ?_
    refine z_getr C0 hZ hk0 fRX6_30 rfl dX6_begin_61 ?_
    refine z_cSv (As := [.ref (zad V ((k1 + 1) + 4)), .ref (zad V (k0 + 1))]) (rest := []) C0 hZ h1 (fun _ hf => kX7_copyRow l (zkt1_6 (zkt5_0 hk1)) (zkt6_6 hk0) hf) mRX6_84 sX7_copyRow rfl rfl hl.1 (Nat.le_of_ble_eq_true rfl) ⟨Nat.le_of_ble_eq_true rfl, Nat.le_of_ble_eq_true rfl⟩ dX6_begin_64 ⟨Nat.le_of_ble_eq_true rfl, Nat.le_of_ble_eq_true rfl⟩ (fun _ σ_7 H locs h1 hZ => ?_)
    refine lv_aload_n hx hb dX6_begin_67 rfl (lv_at hl 1 rfl) ?_
    refine z_getr C0 hZ hk1 fRX6_76 rfl dX6_begin_68 ?_
    refine z_getr C0 hZ (zkt5_0 hk1) fRX6_88 rfl dX6_begin_71 ?_
    refine lv_aload_n hx hb dX6_begin_74 rfl (lv_at hl 0 rfl) ?_
    refine z_getr C0 hZ hk0 fRX6_34 rfl dX6_begin_75 ?_
    refine z_cSv (As := [.ref (zad V ((k1 + 1) + 2)), .ref (zad V (k0 + 2))]) (rest := []) C0 hZ h1 (fun _ hf => kX7_copyRow l (zkt1_4 (zkt5_0 hk1)) (zkt6_7 hk0) hf) mRX6_84 sX7_copyRow rfl rfl hl.1 (Nat.le_of_ble_eq_true rfl) ⟨Nat.le_of_ble_eq_true rfl, Nat.le_of_ble_eq_true rfl⟩ dX6_begin_78 ⟨Nat.le_of_ble_eq_true rfl, Nat.le_of_ble_eq_true rfl⟩ (fun _ σ_9 H locs h1 hZ => ?_)
    refine lv_aload_n hx hb dX6_begin_81 rfl (lv_at hl 0 rfl) ?_
    refine lv_iconst (v := 0) hx hb dX6_begin_82 (by decide) ?_
    refine z_puti C0 hZ h1 hk0 fRX6_37 rfl tyX6_ok nmX6 rfl rfl rfl dX6_begin_83 (fun σ_11 H locs h1 hZ => ?_)
    refine lv_aload_n hx hb dX6_begin_86 rfl (lv_at hl 0 rfl) ?_
    refine lv_iconst (v := 0) hx hb dX6_begin_87 (by decide) ?_
    refine z_puti C0 hZ h1 hk0 fRX6_43 rfl tyX6_ok nmX6 rfl rfl rfl dX6_begin_88 (fun σ_12 H locs h1 hZ => ?_)
    refine lv_aload_n hx hb dX6_begin_91 rfl (lv_at hl 0 rfl) ?_
    refine lv_iconst (v := 0) hx hb dX6_begin_92 (by decide) ?_
    refine z_puti C0 hZ h1 hk0 fRX6_52 rfl tyX6_ok nmX6 rfl rfl rfl dX6_begin_93 (fun σ_13 H locs h1 hZ => ?_)
    rw [hQ]; exact z_vret C0 hr hlk hZ h1 dX6_begin_96
  refine lv_aload_n hx hb dX6_begin_0 rfl (lv_at hl 0 rfl) ?_
  refine lv_aload_n hx hb dX6_begin_1 rfl (lv_at hl 1 rfl) ?_
  refine z_getr C0 hZ hk1 fRX6_64 rfl dX6_begin_2 ?_
  refine z_geti C0 hZ (zkt5_2 hk1) fRX6_70 rfl dX6_begin_5 ?_
  refine z_if_le (tgt := 15) C0 h1 dX6_begin_8 (by decide) (fun h1 => ?_) (fun h1 => ?_)
  · refine lv_iconst (v := 0) hx hb dX6_begin_15 (by decide) ?_
    exact J16 k0 0 _ _ _ _ hk0 hZ (lv_sub hl [0, 1] rfl) h1
  refine lv_iconst (v := 1) hx hb dX6_begin_11 (by decide) ?_
  refine lv_goto (tgt := 16) hx hb dX6_begin_12 (by decide) ?_
  exact J16 k0 1 _ _ _ _ hk0 hZ (lv_sub hl [0, 1] rfl) h1
noncomputable def FX6_copy (k0 : Nat) (k1 : Nat) (σ : zS) : Option (Int32 × zS) := zlet (zup σ k0 0 (σ k1 0)) (fun σ_1 => zlet (zup σ_1 k0 1 (σ_1 k1 1)) (fun σ_2 => zlet (zup σ_2 k0 2 (σ_2 k1 2)) (fun σ_3 => zlet (zup σ_3 k0 3 (σ_3 k1 3)) (fun σ_4 => zlet (zup σ_4 k0 4 (σ_4 k1 4)) (fun σ_5 => zlet (zup σ_5 k0 5 (σ_5 k1 5)) (fun σ_6 => zbd (FX7_copyRow (k1 + 1) (k0 + 1) σ_6) (fun _ σ_7 => zbd (FX7_copyRow (k1 + 2) (k0 + 2) σ_7) (fun _ σ_9 => zlet (zup σ_9 k0 8 (σ_9 k1 8)) (fun σ_11 => zbd (FX7_copyRow (k1 + 3) (k0 + 3) σ_11) (fun _ σ_12 => zlet (zup σ_12 k0 10 (σ_12 k1 10)) (fun σ_14 => zbd (FX7_copyRow (k1 + 4) (k0 + 4) σ_14) (fun _ σ_15 => zbd (FX7_copyRow (k1 + 5) (k0 + 5) σ_15) (fun _ σ_17 => zlet (zup σ_17 k0 13 (σ_17 k1 13)) (fun σ_19 => zbd (FX7_copyRow (k1 + 6) (k0 + 6) σ_19) (fun _ σ_20 => zbd (FX7_copyRow (k1 + 7) (k0 + 7) σ_20) (fun _ σ_22 => zbd (FX7_copyRow (k1 + 8) (k0 + 8) σ_22) (fun _ σ_24 => some (0, σ_24))))))))))))))))))
set_option maxHeartbeats 4000000 in
set_option maxRecDepth 100000 in
theorem kX6_copy (l : Launch) {V : zV} {σ : zS} {t0 : Int32 × zS} {k0 : Nat} {k1 : Nat} (hk0 : kd 0 k0 = 6) (hk1 : kd 0 k1 = 6) (h1 : FX6_copy k0 k1 σ = some t0) : zMv l yX6_copy cX6_copy 2 2 81 0 V σ t0 [.ref (zad V k0), .ref (zad V k1)] := by
  refine zMv_of (by decide) (Nat.le_of_ble_eq_true rfl) ?_
  intro p e s m below meth c A C0 hr hlk hZ ls hl
  generalize ([.ref (zad V k0), .ref (zad V k1)] : List Value).toArray = args at C0 ⊢
  obtain ⟨Q, hQ⟩ : ∃ Q, Q = MQ below (zQv 0 V t0 A) args s 0 0 A := ⟨_, rfl⟩
  rw [← hQ]
  have hx := C0.1
  have hb := C0.2.1
  have hl : lv_has ls 2 [(0, .ref (zad V k0)), (1, .ref (zad V k1))] := hl
  unfold FX6_copy at h1
  refine lv_aload_n hx hb dX6_copy_0 rfl (lv_at hl 0 rfl) ?_
  refine lv_aload_n hx hb dX6_copy_1 rfl (lv_at hl 1 rfl) ?_
  refine z_geti C0 hZ hk1 fRX6_9 rfl dX6_copy_2 ?_
  refine z_puti C0 hZ h1 hk0 fRX6_9 rfl tyX6_ok nmX6 rfl rfl rfl dX6_copy_5 (fun σ_1 H locs h1 hZ => ?_)
  refine lv_aload_n hx hb dX6_copy_8 rfl (lv_at hl 0 rfl) ?_
  refine lv_aload_n hx hb dX6_copy_9 rfl (lv_at hl 1 rfl) ?_
  refine z_geti C0 hZ hk1 fRX6_15 rfl dX6_copy_10 ?_
  refine z_puti C0 hZ h1 hk0 fRX6_15 rfl tyX6_ok nmX6 rfl rfl rfl dX6_copy_13 (fun σ_2 H locs h1 hZ => ?_)
  refine lv_aload_n hx hb dX6_copy_16 rfl (lv_at hl 0 rfl) ?_
  refine lv_aload_n hx hb dX6_copy_17 rfl (lv_at hl 1 rfl) ?_
  refine z_geti C0 hZ hk1 fRX6_18 rfl dX6_copy_18 ?_
  refine z_puti C0 hZ h1 hk0 fRX6_18 rfl tyX6_ok nmX6 rfl rfl rfl dX6_copy_21 (fun σ_3 H locs h1 hZ => ?_)
  refine lv_aload_n hx hb dX6_copy_24 rfl (lv_at hl 0 rfl) ?_
  refine lv_aload_n hx hb dX6_copy_25 rfl (lv_at hl 1 rfl) ?_
  refine z_geti C0 hZ hk1 fRX6_21 rfl dX6_copy_26 ?_
  refine z_puti C0 hZ h1 hk0 fRX6_21 rfl tyX6_ok nmX6 rfl rfl rfl dX6_copy_29 (fun σ_4 H locs h1 hZ => ?_)
  refine lv_aload_n hx hb dX6_copy_32 rfl (lv_at hl 0 rfl) ?_
  refine lv_aload_n hx hb dX6_copy_33 rfl (lv_at hl 1 rfl) ?_
  refine z_geti C0 hZ hk1 fRX6_24 rfl dX6_copy_34 ?_
  refine z_puti C0 hZ h1 hk0 fRX6_24 rfl tyX6_ok nmX6 rfl rfl rfl dX6_copy_37 (fun σ_5 H locs h1 hZ => ?_)
  refine lv_aload_n hx hb dX6_copy_40 rfl (lv_at hl 0 rfl) ?_
  refine lv_aload_n hx hb dX6_copy_41 rfl (lv_at hl 1 rfl) ?_
  refine z_geti C0 hZ hk1 fRX6_27 rfl dX6_copy_42 ?_
  refine z_puti C0 hZ h1 hk0 fRX6_27 rfl tyX6_ok nmX6 rfl rfl rfl dX6_copy_45 (fun σ_6 H locs h1 hZ => ?_)
  refine lv_aload_n hx hb dX6_copy_48 rfl (lv_at hl 1 rfl) ?_
  refine z_getr C0 hZ hk1 fRX6_30 rfl dX6_copy_49 ?_
  refine lv_aload_n hx hb dX6_copy_52 rfl (lv_at hl 0 rfl) ?_
  refine z_getr C0 hZ hk0 fRX6_30 rfl dX6_copy_53 ?_
  refine z_cSv (As := [.ref (zad V (k1 + 1)), .ref (zad V (k0 + 1))]) (rest := []) C0 hZ h1 (fun _ hf => kX7_copyRow l (zkt6_6 hk1) (zkt6_6 hk0) hf) mRX6_84 sX7_copyRow rfl rfl hl.1 (Nat.le_of_ble_eq_true rfl) ⟨Nat.le_of_ble_eq_true rfl, Nat.le_of_ble_eq_true rfl⟩ dX6_copy_56 ⟨Nat.le_of_ble_eq_true rfl, Nat.le_of_ble_eq_true rfl⟩ (fun _ σ_7 H locs h1 hZ => ?_)
  refine lv_aload_n hx hb dX6_copy_59 rfl (lv_at hl 1 rfl) ?_
  refine z_getr C0 hZ hk1 fRX6_34 rfl dX6_copy_60 ?_
  refine lv_aload_n hx hb dX6_copy_63 rfl (lv_at hl 0 rfl) ?_
  refine z_getr C0 hZ hk0 fRX6_34 rfl dX6_copy_64 ?_
  refine z_cSv (As := [.ref (zad V (k1 + 2)), .ref (zad V (k0 + 2))]) (rest := []) C0 hZ h1 (fun _ hf => kX7_copyRow l (zkt6_7 hk1) (zkt6_7 hk0) hf) mRX6_84 sX7_copyRow rfl rfl hl.1 (Nat.le_of_ble_eq_true rfl) ⟨Nat.le_of_ble_eq_true rfl, Nat.le_of_ble_eq_true rfl⟩ dX6_copy_67 ⟨Nat.le_of_ble_eq_true rfl, Nat.le_of_ble_eq_true rfl⟩ (fun _ σ_9 H locs h1 hZ => ?_)
  refine lv_aload_n hx hb dX6_copy_70 rfl (lv_at hl 0 rfl) ?_
  refine lv_aload_n hx hb dX6_copy_71 rfl (lv_at hl 1 rfl) ?_
  refine z_geti C0 hZ hk1 fRX6_37 rfl dX6_copy_72 ?_
  refine z_puti C0 hZ h1 hk0 fRX6_37 rfl tyX6_ok nmX6 rfl rfl rfl dX6_copy_75 (fun σ_11 H locs h1 hZ => ?_)
  refine lv_aload_n hx hb dX6_copy_78 rfl (lv_at hl 1 rfl) ?_
  refine z_getr C0 hZ hk1 fRX6_40 rfl dX6_copy_79 ?_
  refine lv_aload_n hx hb dX6_copy_82 rfl (lv_at hl 0 rfl) ?_
  refine z_getr C0 hZ hk0 fRX6_40 rfl dX6_copy_83 ?_
  refine z_cSv (As := [.ref (zad V (k1 + 3)), .ref (zad V (k0 + 3))]) (rest := []) C0 hZ h1 (fun _ hf => kX7_copyRow l (zkt6_9 hk1) (zkt6_9 hk0) hf) mRX6_84 sX7_copyRow rfl rfl hl.1 (Nat.le_of_ble_eq_true rfl) ⟨Nat.le_of_ble_eq_true rfl, Nat.le_of_ble_eq_true rfl⟩ dX6_copy_86 ⟨Nat.le_of_ble_eq_true rfl, Nat.le_of_ble_eq_true rfl⟩ (fun _ σ_12 H locs h1 hZ => ?_)
  refine lv_aload_n hx hb dX6_copy_89 rfl (lv_at hl 0 rfl) ?_
  refine lv_aload_n hx hb dX6_copy_90 rfl (lv_at hl 1 rfl) ?_
  refine z_geti C0 hZ hk1 fRX6_43 rfl dX6_copy_91 ?_
  refine z_puti C0 hZ h1 hk0 fRX6_43 rfl tyX6_ok nmX6 rfl rfl rfl dX6_copy_94 (fun σ_14 H locs h1 hZ => ?_)
  refine lv_aload_n hx hb dX6_copy_97 rfl (lv_at hl 1 rfl) ?_
  refine z_getr C0 hZ hk1 fRX6_46 rfl dX6_copy_98 ?_
  refine lv_aload_n hx hb dX6_copy_101 rfl (lv_at hl 0 rfl) ?_
  refine z_getr C0 hZ hk0 fRX6_46 rfl dX6_copy_102 ?_
  refine z_cSv (As := [.ref (zad V (k1 + 4)), .ref (zad V (k0 + 4))]) (rest := []) C0 hZ h1 (fun _ hf => kX7_copyRow l (zkt6_11 hk1) (zkt6_11 hk0) hf) mRX6_84 sX7_copyRow rfl rfl hl.1 (Nat.le_of_ble_eq_true rfl) ⟨Nat.le_of_ble_eq_true rfl, Nat.le_of_ble_eq_true rfl⟩ dX6_copy_105 ⟨Nat.le_of_ble_eq_true rfl, Nat.le_of_ble_eq_true rfl⟩ (fun _ σ_15 H locs h1 hZ => ?_)
  refine lv_aload_n hx hb dX6_copy_108 rfl (lv_at hl 1 rfl) ?_
  refine z_getr C0 hZ hk1 fRX6_49 rfl dX6_copy_109 ?_
  refine lv_aload_n hx hb dX6_copy_112 rfl (lv_at hl 0 rfl) ?_
  refine z_getr C0 hZ hk0 fRX6_49 rfl dX6_copy_113 ?_
  refine z_cSv (As := [.ref (zad V (k1 + 5)), .ref (zad V (k0 + 5))]) (rest := []) C0 hZ h1 (fun _ hf => kX7_copyRow l (zkt6_12 hk1) (zkt6_12 hk0) hf) mRX6_84 sX7_copyRow rfl rfl hl.1 (Nat.le_of_ble_eq_true rfl) ⟨Nat.le_of_ble_eq_true rfl, Nat.le_of_ble_eq_true rfl⟩ dX6_copy_116 ⟨Nat.le_of_ble_eq_true rfl, Nat.le_of_ble_eq_true rfl⟩ (fun _ σ_17 H locs h1 hZ => ?_)
  refine lv_aload_n hx hb dX6_copy_119 rfl (lv_at hl 0 rfl) ?_
  refine lv_aload_n hx hb dX6_copy_120 rfl (lv_at hl 1 rfl) ?_
  refine z_geti C0 hZ hk1 fRX6_52 rfl dX6_copy_121 ?_
  refine z_puti C0 hZ h1 hk0 fRX6_52 rfl tyX6_ok nmX6 rfl rfl rfl dX6_copy_124 (fun σ_19 H locs h1 hZ => ?_)
  refine lv_aload_n hx hb dX6_copy_127 rfl (lv_at hl 1 rfl) ?_
  refine z_getr C0 hZ hk1 fRX6_55 rfl dX6_copy_128 ?_
  refine lv_aload_n hx hb dX6_copy_131 rfl (lv_at hl 0 rfl) ?_
  refine z_getr C0 hZ hk0 fRX6_55 rfl dX6_copy_132 ?_
  refine z_cSv (As := [.ref (zad V (k1 + 6)), .ref (zad V (k0 + 6))]) (rest := []) C0 hZ h1 (fun _ hf => kX7_copyRow l (zkt6_14 hk1) (zkt6_14 hk0) hf) mRX6_84 sX7_copyRow rfl rfl hl.1 (Nat.le_of_ble_eq_true rfl) ⟨Nat.le_of_ble_eq_true rfl, Nat.le_of_ble_eq_true rfl⟩ dX6_copy_135 ⟨Nat.le_of_ble_eq_true rfl, Nat.le_of_ble_eq_true rfl⟩ (fun _ σ_20 H locs h1 hZ => ?_)
  refine lv_aload_n hx hb dX6_copy_138 rfl (lv_at hl 1 rfl) ?_
  refine z_getr C0 hZ hk1 fRX6_58 rfl dX6_copy_139 ?_
  refine lv_aload_n hx hb dX6_copy_142 rfl (lv_at hl 0 rfl) ?_
  refine z_getr C0 hZ hk0 fRX6_58 rfl dX6_copy_143 ?_
  refine z_cSv (As := [.ref (zad V (k1 + 7)), .ref (zad V (k0 + 7))]) (rest := []) C0 hZ h1 (fun _ hf => kX7_copyRow l (zkt6_15 hk1) (zkt6_15 hk0) hf) mRX6_84 sX7_copyRow rfl rfl hl.1 (Nat.le_of_ble_eq_true rfl) ⟨Nat.le_of_ble_eq_true rfl, Nat.le_of_ble_eq_true rfl⟩ dX6_copy_146 ⟨Nat.le_of_ble_eq_true rfl, Nat.le_of_ble_eq_true rfl⟩ (fun _ σ_22 H locs h1 hZ => ?_)
  refine lv_aload_n hx hb dX6_copy_149 rfl (lv_at hl 1 rfl) ?_
  refine z_getr C0 hZ hk1 fRX6_61 rfl dX6_copy_150 ?_
  refine lv_aload_n hx hb dX6_copy_153 rfl (lv_at hl 0 rfl) ?_
  refine z_getr C0 hZ hk0 fRX6_61 rfl dX6_copy_154 ?_
  refine z_cSv (As := [.ref (zad V (k1 + 8)), .ref (zad V (k0 + 8))]) (rest := []) C0 hZ h1 (fun _ hf => kX7_copyRow l (zkt6_16 hk1) (zkt6_16 hk0) hf) mRX6_84 sX7_copyRow rfl rfl hl.1 (Nat.le_of_ble_eq_true rfl) ⟨Nat.le_of_ble_eq_true rfl, Nat.le_of_ble_eq_true rfl⟩ dX6_copy_157 ⟨Nat.le_of_ble_eq_true rfl, Nat.le_of_ble_eq_true rfl⟩ (fun _ σ_24 H locs h1 hZ => ?_)
  rw [hQ]; exact z_vret C0 hr hlk hZ h1 dX6_copy_160
noncomputable def FX6_refuse (k0 : Nat) (x1 : Int32) (σ : zS) : Option (Int32 × zS) := zbd (FX7_at (k0 + 8) x1 σ) (fun r_2 σ_1 => zbd (FX7_put (k0 + 8) x1 (r_2 + 1) σ_1) (fun _ σ_3 => some (0, σ_3)))
set_option maxHeartbeats 4000000 in
set_option maxRecDepth 100000 in
theorem kX6_refuse (l : Launch) {V : zV} {σ : zS} {t0 : Int32 × zS} {k0 : Nat} {x1 : Int32} (hk0 : kd 0 k0 = 6) (h1 : FX6_refuse k0 x1 σ = some t0) : zMv l yX6_refuse cX6_refuse 2 1 22 0 V σ t0 [.ref (zad V k0), .int x1] := by
  refine zMv_of (by decide) (Nat.le_of_ble_eq_true rfl) ?_
  intro p e s m below meth c A C0 hr hlk hZ ls hl
  generalize ([.ref (zad V k0), .int x1] : List Value).toArray = args at C0 ⊢
  obtain ⟨Q, hQ⟩ : ∃ Q, Q = MQ below (zQv 0 V t0 A) args s 0 0 A := ⟨_, rfl⟩
  rw [← hQ]
  have hx := C0.1
  have hb := C0.2.1
  have hl : lv_has ls 2 [(0, .ref (zad V k0)), (1, .int x1)] := hl
  unfold FX6_refuse at h1
  refine lv_aload_n hx hb dX6_refuse_0 rfl (lv_at hl 0 rfl) ?_
  refine z_getr C0 hZ hk0 fRX6_61 rfl dX6_refuse_1 ?_
  refine lv_iload_n hx hb dX6_refuse_4 rfl (lv_at hl 1 rfl) ?_
  refine lv_aload_n hx hb dX6_refuse_5 rfl (lv_at hl 0 rfl) ?_
  refine z_getr C0 hZ hk0 fRX6_61 rfl dX6_refuse_6 ?_
  refine lv_iload_n hx hb dX6_refuse_9 rfl (lv_at hl 1 rfl) ?_
  refine z_cSi (As := [.ref (zad V (k0 + 8)), .int x1]) (rest := [.int x1, .ref (zad V (k0 + 8))]) C0 hZ h1 (fun _ hf => kX7_at l (zkt6_16 hk0) hf) mRX6_89 sX7_at rfl rfl hl.1 (Nat.le_of_ble_eq_true rfl) ⟨Nat.le_of_ble_eq_true rfl, Nat.le_of_ble_eq_true rfl⟩ dX6_refuse_10 ⟨Nat.le_of_ble_eq_true rfl, Nat.le_of_ble_eq_true rfl⟩ (fun r_2 σ_1 H locs h1 hZ => ?_)
  refine lv_iconst (v := 1) hx hb dX6_refuse_13 (by decide) ?_
  refine lv_iadd hx hb dX6_refuse_14 ?_
  refine z_cSv (As := [.ref (zad V (k0 + 8)), .int x1, .int (r_2 + 1)]) (rest := []) C0 hZ h1 (fun _ hf => kX7_put l (zkt6_16 hk0) hf) mRX6_93 sX7_put rfl rfl hl.1 (Nat.le_of_ble_eq_true rfl) ⟨Nat.le_of_ble_eq_true rfl, Nat.le_of_ble_eq_true rfl⟩ dX6_refuse_15 ⟨Nat.le_of_ble_eq_true rfl, Nat.le_of_ble_eq_true rfl⟩ (fun _ σ_3 H locs h1 hZ => ?_)
  rw [hQ]; exact z_vret C0 hr hlk hZ h1 dX6_refuse_18
noncomputable def FX6_keepAct_b185 (k0 : Nat) (σ : zS) : Option (Int32 × zS) := zlet (zup σ k0 8 ((σ k0 8) + 1)) (fun σ_1 => some (0, σ_1))
noncomputable def FX6_keepAct_L128 (k0 : Nat) (x1 : Int32) (x2 : Int32) (σ : zS) : Option ((Int32 × zS) ⊕ (Int32 × zS)) := if 10 ≤ x2 then zinr (FX6_keepAct_b185 k0 σ) else zbd (FX7_at (k0 + 1) x2 σ) (fun r_3 σ_2 => zbd (FX7_put (k0 + 3) ((x1 + 6) + x2) r_3 σ_2) (fun _ σ_4 => zbd (FX7_at (k0 + 2) x2 σ_4) (fun r_7 σ_6 => zbd (FX7_put (k0 + 3) (((x1 + 6) + 10) + x2) r_7 σ_6) (fun _ σ_8 => zlet (x2 + 1) (fun x2_10 => some (.inl (x2_10, σ_8)))))))
noncomputable def FX6_keepAct_b36 (k0 : Nat) (σ : zS) : Option (Int32 × zS) := zlet ((σ k0 8) * 26) (fun x1_11 => zbd (FX7_put (k0 + 3) x1_11 (σ k0 0) σ) (fun _ σ_12 => zbd (FX7_put (k0 + 3) (x1_11 + 1) (σ_12 k0 1) σ_12) (fun _ σ_14 => zbd (FX7_put (k0 + 3) (x1_11 + 2) (σ_14 k0 2) σ_14) (fun _ σ_16 => zbd (FX7_put (k0 + 3) (x1_11 + 3) (σ_16 k0 3) σ_16) (fun _ σ_18 => zbd (FX7_put (k0 + 3) (x1_11 + 4) (σ_18 k0 4) σ_18) (fun _ σ_20 => zbd (FX7_put (k0 + 3) (x1_11 + 5) (σ_20 k0 5) σ_20) (fun _ σ_22 => zlet 0 (fun x2_24 => zlp (fun q => FX6_keepAct_L128 k0 x1_11 q.1 q.2) (x2_24, σ_22)))))))))
noncomputable def FX6_keepAct (k0 : Nat) (σ : zS) : Option (Int32 × zS) := if (σ k0 8) = 40 then zgd (zcpok (ln 0 (k0 + 3)) (ln 0 (k0 + 3)) 26 0 1014) (zlet (zrow σ (k0 + 3) (va_cpy (σ (k0 + 3)) (σ (k0 + 3)) (Int32.toNatClampNeg 26) (Int32.toNatClampNeg 0) (Int32.toNatClampNeg 1014))) (fun σ_25 => zlet (zup σ_25 k0 8 ((σ_25 k0 8) - 1)) (fun σ_26 => FX6_keepAct_b36 k0 σ_26))) else FX6_keepAct_b36 k0 σ
set_option maxHeartbeats 4000000 in
set_option maxRecDepth 100000 in
theorem kX6_keepAct (l : Launch) {V : zV} {σ : zS} {t0 : Int32 × zS} {k0 : Nat} (hk0 : kd 0 k0 = 6) (h1 : FX6_keepAct k0 σ = some t0) : zMv l yX6_keepAct cX6_keepAct 3 1 60 0 V σ t0 [.ref (zad V k0)] := by
  refine zMv_of (by decide) (Nat.le_of_ble_eq_true rfl) ?_
  intro p e s m below meth c A C0 hr hlk hZ ls hl
  generalize ([.ref (zad V k0)] : List Value).toArray = args at C0 ⊢
  obtain ⟨Q, hQ⟩ : ∃ Q, Q = MQ below (zQv 0 V t0 A) args s 0 0 A := ⟨_, rfl⟩
  rw [← hQ]
  have hx := C0.1
  have hb := C0.2.1
  have hl : lv_has ls 3 [(0, .ref (zad V k0))] := hl
  unfold FX6_keepAct at h1
  have J185 : ∀  (σ : zS) (H : Heap) (locs : List Loc) (ls : Array Slot), zZ 0 V A σ s H locs → lv_has ls 3 [(0, .ref (zad V k0))] → FX6_keepAct_b185 k0 σ = some t0 → W p l e (zrm 1 60) s m args below meth c H locs 0 0 Q (F0 m 185 ls []) := by
    intro  σ H locs ls  hZ hl h1
    unfold FX6_keepAct_b185 at h1
    refine lv_aload_n hx hb dX6_keepAct_185 rfl (lv_at hl 0 rfl) ?_
    refine lv_dup hx hb dX6_keepAct_186 rfl ?_
    refine z_geti C0 hZ hk0 fRX6_37 rfl dX6_keepAct_187 ?_
    refine lv_iconst (v := 1) hx hb dX6_keepAct_190 (by decide) ?_
    refine lv_iadd hx hb dX6_keepAct_191 ?_
    refine z_puti C0 hZ h1 hk0 fRX6_37 rfl tyX6_ok nmX6 rfl rfl rfl dX6_keepAct_192 (fun σ_1 H locs h1 hZ => ?_)
    rw [hQ]; exact z_vret C0 hr hlk hZ h1 dX6_keepAct_195
  have J128 : ∀ (n : Nat) (x1 : Int32) (x2 : Int32) (σ : zS) (H : Heap) (locs : List Loc) (ls : Array Slot), zZ 0 V A σ s H locs → lv_has ls 3 [(0, .ref (zad V k0)), (1, .int x1), (2, .int x2)] → zit (fun q => FX6_keepAct_L128 k0 x1 q.1 q.2) n (x2, σ) = some t0 → W p l e (zrm 1 60) s m args below meth c H locs 0 0 Q (F0 m 128 ls []) := by
    intro n
    induction n with
    | zero => intro x1 x2 σ H locs ls  _ _ h1; cases h1
    | succ n ih128 =>
      intro x1 x2 σ H locs ls  hZ hl h1
      obtain ⟨t1, h1, hz1⟩ := zit_1 h1
      replace h1 : FX6_keepAct_L128 k0 x1 x2 σ = some t1 := h1
      unfold FX6_keepAct_L128 at h1
      refine lv_iload_n hx hb dX6_keepAct_128 rfl (lv_at hl 2 rfl) ?_
      refine lv_bipush (v := 10) hx hb dX6_keepAct_129 (by decide) ?_
      refine z_ic_ge (tgt := 185) C0 h1 dX6_keepAct_131 (by decide) (fun h1 => ?_) (fun h1 => ?_)
      · have h1 := zout h1 hz1
        exact J185  _ _ _ _  hZ (lv_sub hl [0] rfl) h1
      refine lv_aload_n hx hb dX6_keepAct_134 rfl (lv_at hl 0 rfl) ?_
      refine z_getr C0 hZ hk0 fRX6_40 rfl dX6_keepAct_135 ?_
      refine lv_iload_n hx hb dX6_keepAct_138 rfl (lv_at hl 1 rfl) ?_
      refine lv_bipush (v := 6) hx hb dX6_keepAct_139 (by decide) ?_
      refine lv_iadd hx hb dX6_keepAct_141 ?_
      refine lv_iload_n hx hb dX6_keepAct_142 rfl (lv_at hl 2 rfl) ?_
      refine lv_iadd hx hb dX6_keepAct_143 ?_
      refine lv_aload_n hx hb dX6_keepAct_144 rfl (lv_at hl 0 rfl) ?_
      refine z_getr C0 hZ hk0 fRX6_30 rfl dX6_keepAct_145 ?_
      refine lv_iload_n hx hb dX6_keepAct_148 rfl (lv_at hl 2 rfl) ?_
      refine z_cSi (As := [.ref (zad V (k0 + 1)), .int x2]) (rest := [.int ((x1 + 6) + x2), .ref (zad V (k0 + 3))]) C0 hZ h1 (fun _ hf => kX7_at l (zkt6_6 hk0) hf) mRX6_89 sX7_at rfl rfl hl.1 (Nat.le_of_ble_eq_true rfl) ⟨Nat.le_of_ble_eq_true rfl, Nat.le_of_ble_eq_true rfl⟩ dX6_keepAct_149 ⟨Nat.le_of_ble_eq_true rfl, Nat.le_of_ble_eq_true rfl⟩ (fun r_3 σ_2 H locs h1 hZ => ?_)
      refine z_cSv (As := [.ref (zad V (k0 + 3)), .int ((x1 + 6) + x2), .int r_3]) (rest := []) C0 hZ h1 (fun _ hf => kX7_put l (zkt6_9 hk0) hf) mRX6_93 sX7_put rfl rfl hl.1 (Nat.le_of_ble_eq_true rfl) ⟨Nat.le_of_ble_eq_true rfl, Nat.le_of_ble_eq_true rfl⟩ dX6_keepAct_152 ⟨Nat.le_of_ble_eq_true rfl, Nat.le_of_ble_eq_true rfl⟩ (fun _ σ_4 H locs h1 hZ => ?_)
      refine lv_aload_n hx hb dX6_keepAct_155 rfl (lv_at hl 0 rfl) ?_
      refine z_getr C0 hZ hk0 fRX6_40 rfl dX6_keepAct_156 ?_
      refine lv_iload_n hx hb dX6_keepAct_159 rfl (lv_at hl 1 rfl) ?_
      refine lv_bipush (v := 6) hx hb dX6_keepAct_160 (by decide) ?_
      refine lv_iadd hx hb dX6_keepAct_162 ?_
      refine lv_bipush (v := 10) hx hb dX6_keepAct_163 (by decide) ?_
      refine lv_iadd hx hb dX6_keepAct_165 ?_
      refine lv_iload_n hx hb dX6_keepAct_166 rfl (lv_at hl 2 rfl) ?_
      refine lv_iadd hx hb dX6_keepAct_167 ?_
      refine lv_aload_n hx hb dX6_keepAct_168 rfl (lv_at hl 0 rfl) ?_
      refine z_getr C0 hZ hk0 fRX6_34 rfl dX6_keepAct_169 ?_
      refine lv_iload_n hx hb dX6_keepAct_172 rfl (lv_at hl 2 rfl) ?_
      refine z_cSi (As := [.ref (zad V (k0 + 2)), .int x2]) (rest := [.int (((x1 + 6) + 10) + x2), .ref (zad V (k0 + 3))]) C0 hZ h1 (fun _ hf => kX7_at l (zkt6_7 hk0) hf) mRX6_89 sX7_at rfl rfl hl.1 (Nat.le_of_ble_eq_true rfl) ⟨Nat.le_of_ble_eq_true rfl, Nat.le_of_ble_eq_true rfl⟩ dX6_keepAct_173 ⟨Nat.le_of_ble_eq_true rfl, Nat.le_of_ble_eq_true rfl⟩ (fun r_7 σ_6 H locs h1 hZ => ?_)
      refine z_cSv (As := [.ref (zad V (k0 + 3)), .int (((x1 + 6) + 10) + x2), .int r_7]) (rest := []) C0 hZ h1 (fun _ hf => kX7_put l (zkt6_9 hk0) hf) mRX6_93 sX7_put rfl rfl hl.1 (Nat.le_of_ble_eq_true rfl) ⟨Nat.le_of_ble_eq_true rfl, Nat.le_of_ble_eq_true rfl⟩ dX6_keepAct_176 ⟨Nat.le_of_ble_eq_true rfl, Nat.le_of_ble_eq_true rfl⟩ (fun _ σ_8 H locs h1 hZ => ?_)
      refine z_iinc (v := 1) C0 h1 hl (fun x2_10 => [(2, .int x2_10), (0, .ref (zad V k0)), (1, .int x1)]) dX6_keepAct_179 (k := 2) rfl (by decide) (by decide) (fun _ => rfl) (fun x2_10 ls h1 hl => ?_)
      refine lv_goto (tgt := 128) hx hb dX6_keepAct_182 (by decide) ?_
      exact ih128 x1 x2_10 _ _ _ _  hZ (lv_sub hl [1, 2, 0] rfl) (zback h1 hz1)
  have J36 : ∀  (σ : zS) (H : Heap) (locs : List Loc) (ls : Array Slot), zZ 0 V A σ s H locs → lv_has ls 3 [(0, .ref (zad V k0))] → FX6_keepAct_b36 k0 σ = some t0 → W p l e (zrm 1 60) s m args below meth c H locs 0 0 Q (F0 m 36 ls []) := by
    intro  σ H locs ls  hZ hl h1
    unfold FX6_keepAct_b36 at h1
    refine lv_aload_n hx hb dX6_keepAct_36 rfl (lv_at hl 0 rfl) ?_
    refine z_geti C0 hZ hk0 fRX6_37 rfl dX6_keepAct_37 ?_
    refine lv_bipush (v := 26) hx hb dX6_keepAct_40 (by decide) ?_
    refine lv_imul hx hb dX6_keepAct_42 ?_
    refine z_istore_n C0 h1 hl (fun x1_11 => [(1, .int x1_11), (0, .ref (zad V k0))]) dX6_keepAct_43 rfl (by decide) (fun _ => rfl) (fun x1_11 ls h1 hl => ?_)
    refine lv_aload_n hx hb dX6_keepAct_44 rfl (lv_at hl 1 rfl) ?_
    refine z_getr C0 hZ hk0 fRX6_40 rfl dX6_keepAct_45 ?_
    refine lv_iload_n hx hb dX6_keepAct_48 rfl (lv_at hl 0 rfl) ?_
    refine lv_aload_n hx hb dX6_keepAct_49 rfl (lv_at hl 1 rfl) ?_
    refine z_geti C0 hZ hk0 fRX6_9 rfl dX6_keepAct_50 ?_
    refine z_cSv (As := [.ref (zad V (k0 + 3)), .int x1_11, .int (σ k0 0)]) (rest := []) C0 hZ h1 (fun _ hf => kX7_put l (zkt6_9 hk0) hf) mRX6_93 sX7_put rfl rfl hl.1 (Nat.le_of_ble_eq_true rfl) ⟨Nat.le_of_ble_eq_true rfl, Nat.le_of_ble_eq_true rfl⟩ dX6_keepAct_53 ⟨Nat.le_of_ble_eq_true rfl, Nat.le_of_ble_eq_true rfl⟩ (fun _ σ_12 H locs h1 hZ => ?_)
    refine lv_aload_n hx hb dX6_keepAct_56 rfl (lv_at hl 1 rfl) ?_
    refine z_getr C0 hZ hk0 fRX6_40 rfl dX6_keepAct_57 ?_
    refine lv_iload_n hx hb dX6_keepAct_60 rfl (lv_at hl 0 rfl) ?_
    refine lv_iconst (v := 1) hx hb dX6_keepAct_61 (by decide) ?_
    refine lv_iadd hx hb dX6_keepAct_62 ?_
    refine lv_aload_n hx hb dX6_keepAct_63 rfl (lv_at hl 1 rfl) ?_
    refine z_geti C0 hZ hk0 fRX6_15 rfl dX6_keepAct_64 ?_
    refine z_cSv (As := [.ref (zad V (k0 + 3)), .int (x1_11 + 1), .int (σ_12 k0 1)]) (rest := []) C0 hZ h1 (fun _ hf => kX7_put l (zkt6_9 hk0) hf) mRX6_93 sX7_put rfl rfl hl.1 (Nat.le_of_ble_eq_true rfl) ⟨Nat.le_of_ble_eq_true rfl, Nat.le_of_ble_eq_true rfl⟩ dX6_keepAct_67 ⟨Nat.le_of_ble_eq_true rfl, Nat.le_of_ble_eq_true rfl⟩ (fun _ σ_14 H locs h1 hZ => ?_)
    refine lv_aload_n hx hb dX6_keepAct_70 rfl (lv_at hl 1 rfl) ?_
    refine z_getr C0 hZ hk0 fRX6_40 rfl dX6_keepAct_71 ?_
    refine lv_iload_n hx hb dX6_keepAct_74 rfl (lv_at hl 0 rfl) ?_
    refine lv_iconst (v := 2) hx hb dX6_keepAct_75 (by decide) ?_
    refine lv_iadd hx hb dX6_keepAct_76 ?_
    refine lv_aload_n hx hb dX6_keepAct_77 rfl (lv_at hl 1 rfl) ?_
    refine z_geti C0 hZ hk0 fRX6_18 rfl dX6_keepAct_78 ?_
    refine z_cSv (As := [.ref (zad V (k0 + 3)), .int (x1_11 + 2), .int (σ_14 k0 2)]) (rest := []) C0 hZ h1 (fun _ hf => kX7_put l (zkt6_9 hk0) hf) mRX6_93 sX7_put rfl rfl hl.1 (Nat.le_of_ble_eq_true rfl) ⟨Nat.le_of_ble_eq_true rfl, Nat.le_of_ble_eq_true rfl⟩ dX6_keepAct_81 ⟨Nat.le_of_ble_eq_true rfl, Nat.le_of_ble_eq_true rfl⟩ (fun _ σ_16 H locs h1 hZ => ?_)
    refine lv_aload_n hx hb dX6_keepAct_84 rfl (lv_at hl 1 rfl) ?_
    refine z_getr C0 hZ hk0 fRX6_40 rfl dX6_keepAct_85 ?_
    refine lv_iload_n hx hb dX6_keepAct_88 rfl (lv_at hl 0 rfl) ?_
    refine lv_iconst (v := 3) hx hb dX6_keepAct_89 (by decide) ?_
    refine lv_iadd hx hb dX6_keepAct_90 ?_
    refine lv_aload_n hx hb dX6_keepAct_91 rfl (lv_at hl 1 rfl) ?_
    refine z_geti C0 hZ hk0 fRX6_21 rfl dX6_keepAct_92 ?_
    refine z_cSv (As := [.ref (zad V (k0 + 3)), .int (x1_11 + 3), .int (σ_16 k0 3)]) (rest := []) C0 hZ h1 (fun _ hf => kX7_put l (zkt6_9 hk0) hf) mRX6_93 sX7_put rfl rfl hl.1 (Nat.le_of_ble_eq_true rfl) ⟨Nat.le_of_ble_eq_true rfl, Nat.le_of_ble_eq_true rfl⟩ dX6_keepAct_95 ⟨Nat.le_of_ble_eq_true rfl, Nat.le_of_ble_eq_true rfl⟩ (fun _ σ_18 H locs h1 hZ => ?_)
    refine lv_aload_n hx hb dX6_keepAct_98 rfl (lv_at hl 1 rfl) ?_
    refine z_getr C0 hZ hk0 fRX6_40 rfl dX6_keepAct_99 ?_
    refine lv_iload_n hx hb dX6_keepAct_102 rfl (lv_at hl 0 rfl) ?_
    refine lv_iconst (v := 4) hx hb dX6_keepAct_103 (by decide) ?_
    refine lv_iadd hx hb dX6_keepAct_104 ?_
    refine lv_aload_n hx hb dX6_keepAct_105 rfl (lv_at hl 1 rfl) ?_
    refine z_geti C0 hZ hk0 fRX6_24 rfl dX6_keepAct_106 ?_
    refine z_cSv (As := [.ref (zad V (k0 + 3)), .int (x1_11 + 4), .int (σ_18 k0 4)]) (rest := []) C0 hZ h1 (fun _ hf => kX7_put l (zkt6_9 hk0) hf) mRX6_93 sX7_put rfl rfl hl.1 (Nat.le_of_ble_eq_true rfl) ⟨Nat.le_of_ble_eq_true rfl, Nat.le_of_ble_eq_true rfl⟩ dX6_keepAct_109 ⟨Nat.le_of_ble_eq_true rfl, Nat.le_of_ble_eq_true rfl⟩ (fun _ σ_20 H locs h1 hZ => ?_)
    refine lv_aload_n hx hb dX6_keepAct_112 rfl (lv_at hl 1 rfl) ?_
    refine z_getr C0 hZ hk0 fRX6_40 rfl dX6_keepAct_113 ?_
    refine lv_iload_n hx hb dX6_keepAct_116 rfl (lv_at hl 0 rfl) ?_
    refine lv_iconst (v := 5) hx hb dX6_keepAct_117 (by decide) ?_
    refine lv_iadd hx hb dX6_keepAct_118 ?_
    refine lv_aload_n hx hb dX6_keepAct_119 rfl (lv_at hl 1 rfl) ?_
    refine z_geti C0 hZ hk0 fRX6_27 rfl dX6_keepAct_120 ?_
    refine z_cSv (As := [.ref (zad V (k0 + 3)), .int (x1_11 + 5), .int (σ_20 k0 5)]) (rest := []) C0 hZ h1 (fun _ hf => kX7_put l (zkt6_9 hk0) hf) mRX6_93 sX7_put rfl rfl hl.1 (Nat.le_of_ble_eq_true rfl) ⟨Nat.le_of_ble_eq_true rfl, Nat.le_of_ble_eq_true rfl⟩ dX6_keepAct_123 ⟨Nat.le_of_ble_eq_true rfl, Nat.le_of_ble_eq_true rfl⟩ (fun _ σ_22 H locs h1 hZ => ?_)
    refine lv_iconst (v := 0) hx hb dX6_keepAct_126 (by decide) ?_
    refine z_istore_n C0 h1 hl (fun x2_24 => [(2, .int x2_24), (1, .int x1_11), (0, .ref (zad V k0))]) dX6_keepAct_127 rfl (by decide) (fun _ => rfl) (fun x2_24 ls h1 hl => ?_)
    obtain ⟨n, h1⟩ := zlp_iff.mp h1
    exact J128 n x1_11 x2_24 _ _ _ _  hZ (lv_sub hl [2, 1, 0] rfl) h1
  refine lv_aload_n hx hb dX6_keepAct_0 rfl (lv_at hl 0 rfl) ?_
  refine z_geti C0 hZ hk0 fRX6_37 rfl dX6_keepAct_1 ?_
  refine lv_bipush (v := 40) hx hb dX6_keepAct_4 (by decide) ?_
  refine z_ic_ne (tgt := 36) C0 h1 dX6_keepAct_6 (by decide) (fun h1 => ?_) (fun h1 => ?_)
  · exact J36  _ _ _ _  hZ (lv_sub hl [0] rfl) h1
  refine lv_aload_n hx hb dX6_keepAct_9 rfl (lv_at hl 0 rfl) ?_
  refine z_getr C0 hZ hk0 fRX6_40 rfl dX6_keepAct_10 ?_
  refine lv_bipush (v := 26) hx hb dX6_keepAct_13 (by decide) ?_
  refine lv_aload_n hx hb dX6_keepAct_15 rfl (lv_at hl 0 rfl) ?_
  refine z_getr C0 hZ hk0 fRX6_40 rfl dX6_keepAct_16 ?_
  refine lv_iconst (v := 0) hx hb dX6_keepAct_19 (by decide) ?_
  refine lv_sipush (v := 1014) hx hb dX6_keepAct_20 (by decide) ?_
  refine z_copy C0 hl.1 hZ h1 cpRX6_97 (zkt6_9 hk0) (zkt6_9 hk0) ⟨Nat.le_of_ble_eq_true rfl, Nat.le_of_ble_eq_true rfl⟩ dX6_keepAct_23 (fun σ_25 H locs h1 hZ => ?_)
  refine lv_aload_n hx hb dX6_keepAct_26 rfl (lv_at hl 0 rfl) ?_
  refine lv_dup hx hb dX6_keepAct_27 rfl ?_
  refine z_geti C0 hZ hk0 fRX6_37 rfl dX6_keepAct_28 ?_
  refine lv_iconst (v := 1) hx hb dX6_keepAct_31 (by decide) ?_
  refine lv_isub hx hb dX6_keepAct_32 ?_
  refine z_puti C0 hZ h1 hk0 fRX6_37 rfl tyX6_ok nmX6 rfl rfl rfl dX6_keepAct_33 (fun σ_26 H locs h1 hZ => ?_)
  exact J36  _ _ _ _  hZ (lv_sub hl [0] rfl) h1
