noncomputable def FGY : Nat → zGr
  | 0 => fun _ _ _ _ _ => none
  | n + 1 => fun i k a b σ => match i with
    | 0 => FX8_readExpression (FGY n) k a σ
    | 1 => FX8_readAnd (FGY n) k a σ
    | 2 => FX8_readNot (FGY n) k a σ
    | 3 => FX8_readSum (FGY n) k a σ
    | 4 => FX8_readProduct (FGY n) k a σ
    | 5 => FX8_readPart (FGY n) k a σ
    | _ => none
theorem kGY (l : Launch) : ∀ n, zPGY l n (FGY n) := by
  intro n
  induction n with
  | zero => unfold zPGY; exact ⟨fun _ h => (by cases h), fun _ h => (by cases h), fun _ h => (by cases h), fun _ h => (by cases h), fun _ h => (by cases h), fun _ h => (by cases h)⟩
  | succ n ih => unfold zPGY; exact ⟨fun hk h => kX8_readExpression l ih hk h, fun hk h => kX8_readAnd l ih hk h, fun hk h => kX8_readNot l ih hk h, fun hk h => kX8_readSum l ih hk h, fun hk h => kX8_readProduct l ih hk h, fun hk h => kX8_readPart l ih hk h⟩
noncomputable def FX8_another_b18 (k0 : Nat) (σ : zS) : Option (Int32 × zS) := if (σ k0 25) = 0 then zbd (FX8_stepOn k0 σ) (fun _ σ_1 => zgd (1 == 0 || 1 == 1) (some (1, σ_1))) else zgd (0 == 0 || 0 == 1) (some (0, σ))
noncomputable def FX8_another (k0 : Nat) (x1 : Int32) (x2 : Int32) (σ : zS) : Option (Int32 × zS) := zin (ln 1 (k0 + 3)) (9 + x1) (if (σ (k0 + 3) (Int32.toNatClampNeg (9 + x1))) = x2 then zbd (FX8_wrong k0 2 σ) (fun _ σ_3 => FX8_another_b18 k0 σ_3) else FX8_another_b18 k0 σ)
set_option maxHeartbeats 4000000 in
set_option maxRecDepth 100000 in
theorem kX8_another (l : Launch) {V : zV} {σ : zS} {t0 : Int32 × zS} {k0 : Nat} {x1 : Int32} {x2 : Int32} (hk0 : kd 1 k0 = 8) (h1 : FX8_another k0 x1 x2 σ = some t0) : zMi l yX8_another cX8_another 3 (some .boolean) 2 61 1 V σ t0 [.ref (zad V k0), .int x1, .int x2] := by
  refine zMi_of (by decide) (Nat.le_of_ble_eq_true rfl) ?_
  intro p e s m below meth c A C0 hr hlk hZ ls hl
  generalize ([.ref (zad V k0), .int x1, .int x2] : List Value).toArray = args at C0 ⊢
  obtain ⟨Q, hQ⟩ : ∃ Q, Q = MQ below (zQi 1 V t0 A) args s 0 0 A := ⟨_, rfl⟩
  rw [← hQ]
  have hx := C0.1
  have hb := C0.2.1
  have hl : lv_has ls 3 [(0, .ref (zad V k0)), (1, .int x1), (2, .int x2)] := hl
  unfold FX8_another at h1
  have J18 : ∀  (σ : zS) (H : Heap) (locs : List Loc) (ls : Array Slot), zZ 1 V A σ s H locs → lv_has ls 3 [(0, .ref (zad V k0))] → FX8_another_b18 k0 σ = some t0 → W p l e (zrm 2 61) s m args below meth c H locs 0 0 Q (F0 m 18 ls []) := by
    intro  σ H locs ls  hZ hl h1
    unfold FX8_another_b18 at h1
    refine lv_aload_n hx hb dX8_another_18 rfl (lv_at hl 0 rfl) ?_
    refine z_geti C0 hZ hk0 fRX8_210 rfl dX8_another_19 ?_
    refine z_if_eq (tgt := 27) C0 h1 dX8_another_22 (by decide) (fun h1 => ?_) (fun h1 => ?_)
    · refine lv_aload_n hx hb dX8_another_27 rfl (lv_at hl 0 rfl) ?_
      refine z_cVv (As := []) (rest := []) C0 hZ h1 (fun _ hf => kX8_stepOn l hk0 hf) mRX8_235 vX8_stepOn hk0 rfl rfl hl.1 (Nat.le_of_ble_eq_true rfl) ⟨Nat.le_of_ble_eq_true rfl, Nat.le_of_ble_eq_true rfl⟩ dX8_another_28 ⟨Nat.le_of_ble_eq_true rfl, Nat.le_of_ble_eq_true rfl⟩ (fun _ σ_1 H locs h1 hZ => ?_)
      refine lv_iconst (v := 1) hx hb dX8_another_31 (by decide) ?_
      rw [hQ]; exact z_zret C0 hr hlk hZ h1 dX8_another_32
    refine lv_iconst (v := 0) hx hb dX8_another_25 (by decide) ?_
    rw [hQ]; exact z_zret C0 hr hlk hZ h1 dX8_another_26
  refine lv_aload_n hx hb dX8_another_0 rfl (lv_at hl 0 rfl) ?_
  refine z_getr C0 hZ hk0 fRX8_40 rfl dX8_another_1 ?_
  refine lv_bipush (v := 9) hx hb dX8_another_4 (by decide) ?_
  refine lv_iload_n hx hb dX8_another_6 rfl (lv_at hl 1 rfl) ?_
  refine lv_iadd hx hb dX8_another_7 ?_
  refine z_iald C0 hZ h1 (zkt8_3 hk0) dX8_another_8 (fun h1 => ?_)
  refine lv_iload_n hx hb dX8_another_9 rfl (lv_at hl 2 rfl) ?_
  refine z_ic_ne (tgt := 18) C0 h1 dX8_another_10 (by decide) (fun h1 => ?_) (fun h1 => ?_)
  · exact J18  _ _ _ _  hZ (lv_sub hl [0] rfl) h1
  refine lv_aload_n hx hb dX8_another_13 rfl (lv_at hl 0 rfl) ?_
  refine lv_iconst (v := 2) hx hb dX8_another_14 (by decide) ?_
  refine z_cVv (As := [.int 2]) (rest := []) C0 hZ h1 (fun _ hf => kX8_wrong l hk0 hf) mRX8_231 vX8_wrong hk0 rfl rfl hl.1 (Nat.le_of_ble_eq_true rfl) ⟨Nat.le_of_ble_eq_true rfl, Nat.le_of_ble_eq_true rfl⟩ dX8_another_15 ⟨Nat.le_of_ble_eq_true rfl, Nat.le_of_ble_eq_true rfl⟩ (fun _ σ_3 H locs h1 hZ => ?_)
  exact J18  _ _ _ _  hZ (lv_sub hl [0] rfl) h1
noncomputable def FX8_readAisle (k0 : Nat) (σ : zS) : Option (Int32 × zS) := zbd (FX8_another k0 0 10 σ) (fun r_2 σ_1 => if r_2 = 0 then some (0, σ_1) else zin (ln 1 (k0 + 3)) 9 (zlet (10 + (σ_1 (k0 + 3) (Int32.toNatClampNeg 9))) (fun x1_3 => zbd (FX8_readNumber k0 0 999 σ_1) (fun r_5 σ_4 => zin (ln 1 (k0 + 4)) x1_3 (zlet (zup σ_4 (k0 + 4) (Int32.toNatClampNeg x1_3) r_5) (fun σ_6 => zbd (FX8_readNumber k0 0 99 σ_6) (fun r_8 σ_7 => zin (ln 1 (k0 + 5)) x1_3 (zlet (zup σ_7 (k0 + 5) (Int32.toNatClampNeg x1_3) r_8) (fun σ_9 => zin (ln 1 (k0 + 6)) x1_3 (zlet (zup σ_9 (k0 + 6) (Int32.toNatClampNeg x1_3) 0) (fun σ_10 => zin (ln 1 (k0 + 7)) x1_3 (zlet (zup σ_10 (k0 + 7) (Int32.toNatClampNeg x1_3) 0) (fun σ_11 => zin (ln 1 (k0 + 3)) 9 (zin (ln 1 (k0 + 3)) 9 (zlet (zup σ_11 (k0 + 3) (Int32.toNatClampNeg 9) ((σ_11 (k0 + 3) (Int32.toNatClampNeg 9)) + 1)) (fun σ_12 => some (0, σ_12)))))))))))))))))
set_option maxHeartbeats 4000000 in
set_option maxRecDepth 100000 in
theorem kX8_readAisle (l : Launch) {V : zV} {σ : zS} {t0 : Int32 × zS} {k0 : Nat} (hk0 : kd 1 k0 = 8) (h1 : FX8_readAisle k0 σ = some t0) : zMv l yX8_readAisle cX8_readAisle 2 3 84 1 V σ t0 [.ref (zad V k0)] := by
  refine zMv_of (by decide) (Nat.le_of_ble_eq_true rfl) ?_
  intro p e s m below meth c A C0 hr hlk hZ ls hl
  generalize ([.ref (zad V k0)] : List Value).toArray = args at C0 ⊢
  obtain ⟨Q, hQ⟩ : ∃ Q, Q = MQ below (zQv 1 V t0 A) args s 0 0 A := ⟨_, rfl⟩
  rw [← hQ]
  have hx := C0.1
  have hb := C0.2.1
  have hl : lv_has ls 2 [(0, .ref (zad V k0))] := hl
  unfold FX8_readAisle at h1
  refine lv_aload_n hx hb dX8_readAisle_0 rfl (lv_at hl 0 rfl) ?_
  refine lv_iconst (v := 0) hx hb dX8_readAisle_1 (by decide) ?_
  refine lv_bipush (v := 10) hx hb dX8_readAisle_2 (by decide) ?_
  refine z_cVi (As := [.int 0, .int 10]) (rest := []) C0 hZ h1 (fun _ hf => kX8_another l hk0 hf) mRX8_278 vX8_another hk0 rfl rfl hl.1 (Nat.le_of_ble_eq_true rfl) ⟨Nat.le_of_ble_eq_true rfl, Nat.le_of_ble_eq_true rfl⟩ dX8_readAisle_4 ⟨Nat.le_of_ble_eq_true rfl, Nat.le_of_ble_eq_true rfl⟩ (fun r_2 σ_1 H locs h1 hZ => ?_)
  refine z_if_ne (tgt := 11) C0 h1 dX8_readAisle_7 (by decide) (fun h1 => ?_) (fun h1 => ?_)
  · refine lv_bipush (v := 10) hx hb dX8_readAisle_11 (by decide) ?_
    refine lv_aload_n hx hb dX8_readAisle_13 rfl (lv_at hl 0 rfl) ?_
    refine z_getr C0 hZ hk0 fRX8_40 rfl dX8_readAisle_14 ?_
    refine lv_bipush (v := 9) hx hb dX8_readAisle_17 (by decide) ?_
    refine z_iald C0 hZ h1 (zkt8_3 hk0) dX8_readAisle_19 (fun h1 => ?_)
    refine lv_iadd hx hb dX8_readAisle_20 ?_
    refine z_istore_n C0 h1 hl (fun x1_3 => [(1, .int x1_3), (0, .ref (zad V k0))]) dX8_readAisle_21 rfl (by decide) (fun _ => rfl) (fun x1_3 ls h1 hl => ?_)
    refine lv_aload_n hx hb dX8_readAisle_22 rfl (lv_at hl 1 rfl) ?_
    refine z_getr C0 hZ hk0 fRX8_44 rfl dX8_readAisle_23 ?_
    refine lv_iload_n hx hb dX8_readAisle_26 rfl (lv_at hl 0 rfl) ?_
    refine lv_aload_n hx hb dX8_readAisle_27 rfl (lv_at hl 1 rfl) ?_
    refine lv_iconst (v := 0) hx hb dX8_readAisle_28 (by decide) ?_
    refine lv_sipush (v := 999) hx hb dX8_readAisle_29 (by decide) ?_
    refine z_cVi (As := [.int 0, .int 999]) (rest := [.int x1_3, .ref (zad V (k0 + 4))]) C0 hZ h1 (fun _ hf => kX8_readNumber l hk0 hf) mRX8_241 vX8_readNumber hk0 rfl rfl hl.1 (Nat.le_of_ble_eq_true rfl) ⟨Nat.le_of_ble_eq_true rfl, Nat.le_of_ble_eq_true rfl⟩ dX8_readAisle_32 ⟨Nat.le_of_ble_eq_true rfl, Nat.le_of_ble_eq_true rfl⟩ (fun r_5 σ_4 H locs h1 hZ => ?_)
    refine z_iast C0 hZ h1 (zkt8_4 hk0) dX8_readAisle_35 (fun σ_6 H locs h1 hZ => ?_)
    refine lv_aload_n hx hb dX8_readAisle_36 rfl (lv_at hl 1 rfl) ?_
    refine z_getr C0 hZ hk0 fRX8_46 rfl dX8_readAisle_37 ?_
    refine lv_iload_n hx hb dX8_readAisle_40 rfl (lv_at hl 0 rfl) ?_
    refine lv_aload_n hx hb dX8_readAisle_41 rfl (lv_at hl 1 rfl) ?_
    refine lv_iconst (v := 0) hx hb dX8_readAisle_42 (by decide) ?_
    refine lv_bipush (v := 99) hx hb dX8_readAisle_43 (by decide) ?_
    refine z_cVi (As := [.int 0, .int 99]) (rest := [.int x1_3, .ref (zad V (k0 + 5))]) C0 hZ h1 (fun _ hf => kX8_readNumber l hk0 hf) mRX8_241 vX8_readNumber hk0 rfl rfl hl.1 (Nat.le_of_ble_eq_true rfl) ⟨Nat.le_of_ble_eq_true rfl, Nat.le_of_ble_eq_true rfl⟩ dX8_readAisle_45 ⟨Nat.le_of_ble_eq_true rfl, Nat.le_of_ble_eq_true rfl⟩ (fun r_8 σ_7 H locs h1 hZ => ?_)
    refine z_iast C0 hZ h1 (zkt8_5 hk0) dX8_readAisle_48 (fun σ_9 H locs h1 hZ => ?_)
    refine lv_aload_n hx hb dX8_readAisle_49 rfl (lv_at hl 1 rfl) ?_
    refine z_getr C0 hZ hk0 fRX8_49 rfl dX8_readAisle_50 ?_
    refine lv_iload_n hx hb dX8_readAisle_53 rfl (lv_at hl 0 rfl) ?_
    refine lv_iconst (v := 0) hx hb dX8_readAisle_54 (by decide) ?_
    refine z_iast C0 hZ h1 (zkt8_6 hk0) dX8_readAisle_55 (fun σ_10 H locs h1 hZ => ?_)
    refine lv_aload_n hx hb dX8_readAisle_56 rfl (lv_at hl 1 rfl) ?_
    refine z_getr C0 hZ hk0 fRX8_52 rfl dX8_readAisle_57 ?_
    refine lv_iload_n hx hb dX8_readAisle_60 rfl (lv_at hl 0 rfl) ?_
    refine lv_iconst (v := 0) hx hb dX8_readAisle_61 (by decide) ?_
    refine z_iast C0 hZ h1 (zkt8_7 hk0) dX8_readAisle_62 (fun σ_11 H locs h1 hZ => ?_)
    refine lv_aload_n hx hb dX8_readAisle_63 rfl (lv_at hl 1 rfl) ?_
    refine z_getr C0 hZ hk0 fRX8_40 rfl dX8_readAisle_64 ?_
    refine lv_bipush (v := 9) hx hb dX8_readAisle_67 (by decide) ?_
    refine lv_dup2_11 hx hb dX8_readAisle_69 rfl rfl ?_
    refine z_iald C0 hZ h1 (zkt8_3 hk0) dX8_readAisle_70 (fun h1 => ?_)
    refine lv_iconst (v := 1) hx hb dX8_readAisle_71 (by decide) ?_
    refine lv_iadd hx hb dX8_readAisle_72 ?_
    refine z_iast C0 hZ h1 (zkt8_3 hk0) dX8_readAisle_73 (fun σ_12 H locs h1 hZ => ?_)
    rw [hQ]; exact z_vret C0 hr hlk hZ h1 dX8_readAisle_74
  rw [hQ]; exact z_vret C0 hr hlk hZ h1 dX8_readAisle_10
noncomputable def FX8_readTwo_b162 (k0 : Nat) (x1 : Int32) (σ : zS) : Option (Int32 × zS) := zin (ln 1 (k0 + 3)) (9 + x1) (zin (ln 1 (k0 + 3)) (9 + x1) (zlet (zup σ (k0 + 3) (Int32.toNatClampNeg (9 + x1)) ((σ (k0 + 3) (Int32.toNatClampNeg (9 + x1))) + 1)) (fun σ_1 => some (0, σ_1))))
noncomputable def FX8_readTwo_b97 (k0 : Nat) (x1 : Int32) (x2 : Int32) (x3 : Int32) (σ : zS) : Option (Int32 × zS) := if (σ k0 25) = 0 then zbd (FX8_stepOn k0 σ) (fun _ σ_2 => if x1 = 1 then zin (ln 1 (k0 + 6)) (10 + x2) (zin (ln 1 (k0 + 6)) (10 + x2) (zlet (zup σ_2 (k0 + 6) (Int32.toNatClampNeg (10 + x2)) ((σ_2 (k0 + 6) (Int32.toNatClampNeg (10 + x2))) ||| ((1 : Int32) <<< (x3 &&& 31)))) (fun σ_5 => zin (ln 1 (k0 + 6)) (10 + x3) (zin (ln 1 (k0 + 6)) (10 + x3) (zlet (zup σ_5 (k0 + 6) (Int32.toNatClampNeg (10 + x3)) ((σ_5 (k0 + 6) (Int32.toNatClampNeg (10 + x3))) ||| ((1 : Int32) <<< (x2 &&& 31)))) (fun σ_6 => FX8_readTwo_b162 k0 x1 σ_6)))))) else zin (ln 1 (k0 + 7)) (10 + x2) (zin (ln 1 (k0 + 7)) (10 + x2) (zlet (zup σ_2 (k0 + 7) (Int32.toNatClampNeg (10 + x2)) ((σ_2 (k0 + 7) (Int32.toNatClampNeg (10 + x2))) ||| ((1 : Int32) <<< (x3 &&& 31)))) (fun σ_4 => FX8_readTwo_b162 k0 x1 σ_4)))) else some (0, σ)
noncomputable def FX8_readTwo_b92 (k0 : Nat) (x1 : Int32) (x2 : Int32) (x3 : Int32) (σ : zS) : Option (Int32 × zS) := zbd (FX8_wrong k0 4 σ) (fun _ σ_7 => FX8_readTwo_b97 k0 x1 x2 x3 σ_7)
noncomputable def FX8_readTwo_b68 (k0 : Nat) (x1 : Int32) (x2 : Int32) (x3 : Int32) (y0 : Int32) (σ : zS) : Option (Int32 × zS) := zlet y0 (fun x4_9 => if (σ k0 25) = 0 then if x2 = x3 then FX8_readTwo_b92 k0 x1 x2 x3 σ else if ((x4_9 >>> (x3 &&& 31)) &&& 1) = 1 then FX8_readTwo_b92 k0 x1 x2 x3 σ else FX8_readTwo_b97 k0 x1 x2 x3 σ else FX8_readTwo_b97 k0 x1 x2 x3 σ)
noncomputable def FX8_readTwo_b37 (k0 : Nat) (x1 : Int32) (x2 : Int32) (σ : zS) : Option (Int32 × zS) := zbd (FX8_aisleNow k0 σ) (fun r_11 σ_10 => zlet r_11 (fun x3_12 => if x1 = 1 then zin (ln 1 (k0 + 6)) (10 + x2) (FX8_readTwo_b68 k0 x1 x2 x3_12 (σ_10 (k0 + 6) (Int32.toNatClampNeg (10 + x2))) σ_10) else zin (ln 1 (k0 + 7)) (10 + x2) (FX8_readTwo_b68 k0 x1 x2 x3_12 (σ_10 (k0 + 7) (Int32.toNatClampNeg (10 + x2))) σ_10)))
noncomputable def FX8_readTwo_b14 (k0 : Nat) (x1 : Int32) (q0 : Nat) (y1 : Int32) (y2 : Int32) (σ : zS) : Option (Int32 × zS) := zbd (FX8_another q0 y1 y2 σ) (fun r_14 σ_13 => if r_14 = 0 then some (0, σ_13) else zbd (FX8_aisleNow k0 σ_13) (fun r_16 σ_15 => zlet r_16 (fun x2_17 => if (σ_15 k0 25) = 0 then zbd (FX8_stepOn k0 σ_15) (fun _ σ_18 => FX8_readTwo_b37 k0 x1 x2_17 σ_18) else FX8_readTwo_b37 k0 x1 x2_17 σ_15)))
noncomputable def FX8_readTwo (k0 : Nat) (x1 : Int32) (σ : zS) : Option (Int32 × zS) := if x1 = 1 then FX8_readTwo_b14 k0 x1 k0 x1 16 σ else FX8_readTwo_b14 k0 x1 k0 x1 6 σ
set_option maxHeartbeats 4000000 in
set_option maxRecDepth 100000 in
theorem kX8_readTwo (l : Launch) {V : zV} {σ : zS} {t0 : Int32 × zS} {k0 : Nat} {x1 : Int32} (hk0 : kd 1 k0 = 8) (h1 : FX8_readTwo k0 x1 σ = some t0) : zMv l yX8_readTwo cX8_readTwo 5 3 83 1 V σ t0 [.ref (zad V k0), .int x1] := by
  refine zMv_of (by decide) (Nat.le_of_ble_eq_true rfl) ?_
  intro p e s m below meth c A C0 hr hlk hZ ls hl
  generalize ([.ref (zad V k0), .int x1] : List Value).toArray = args at C0 ⊢
  obtain ⟨Q, hQ⟩ : ∃ Q, Q = MQ below (zQv 1 V t0 A) args s 0 0 A := ⟨_, rfl⟩
  rw [← hQ]
  have hx := C0.1
  have hb := C0.2.1
  have hl : lv_has ls 5 [(0, .ref (zad V k0)), (1, .int x1)] := hl
  unfold FX8_readTwo at h1
  have J162 : ∀  (σ : zS) (H : Heap) (locs : List Loc) (ls : Array Slot), zZ 1 V A σ s H locs → lv_has ls 5 [(0, .ref (zad V k0)), (1, .int x1)] → FX8_readTwo_b162 k0 x1 σ = some t0 → W p l e (zrm 3 83) s m args below meth c H locs 0 0 Q (F0 m 162 ls []) := by
    intro  σ H locs ls  hZ hl h1
    unfold FX8_readTwo_b162 at h1
    refine lv_aload_n hx hb dX8_readTwo_162 rfl (lv_at hl 0 rfl) ?_
    refine z_getr C0 hZ hk0 fRX8_40 rfl dX8_readTwo_163 ?_
    refine lv_bipush (v := 9) hx hb dX8_readTwo_166 (by decide) ?_
    refine lv_iload_n hx hb dX8_readTwo_168 rfl (lv_at hl 1 rfl) ?_
    refine lv_iadd hx hb dX8_readTwo_169 ?_
    refine lv_dup2_11 hx hb dX8_readTwo_170 rfl rfl ?_
    refine z_iald C0 hZ h1 (zkt8_3 hk0) dX8_readTwo_171 (fun h1 => ?_)
    refine lv_iconst (v := 1) hx hb dX8_readTwo_172 (by decide) ?_
    refine lv_iadd hx hb dX8_readTwo_173 ?_
    refine z_iast C0 hZ h1 (zkt8_3 hk0) dX8_readTwo_174 (fun σ_1 H locs h1 hZ => ?_)
    rw [hQ]; exact z_vret C0 hr hlk hZ h1 dX8_readTwo_175
  have J97 : ∀ (x2 : Int32) (x3 : Int32) (σ : zS) (H : Heap) (locs : List Loc) (ls : Array Slot), zZ 1 V A σ s H locs → lv_has ls 5 [(0, .ref (zad V k0)), (1, .int x1), (2, .int x2), (3, .int x3)] → FX8_readTwo_b97 k0 x1 x2 x3 σ = some t0 → W p l e (zrm 3 83) s m args below meth c H locs 0 0 Q (F0 m 97 ls []) := by
    intro x2 x3 σ H locs ls  hZ hl h1
    unfold FX8_readTwo_b97 at h1
    refine lv_aload_n hx hb dX8_readTwo_97 rfl (lv_at hl 0 rfl) ?_
    refine z_geti C0 hZ hk0 fRX8_210 rfl dX8_readTwo_98 ?_
    refine z_if_eq (tgt := 105) C0 h1 dX8_readTwo_101 (by decide) (fun h1 => ?_) (fun h1 => ?_)
    · refine lv_aload_n hx hb dX8_readTwo_105 rfl (lv_at hl 0 rfl) ?_
      refine z_cVv (As := []) (rest := []) C0 hZ h1 (fun _ hf => kX8_stepOn l hk0 hf) mRX8_235 vX8_stepOn hk0 rfl rfl hl.1 (Nat.le_of_ble_eq_true rfl) ⟨Nat.le_of_ble_eq_true rfl, Nat.le_of_ble_eq_true rfl⟩ dX8_readTwo_106 ⟨Nat.le_of_ble_eq_true rfl, Nat.le_of_ble_eq_true rfl⟩ (fun _ σ_2 H locs h1 hZ => ?_)
      refine lv_iload_n hx hb dX8_readTwo_109 rfl (lv_at hl 1 rfl) ?_
      refine lv_iconst (v := 1) hx hb dX8_readTwo_110 (by decide) ?_
      refine z_ic_ne (tgt := 147) C0 h1 dX8_readTwo_111 (by decide) (fun h1 => ?_) (fun h1 => ?_)
      · refine lv_aload_n hx hb dX8_readTwo_147 rfl (lv_at hl 0 rfl) ?_
        refine z_getr C0 hZ hk0 fRX8_52 rfl dX8_readTwo_148 ?_
        refine lv_bipush (v := 10) hx hb dX8_readTwo_151 (by decide) ?_
        refine lv_iload_n hx hb dX8_readTwo_153 rfl (lv_at hl 2 rfl) ?_
        refine lv_iadd hx hb dX8_readTwo_154 ?_
        refine lv_dup2_11 hx hb dX8_readTwo_155 rfl rfl ?_
        refine z_iald C0 hZ h1 (zkt8_7 hk0) dX8_readTwo_156 (fun h1 => ?_)
        refine lv_iconst (v := 1) hx hb dX8_readTwo_157 (by decide) ?_
        refine lv_iload_n hx hb dX8_readTwo_158 rfl (lv_at hl 3 rfl) ?_
        refine lv_ishl hx hb dX8_readTwo_159 ?_
        refine lv_ior hx hb dX8_readTwo_160 ?_
        refine z_iast C0 hZ h1 (zkt8_7 hk0) dX8_readTwo_161 (fun σ_4 H locs h1 hZ => ?_)
        exact J162  _ _ _ _  hZ (lv_sub hl [0, 1] rfl) h1
      refine lv_aload_n hx hb dX8_readTwo_114 rfl (lv_at hl 0 rfl) ?_
      refine z_getr C0 hZ hk0 fRX8_49 rfl dX8_readTwo_115 ?_
      refine lv_bipush (v := 10) hx hb dX8_readTwo_118 (by decide) ?_
      refine lv_iload_n hx hb dX8_readTwo_120 rfl (lv_at hl 2 rfl) ?_
      refine lv_iadd hx hb dX8_readTwo_121 ?_
      refine lv_dup2_11 hx hb dX8_readTwo_122 rfl rfl ?_
      refine z_iald C0 hZ h1 (zkt8_6 hk0) dX8_readTwo_123 (fun h1 => ?_)
      refine lv_iconst (v := 1) hx hb dX8_readTwo_124 (by decide) ?_
      refine lv_iload_n hx hb dX8_readTwo_125 rfl (lv_at hl 3 rfl) ?_
      refine lv_ishl hx hb dX8_readTwo_126 ?_
      refine lv_ior hx hb dX8_readTwo_127 ?_
      refine z_iast C0 hZ h1 (zkt8_6 hk0) dX8_readTwo_128 (fun σ_5 H locs h1 hZ => ?_)
      refine lv_aload_n hx hb dX8_readTwo_129 rfl (lv_at hl 0 rfl) ?_
      refine z_getr C0 hZ hk0 fRX8_49 rfl dX8_readTwo_130 ?_
      refine lv_bipush (v := 10) hx hb dX8_readTwo_133 (by decide) ?_
      refine lv_iload_n hx hb dX8_readTwo_135 rfl (lv_at hl 3 rfl) ?_
      refine lv_iadd hx hb dX8_readTwo_136 ?_
      refine lv_dup2_11 hx hb dX8_readTwo_137 rfl rfl ?_
      refine z_iald C0 hZ h1 (zkt8_6 hk0) dX8_readTwo_138 (fun h1 => ?_)
      refine lv_iconst (v := 1) hx hb dX8_readTwo_139 (by decide) ?_
      refine lv_iload_n hx hb dX8_readTwo_140 rfl (lv_at hl 2 rfl) ?_
      refine lv_ishl hx hb dX8_readTwo_141 ?_
      refine lv_ior hx hb dX8_readTwo_142 ?_
      refine z_iast C0 hZ h1 (zkt8_6 hk0) dX8_readTwo_143 (fun σ_6 H locs h1 hZ => ?_)
      refine lv_goto (tgt := 162) hx hb dX8_readTwo_144 (by decide) ?_
      exact J162  _ _ _ _  hZ (lv_sub hl [0, 1] rfl) h1
    rw [hQ]; exact z_vret C0 hr hlk hZ h1 dX8_readTwo_104
  have J92 : ∀ (x2 : Int32) (x3 : Int32) (σ : zS) (H : Heap) (locs : List Loc) (ls : Array Slot), zZ 1 V A σ s H locs → lv_has ls 5 [(0, .ref (zad V k0)), (1, .int x1), (2, .int x2), (3, .int x3)] → FX8_readTwo_b92 k0 x1 x2 x3 σ = some t0 → W p l e (zrm 3 83) s m args below meth c H locs 0 0 Q (F0 m 92 ls []) := by
    intro x2 x3 σ H locs ls  hZ hl h1
    unfold FX8_readTwo_b92 at h1
    refine lv_aload_n hx hb dX8_readTwo_92 rfl (lv_at hl 0 rfl) ?_
    refine lv_iconst (v := 4) hx hb dX8_readTwo_93 (by decide) ?_
    refine z_cVv (As := [.int 4]) (rest := []) C0 hZ h1 (fun _ hf => kX8_wrong l hk0 hf) mRX8_231 vX8_wrong hk0 rfl rfl hl.1 (Nat.le_of_ble_eq_true rfl) ⟨Nat.le_of_ble_eq_true rfl, Nat.le_of_ble_eq_true rfl⟩ dX8_readTwo_94 ⟨Nat.le_of_ble_eq_true rfl, Nat.le_of_ble_eq_true rfl⟩ (fun _ σ_7 H locs h1 hZ => ?_)
    exact J97 x2 x3 _ _ _ _  hZ (lv_sub hl [0, 1, 2, 3] rfl) h1
  have J68 : ∀ (x2 : Int32) (x3 : Int32) (y0 : Int32) (σ : zS) (H : Heap) (locs : List Loc) (ls : Array Slot), zZ 1 V A σ s H locs → lv_has ls 5 [(0, .ref (zad V k0)), (1, .int x1), (2, .int x2), (3, .int x3)] → FX8_readTwo_b68 k0 x1 x2 x3 y0 σ = some t0 → W p l e (zrm 3 83) s m args below meth c H locs 0 0 Q (F0 m 68 ls [.int y0]) := by
    intro x2 x3 y0 σ H locs ls  hZ hl h1
    unfold FX8_readTwo_b68 at h1
    refine z_istore C0 h1 hl (fun x4_9 => [(4, .int x4_9), (0, .ref (zad V k0)), (1, .int x1), (2, .int x2), (3, .int x3)]) dX8_readTwo_68 (by decide) (fun _ => rfl) (fun x4_9 ls h1 hl => ?_)
    refine lv_aload_n hx hb dX8_readTwo_70 rfl (lv_at hl 1 rfl) ?_
    refine z_geti C0 hZ hk0 fRX8_210 rfl dX8_readTwo_71 ?_
    refine z_if_ne (tgt := 97) C0 h1 dX8_readTwo_74 (by decide) (fun h1 => ?_) (fun h1 => ?_)
    · exact J97 x2 x3 _ _ _ _  hZ (lv_sub hl [1, 2, 3, 4] rfl) h1
    refine lv_iload_n hx hb dX8_readTwo_77 rfl (lv_at hl 3 rfl) ?_
    refine lv_iload_n hx hb dX8_readTwo_78 rfl (lv_at hl 4 rfl) ?_
    refine z_ic_eq (tgt := 92) C0 h1 dX8_readTwo_79 (by decide) (fun h1 => ?_) (fun h1 => ?_)
    · exact J92 x2 x3 _ _ _ _  hZ (lv_sub hl [1, 2, 3, 4] rfl) h1
    refine lv_iload hx hb dX8_readTwo_82 (lv_at hl 0 rfl) ?_
    refine lv_iload_n hx hb dX8_readTwo_84 rfl (lv_at hl 4 rfl) ?_
    refine lv_ishr hx hb dX8_readTwo_85 ?_
    refine lv_iconst (v := 1) hx hb dX8_readTwo_86 (by decide) ?_
    refine lv_iand hx hb dX8_readTwo_87 ?_
    refine lv_iconst (v := 1) hx hb dX8_readTwo_88 (by decide) ?_
    refine z_ic_ne (tgt := 97) C0 h1 dX8_readTwo_89 (by decide) (fun h1 => ?_) (fun h1 => ?_)
    · exact J97 x2 x3 _ _ _ _  hZ (lv_sub hl [1, 2, 3, 4] rfl) h1
    exact J92 x2 x3 _ _ _ _  hZ (lv_sub hl [1, 2, 3, 4] rfl) h1
  have J37 : ∀ (x2 : Int32) (σ : zS) (H : Heap) (locs : List Loc) (ls : Array Slot), zZ 1 V A σ s H locs → lv_has ls 5 [(0, .ref (zad V k0)), (1, .int x1), (2, .int x2)] → FX8_readTwo_b37 k0 x1 x2 σ = some t0 → W p l e (zrm 3 83) s m args below meth c H locs 0 0 Q (F0 m 37 ls []) := by
    intro x2 σ H locs ls  hZ hl h1
    unfold FX8_readTwo_b37 at h1
    refine lv_aload_n hx hb dX8_readTwo_37 rfl (lv_at hl 0 rfl) ?_
    refine z_cVi (As := []) (rest := []) C0 hZ h1 (fun _ hf => kX8_aisleNow l hk0 hf) mRX8_282 vX8_aisleNow hk0 rfl rfl hl.1 (Nat.le_of_ble_eq_true rfl) ⟨Nat.le_of_ble_eq_true rfl, Nat.le_of_ble_eq_true rfl⟩ dX8_readTwo_38 ⟨Nat.le_of_ble_eq_true rfl, Nat.le_of_ble_eq_true rfl⟩ (fun r_11 σ_10 H locs h1 hZ => ?_)
    refine z_istore_n C0 h1 hl (fun x3_12 => [(3, .int x3_12), (0, .ref (zad V k0)), (1, .int x1), (2, .int x2)]) dX8_readTwo_41 rfl (by decide) (fun _ => rfl) (fun x3_12 ls h1 hl => ?_)
    refine lv_iload_n hx hb dX8_readTwo_42 rfl (lv_at hl 2 rfl) ?_
    refine lv_iconst (v := 1) hx hb dX8_readTwo_43 (by decide) ?_
    refine z_ic_ne (tgt := 59) C0 h1 dX8_readTwo_44 (by decide) (fun h1 => ?_) (fun h1 => ?_)
    · refine lv_aload_n hx hb dX8_readTwo_59 rfl (lv_at hl 1 rfl) ?_
      refine z_getr C0 hZ hk0 fRX8_52 rfl dX8_readTwo_60 ?_
      refine lv_bipush (v := 10) hx hb dX8_readTwo_63 (by decide) ?_
      refine lv_iload_n hx hb dX8_readTwo_65 rfl (lv_at hl 3 rfl) ?_
      refine lv_iadd hx hb dX8_readTwo_66 ?_
      refine z_iald C0 hZ h1 (zkt8_7 hk0) dX8_readTwo_67 (fun h1 => ?_)
      exact J68 x2 x3_12 (σ_10 (k0 + 7) (Int32.toNatClampNeg (10 + x2))) _ _ _ _  hZ (lv_sub hl [1, 2, 3, 0] rfl) h1
    refine lv_aload_n hx hb dX8_readTwo_47 rfl (lv_at hl 1 rfl) ?_
    refine z_getr C0 hZ hk0 fRX8_49 rfl dX8_readTwo_48 ?_
    refine lv_bipush (v := 10) hx hb dX8_readTwo_51 (by decide) ?_
    refine lv_iload_n hx hb dX8_readTwo_53 rfl (lv_at hl 3 rfl) ?_
    refine lv_iadd hx hb dX8_readTwo_54 ?_
    refine z_iald C0 hZ h1 (zkt8_6 hk0) dX8_readTwo_55 (fun h1 => ?_)
    refine lv_goto (tgt := 68) hx hb dX8_readTwo_56 (by decide) ?_
    exact J68 x2 x3_12 (σ_10 (k0 + 6) (Int32.toNatClampNeg (10 + x2))) _ _ _ _  hZ (lv_sub hl [1, 2, 3, 0] rfl) h1
  have J14 : ∀ (q0 : Nat) (y1 : Int32) (y2 : Int32) (σ : zS) (H : Heap) (locs : List Loc) (ls : Array Slot), kd 1 q0 = 8 → zZ 1 V A σ s H locs → lv_has ls 5 [(0, .ref (zad V k0)), (1, .int x1)] → FX8_readTwo_b14 k0 x1 q0 y1 y2 σ = some t0 → W p l e (zrm 3 83) s m args below meth c H locs 0 0 Q (F0 m 14 ls [.int y2, .int y1, .ref (zad V q0)]) := by
    intro q0 y1 y2 σ H locs ls hq0 hZ hl h1
    unfold FX8_readTwo_b14 at h1
    refine z_cVi (As := [.int y1, .int y2]) (rest := []) C0 hZ h1 (fun _ hf => kX8_another l hq0 hf) mRX8_278 vX8_another hq0 rfl rfl hl.1 (Nat.le_of_ble_eq_true rfl) ⟨Nat.le_of_ble_eq_true rfl, Nat.le_of_ble_eq_true rfl⟩ dX8_readTwo_14 ⟨Nat.le_of_ble_eq_true rfl, Nat.le_of_ble_eq_true rfl⟩ (fun r_14 σ_13 H locs h1 hZ => ?_)
    refine z_if_ne (tgt := 21) C0 h1 dX8_readTwo_17 (by decide) (fun h1 => ?_) (fun h1 => ?_)
    · refine lv_aload_n hx hb dX8_readTwo_21 rfl (lv_at hl 0 rfl) ?_
      refine z_cVi (As := []) (rest := []) C0 hZ h1 (fun _ hf => kX8_aisleNow l hk0 hf) mRX8_282 vX8_aisleNow hk0 rfl rfl hl.1 (Nat.le_of_ble_eq_true rfl) ⟨Nat.le_of_ble_eq_true rfl, Nat.le_of_ble_eq_true rfl⟩ dX8_readTwo_22 ⟨Nat.le_of_ble_eq_true rfl, Nat.le_of_ble_eq_true rfl⟩ (fun r_16 σ_15 H locs h1 hZ => ?_)
      refine z_istore_n C0 h1 hl (fun x2_17 => [(2, .int x2_17), (0, .ref (zad V k0)), (1, .int x1)]) dX8_readTwo_25 rfl (by decide) (fun _ => rfl) (fun x2_17 ls h1 hl => ?_)
      refine lv_aload_n hx hb dX8_readTwo_26 rfl (lv_at hl 1 rfl) ?_
      refine z_geti C0 hZ hk0 fRX8_210 rfl dX8_readTwo_27 ?_
      refine z_if_ne (tgt := 37) C0 h1 dX8_readTwo_30 (by decide) (fun h1 => ?_) (fun h1 => ?_)
      · exact J37 x2_17 _ _ _ _  hZ (lv_sub hl [1, 2, 0] rfl) h1
      refine lv_aload_n hx hb dX8_readTwo_33 rfl (lv_at hl 1 rfl) ?_
      refine z_cVv (As := []) (rest := []) C0 hZ h1 (fun _ hf => kX8_stepOn l hk0 hf) mRX8_235 vX8_stepOn hk0 rfl rfl hl.1 (Nat.le_of_ble_eq_true rfl) ⟨Nat.le_of_ble_eq_true rfl, Nat.le_of_ble_eq_true rfl⟩ dX8_readTwo_34 ⟨Nat.le_of_ble_eq_true rfl, Nat.le_of_ble_eq_true rfl⟩ (fun _ σ_18 H locs h1 hZ => ?_)
      exact J37 x2_17 _ _ _ _  hZ (lv_sub hl [1, 2, 0] rfl) h1
    rw [hQ]; exact z_vret C0 hr hlk hZ h1 dX8_readTwo_20
  refine lv_aload_n hx hb dX8_readTwo_0 rfl (lv_at hl 0 rfl) ?_
  refine lv_iload_n hx hb dX8_readTwo_1 rfl (lv_at hl 1 rfl) ?_
  refine lv_iload_n hx hb dX8_readTwo_2 rfl (lv_at hl 1 rfl) ?_
  refine lv_iconst (v := 1) hx hb dX8_readTwo_3 (by decide) ?_
  refine z_ic_ne (tgt := 12) C0 h1 dX8_readTwo_4 (by decide) (fun h1 => ?_) (fun h1 => ?_)
  · refine lv_bipush (v := 6) hx hb dX8_readTwo_12 (by decide) ?_
    exact J14 k0 x1 6 _ _ _ _ hk0 hZ (lv_sub hl [0, 1] rfl) h1
  refine lv_bipush (v := 16) hx hb dX8_readTwo_7 (by decide) ?_
  refine lv_goto (tgt := 14) hx hb dX8_readTwo_9 (by decide) ?_
  exact J14 k0 x1 16 _ _ _ _ hk0 hZ (lv_sub hl [0, 1] rfl) h1
noncomputable def FX8_readPerson_b243 (k0 : Nat) (x2 : Int32) (x3 : Int32) (σ : zS) : Option (Int32 × zS) := zin (ln 1 (k0 + 12)) x2 (zlet (zup σ (k0 + 12) (Int32.toNatClampNeg x2) x3) (fun σ_1 => zin (ln 1 (k0 + 3)) 12 (zin (ln 1 (k0 + 3)) 12 (zlet (zup σ_1 (k0 + 3) (Int32.toNatClampNeg 12) ((σ_1 (k0 + 3) (Int32.toNatClampNeg 12)) + 1)) (fun σ_2 => some (0, σ_2))))))
noncomputable def FX8_readPerson_b220 (k0 : Nat) (x2 : Int32) (x3 : Int32) (σ : zS) : Option (Int32 × zS) := if (σ k0 25) = 0 then zin (ln 1 (k0 + 10)) x2 (if (σ (k0 + 10) (Int32.toNatClampNeg x2)) ≤ x3 then FX8_readPerson_b243 k0 x2 x3 σ else zbd (FX8_wrong k0 6 σ) (fun _ σ_3 => FX8_readPerson_b243 k0 x2 x3 σ_3)) else FX8_readPerson_b243 k0 x2 x3 σ
noncomputable def FX8_readPerson_b187 (k0 : Nat) (x2 : Int32) (x3 : Int32) (x4 : Int32) (σ : zS) : Option ((Int32 × zS) ⊕ (Int32 × zS)) := if (σ k0 25) = 0 then zin (ln 1 (k0 + 13)) ((12 * x2) + x3) (zlet (zup σ (k0 + 13) (Int32.toNatClampNeg ((12 * x2) + x3)) x4) (fun σ_5 => zlet (x3 + 1) (fun x3_6 => zbd (FX8_stepOn k0 σ_5) (fun _ σ_7 => some (.inl (x3_6, σ_7)))))) else some (.inl (x3, σ))
noncomputable def FX8_readPerson_b181 (k0 : Nat) (x2 : Int32) (x3 : Int32) (x4 : Int32) (σ : zS) : Option ((Int32 × zS) ⊕ (Int32 × zS)) := zbd (FX8_wrong k0 6 σ) (fun _ σ_9 => FX8_readPerson_b187 k0 x2 x3 x4 σ_9)
noncomputable def FX8_readPerson_b143 (k0 : Nat) (x2 : Int32) (x3 : Int32) (x4 : Int32) (y0 : Int32) (σ : zS) : Option ((Int32 × zS) ⊕ (Int32 × zS)) := zlet y0 (fun x5_11 => if (σ k0 25) = 0 then if x4 = x5_11 then FX8_readPerson_b187 k0 x2 x3 x4 σ else if x3 = 0 then FX8_readPerson_b181 k0 x2 x3 x4 σ else zin (ln 1 (k0 + 6)) (10 + x5_11) (if (((σ (k0 + 6) (Int32.toNatClampNeg (10 + x5_11))) >>> (x4 &&& 31)) &&& 1) = 0 then FX8_readPerson_b181 k0 x2 x3 x4 σ else FX8_readPerson_b187 k0 x2 x3 x4 σ) else FX8_readPerson_b187 k0 x2 x3 x4 σ)
noncomputable def FX8_readPerson_b116 (k0 : Nat) (x2 : Int32) (x3 : Int32) (σ : zS) : Option ((Int32 × zS) ⊕ (Int32 × zS)) := zbd (FX8_aisleNow k0 σ) (fun r_13 σ_12 => zlet r_13 (fun x4_14 => if x3 = 0 then FX8_readPerson_b143 k0 x2 x3 x4_14 0 σ_12 else zin (ln 1 (k0 + 13)) (((12 * x2) + x3) - 1) (FX8_readPerson_b143 k0 x2 x3 x4_14 (σ_12 (k0 + 13) (Int32.toNatClampNeg (((12 * x2) + x3) - 1))) σ_12)))
noncomputable def FX8_readPerson_L90 (k0 : Nat) (x2 : Int32) (x3 : Int32) (σ : zS) : Option ((Int32 × zS) ⊕ (Int32 × zS)) := if (σ k0 25) = 0 then if (σ k0 21) = 2 then if x3 = 12 then zbd (FX8_wrong k0 2 σ) (fun _ σ_15 => FX8_readPerson_b116 k0 x2 x3 σ_15) else FX8_readPerson_b116 k0 x2 x3 σ else zinr (FX8_readPerson_b220 k0 x2 x3 σ) else zinr (FX8_readPerson_b220 k0 x2 x3 σ)
noncomputable def FX8_readPerson (k0 : Nat) (x1 : Int32) (σ : zS) : Option (Int32 × zS) := zbd (FX8_another k0 3 8 σ) (fun r_18 σ_17 => if r_18 = 0 then some (0, σ_17) else zin (ln 1 (k0 + 3)) 12 (zlet (8 + (σ_17 (k0 + 3) (Int32.toNatClampNeg 12))) (fun x2_19 => zin (ln 1 (k0 + 8)) x2_19 (zlet (zup σ_17 (k0 + 8) (Int32.toNatClampNeg x2_19) x1) (fun σ_20 => zbd (FX8_readNumber k0 1 60 σ_20) (fun r_22 σ_21 => zin (ln 1 (k0 + 9)) x2_19 (zlet (zup σ_21 (k0 + 9) (Int32.toNatClampNeg x2_19) r_22) (fun σ_23 => zbd (FX8_readNumber k0 0 12 σ_23) (fun r_25 σ_24 => zin (ln 1 (k0 + 10)) x2_19 (zlet (zup σ_24 (k0 + 10) (Int32.toNatClampNeg x2_19) r_25) (fun σ_26 => zbd (FX8_readNumber k0 0 9 σ_26) (fun r_28 σ_27 => zin (ln 1 (k0 + 11)) x2_19 (zlet (zup σ_27 (k0 + 11) (Int32.toNatClampNeg x2_19) r_28) (fun σ_29 => zlet 0 (fun x3_30 => if (σ_29 k0 25) = 0 then if (σ_29 k0 21) = 2 then zlp (fun q => FX8_readPerson_L90 k0 x2_19 q.1 q.2) (x3_30, σ_29) else zbd (FX8_wrong k0 1 σ_29) (fun _ σ_31 => zlp (fun q => FX8_readPerson_L90 k0 x2_19 q.1 q.2) (x3_30, σ_31)) else zlp (fun q => FX8_readPerson_L90 k0 x2_19 q.1 q.2) (x3_30, σ_29))))))))))))))))
set_option maxHeartbeats 4000000 in
set_option maxRecDepth 100000 in
theorem kX8_readPerson (l : Launch) {V : zV} {σ : zS} {t0 : Int32 × zS} {k0 : Nat} {x1 : Int32} (hk0 : kd 1 k0 = 8) (h1 : FX8_readPerson k0 x1 σ = some t0) : zMv l yX8_readPerson cX8_readPerson 6 3 84 1 V σ t0 [.ref (zad V k0), .int x1] := by
  refine zMv_of (by decide) (Nat.le_of_ble_eq_true rfl) ?_
  intro p e s m below meth c A C0 hr hlk hZ ls hl
  generalize ([.ref (zad V k0), .int x1] : List Value).toArray = args at C0 ⊢
  obtain ⟨Q, hQ⟩ : ∃ Q, Q = MQ below (zQv 1 V t0 A) args s 0 0 A := ⟨_, rfl⟩
  rw [← hQ]
  have hx := C0.1
  have hb := C0.2.1
  have hl : lv_has ls 6 [(0, .ref (zad V k0)), (1, .int x1)] := hl
  unfold FX8_readPerson at h1
  have J243 : ∀ (x2 : Int32) (x3 : Int32) (σ : zS) (H : Heap) (locs : List Loc) (ls : Array Slot), zZ 1 V A σ s H locs → lv_has ls 6 [(0, .ref (zad V k0)), (2, .int x2), (3, .int x3)] → FX8_readPerson_b243 k0 x2 x3 σ = some t0 → W p l e (zrm 3 84) s m args below meth c H locs 0 0 Q (F0 m 243 ls []) := by
    intro x2 x3 σ H locs ls  hZ hl h1
    unfold FX8_readPerson_b243 at h1
    refine lv_aload_n hx hb dX8_readPerson_243 rfl (lv_at hl 0 rfl) ?_
    refine z_getr C0 hZ hk0 fRX8_66 rfl dX8_readPerson_244 ?_
    refine lv_iload_n hx hb dX8_readPerson_247 rfl (lv_at hl 1 rfl) ?_
    refine lv_iload_n hx hb dX8_readPerson_248 rfl (lv_at hl 2 rfl) ?_
    refine z_iast C0 hZ h1 (zkt8_12 hk0) dX8_readPerson_249 (fun σ_1 H locs h1 hZ => ?_)
    refine lv_aload_n hx hb dX8_readPerson_250 rfl (lv_at hl 0 rfl) ?_
    refine z_getr C0 hZ hk0 fRX8_40 rfl dX8_readPerson_251 ?_
    refine lv_bipush (v := 12) hx hb dX8_readPerson_254 (by decide) ?_
    refine lv_dup2_11 hx hb dX8_readPerson_256 rfl rfl ?_
    refine z_iald C0 hZ h1 (zkt8_3 hk0) dX8_readPerson_257 (fun h1 => ?_)
    refine lv_iconst (v := 1) hx hb dX8_readPerson_258 (by decide) ?_
    refine lv_iadd hx hb dX8_readPerson_259 ?_
    refine z_iast C0 hZ h1 (zkt8_3 hk0) dX8_readPerson_260 (fun σ_2 H locs h1 hZ => ?_)
    rw [hQ]; exact z_vret C0 hr hlk hZ h1 dX8_readPerson_261
  have J220 : ∀ (x2 : Int32) (x3 : Int32) (σ : zS) (H : Heap) (locs : List Loc) (ls : Array Slot), zZ 1 V A σ s H locs → lv_has ls 6 [(0, .ref (zad V k0)), (2, .int x2), (3, .int x3)] → FX8_readPerson_b220 k0 x2 x3 σ = some t0 → W p l e (zrm 3 84) s m args below meth c H locs 0 0 Q (F0 m 220 ls []) := by
    intro x2 x3 σ H locs ls  hZ hl h1
    unfold FX8_readPerson_b220 at h1
    refine lv_aload_n hx hb dX8_readPerson_220 rfl (lv_at hl 0 rfl) ?_
    refine z_geti C0 hZ hk0 fRX8_210 rfl dX8_readPerson_221 ?_
    refine z_if_ne (tgt := 243) C0 h1 dX8_readPerson_224 (by decide) (fun h1 => ?_) (fun h1 => ?_)
    · exact J243 x2 x3 _ _ _ _  hZ (lv_sub hl [0, 1, 2] rfl) h1
    refine lv_aload_n hx hb dX8_readPerson_227 rfl (lv_at hl 0 rfl) ?_
    refine z_getr C0 hZ hk0 fRX8_61 rfl dX8_readPerson_228 ?_
    refine lv_iload_n hx hb dX8_readPerson_231 rfl (lv_at hl 1 rfl) ?_
    refine z_iald C0 hZ h1 (zkt8_10 hk0) dX8_readPerson_232 (fun h1 => ?_)
    refine lv_iload_n hx hb dX8_readPerson_233 rfl (lv_at hl 2 rfl) ?_
    refine z_ic_le (tgt := 243) C0 h1 dX8_readPerson_234 (by decide) (fun h1 => ?_) (fun h1 => ?_)
    · exact J243 x2 x3 _ _ _ _  hZ (lv_sub hl [0, 1, 2] rfl) h1
    refine lv_aload_n hx hb dX8_readPerson_237 rfl (lv_at hl 0 rfl) ?_
    refine lv_bipush (v := 6) hx hb dX8_readPerson_238 (by decide) ?_
    refine z_cVv (As := [.int 6]) (rest := []) C0 hZ h1 (fun _ hf => kX8_wrong l hk0 hf) mRX8_231 vX8_wrong hk0 rfl rfl hl.1 (Nat.le_of_ble_eq_true rfl) ⟨Nat.le_of_ble_eq_true rfl, Nat.le_of_ble_eq_true rfl⟩ dX8_readPerson_240 ⟨Nat.le_of_ble_eq_true rfl, Nat.le_of_ble_eq_true rfl⟩ (fun _ σ_3 H locs h1 hZ => ?_)
    exact J243 x2 x3 _ _ _ _  hZ (lv_sub hl [0, 1, 2] rfl) h1
  have J90 : ∀ (n : Nat) (x2 : Int32) (x3 : Int32) (σ : zS) (H : Heap) (locs : List Loc) (ls : Array Slot), zZ 1 V A σ s H locs → lv_has ls 6 [(0, .ref (zad V k0)), (2, .int x2), (3, .int x3)] → zit (fun q => FX8_readPerson_L90 k0 x2 q.1 q.2) n (x3, σ) = some t0 → W p l e (zrm 3 84) s m args below meth c H locs 0 0 Q (F0 m 90 ls []) := by
    intro n
    induction n with
    | zero => intro x2 x3 σ H locs ls  _ _ h1; cases h1
    | succ n ih90 =>
      intro x2 x3 σ H locs ls  hZ hl h1
      obtain ⟨t1, h1, hz1⟩ := zit_1 h1
      have J187 : ∀ (x3 : Int32) (x4 : Int32) (σ : zS) (H : Heap) (locs : List Loc) (ls : Array Slot), zZ 1 V A σ s H locs → lv_has ls 6 [(0, .ref (zad V k0)), (2, .int x2), (3, .int x3), (4, .int x4)] → FX8_readPerson_b187 k0 x2 x3 x4 σ = some t1 → W p l e (zrm 3 84) s m args below meth c H locs 0 0 Q (F0 m 187 ls []) := by
        intro x3 x4 σ H locs ls  hZ hl h1
        unfold FX8_readPerson_b187 at h1
        refine lv_aload_n hx hb dX8_readPerson_187 rfl (lv_at hl 0 rfl) ?_
        refine z_geti C0 hZ hk0 fRX8_210 rfl dX8_readPerson_188 ?_
        refine z_if_eq (tgt := 197) C0 h1 dX8_readPerson_191 (by decide) (fun h1 => ?_) (fun h1 => ?_)
        · refine lv_aload_n hx hb dX8_readPerson_197 rfl (lv_at hl 0 rfl) ?_
          refine z_getr C0 hZ hk0 fRX8_69 rfl dX8_readPerson_198 ?_
          refine lv_bipush (v := 12) hx hb dX8_readPerson_201 (by decide) ?_
          refine lv_iload_n hx hb dX8_readPerson_203 rfl (lv_at hl 1 rfl) ?_
          refine lv_imul hx hb dX8_readPerson_204 ?_
          refine lv_iload_n hx hb dX8_readPerson_205 rfl (lv_at hl 2 rfl) ?_
          refine lv_iadd hx hb dX8_readPerson_206 ?_
          refine lv_iload hx hb dX8_readPerson_207 (lv_at hl 3 rfl) ?_
          refine z_iast C0 hZ h1 (zkt8_13 hk0) dX8_readPerson_209 (fun σ_5 H locs h1 hZ => ?_)
          refine z_iinc (v := 1) C0 h1 hl (fun x3_6 => [(3, .int x3_6), (0, .ref (zad V k0)), (2, .int x2), (4, .int x4)]) dX8_readPerson_210 (k := 2) rfl (by decide) (by decide) (fun _ => rfl) (fun x3_6 ls h1 hl => ?_)
          refine lv_aload_n hx hb dX8_readPerson_213 rfl (lv_at hl 1 rfl) ?_
          refine z_cVv (As := []) (rest := []) C0 hZ h1 (fun _ hf => kX8_stepOn l hk0 hf) mRX8_235 vX8_stepOn hk0 rfl rfl hl.1 (Nat.le_of_ble_eq_true rfl) ⟨Nat.le_of_ble_eq_true rfl, Nat.le_of_ble_eq_true rfl⟩ dX8_readPerson_214 ⟨Nat.le_of_ble_eq_true rfl, Nat.le_of_ble_eq_true rfl⟩ (fun _ σ_7 H locs h1 hZ => ?_)
          refine lv_goto (tgt := 90) hx hb dX8_readPerson_217 (by decide) ?_
          exact ih90 x2 x3_6 _ _ _ _  hZ (lv_sub hl [1, 2, 0] rfl) (zback h1 hz1)
        refine lv_goto (tgt := 90) hx hb dX8_readPerson_194 (by decide) ?_
        exact ih90 x2 x3 _ _ _ _  hZ (lv_sub hl [0, 1, 2] rfl) (zback h1 hz1)
      have J181 : ∀ (x3 : Int32) (x4 : Int32) (σ : zS) (H : Heap) (locs : List Loc) (ls : Array Slot), zZ 1 V A σ s H locs → lv_has ls 6 [(0, .ref (zad V k0)), (2, .int x2), (3, .int x3), (4, .int x4)] → FX8_readPerson_b181 k0 x2 x3 x4 σ = some t1 → W p l e (zrm 3 84) s m args below meth c H locs 0 0 Q (F0 m 181 ls []) := by
        intro x3 x4 σ H locs ls  hZ hl h1
        unfold FX8_readPerson_b181 at h1
        refine lv_aload_n hx hb dX8_readPerson_181 rfl (lv_at hl 0 rfl) ?_
        refine lv_bipush (v := 6) hx hb dX8_readPerson_182 (by decide) ?_
        refine z_cVv (As := [.int 6]) (rest := []) C0 hZ h1 (fun _ hf => kX8_wrong l hk0 hf) mRX8_231 vX8_wrong hk0 rfl rfl hl.1 (Nat.le_of_ble_eq_true rfl) ⟨Nat.le_of_ble_eq_true rfl, Nat.le_of_ble_eq_true rfl⟩ dX8_readPerson_184 ⟨Nat.le_of_ble_eq_true rfl, Nat.le_of_ble_eq_true rfl⟩ (fun _ σ_9 H locs h1 hZ => ?_)
        exact J187 x3 x4 _ _ _ _  hZ (lv_sub hl [0, 1, 2, 3] rfl) h1
      have J143 : ∀ (x3 : Int32) (x4 : Int32) (y0 : Int32) (σ : zS) (H : Heap) (locs : List Loc) (ls : Array Slot), zZ 1 V A σ s H locs → lv_has ls 6 [(0, .ref (zad V k0)), (2, .int x2), (3, .int x3), (4, .int x4)] → FX8_readPerson_b143 k0 x2 x3 x4 y0 σ = some t1 → W p l e (zrm 3 84) s m args below meth c H locs 0 0 Q (F0 m 143 ls [.int y0]) := by
        intro x3 x4 y0 σ H locs ls  hZ hl h1
        unfold FX8_readPerson_b143 at h1
        refine z_istore C0 h1 hl (fun x5_11 => [(5, .int x5_11), (0, .ref (zad V k0)), (2, .int x2), (3, .int x3), (4, .int x4)]) dX8_readPerson_143 (by decide) (fun _ => rfl) (fun x5_11 ls h1 hl => ?_)
        refine lv_aload_n hx hb dX8_readPerson_145 rfl (lv_at hl 1 rfl) ?_
        refine z_geti C0 hZ hk0 fRX8_210 rfl dX8_readPerson_146 ?_
        refine z_if_ne (tgt := 187) C0 h1 dX8_readPerson_149 (by decide) (fun h1 => ?_) (fun h1 => ?_)
        · exact J187 x3 x4 _ _ _ _  hZ (lv_sub hl [1, 2, 3, 4] rfl) h1
        refine lv_iload hx hb dX8_readPerson_152 (lv_at hl 4 rfl) ?_
        refine lv_iload hx hb dX8_readPerson_154 (lv_at hl 0 rfl) ?_
        refine z_ic_eq (tgt := 187) C0 h1 dX8_readPerson_156 (by decide) (fun h1 => ?_) (fun h1 => ?_)
        · exact J187 x3 x4 _ _ _ _  hZ (lv_sub hl [1, 2, 3, 4] rfl) h1
        refine lv_iload_n hx hb dX8_readPerson_159 rfl (lv_at hl 3 rfl) ?_
        refine z_if_eq (tgt := 181) C0 h1 dX8_readPerson_160 (by decide) (fun h1 => ?_) (fun h1 => ?_)
        · exact J181 x3 x4 _ _ _ _  hZ (lv_sub hl [1, 2, 3, 4] rfl) h1
        refine lv_aload_n hx hb dX8_readPerson_163 rfl (lv_at hl 1 rfl) ?_
        refine z_getr C0 hZ hk0 fRX8_49 rfl dX8_readPerson_164 ?_
        refine lv_bipush (v := 10) hx hb dX8_readPerson_167 (by decide) ?_
        refine lv_iload hx hb dX8_readPerson_169 (lv_at hl 0 rfl) ?_
        refine lv_iadd hx hb dX8_readPerson_171 ?_
        refine z_iald C0 hZ h1 (zkt8_6 hk0) dX8_readPerson_172 (fun h1 => ?_)
        refine lv_iload hx hb dX8_readPerson_173 (lv_at hl 4 rfl) ?_
        refine lv_ishr hx hb dX8_readPerson_175 ?_
        refine lv_iconst (v := 1) hx hb dX8_readPerson_176 (by decide) ?_
        refine lv_iand hx hb dX8_readPerson_177 ?_
        refine z_if_ne (tgt := 187) C0 h1 dX8_readPerson_178 (by decide) (fun h1 => ?_) (fun h1 => ?_)
        · exact J187 x3 x4 _ _ _ _  hZ (lv_sub hl [1, 2, 3, 4] rfl) h1
        exact J181 x3 x4 _ _ _ _  hZ (lv_sub hl [1, 2, 3, 4] rfl) h1
      have J116 : ∀ (x3 : Int32) (σ : zS) (H : Heap) (locs : List Loc) (ls : Array Slot), zZ 1 V A σ s H locs → lv_has ls 6 [(0, .ref (zad V k0)), (2, .int x2), (3, .int x3)] → FX8_readPerson_b116 k0 x2 x3 σ = some t1 → W p l e (zrm 3 84) s m args below meth c H locs 0 0 Q (F0 m 116 ls []) := by
        intro x3 σ H locs ls  hZ hl h1
        unfold FX8_readPerson_b116 at h1
        refine lv_aload_n hx hb dX8_readPerson_116 rfl (lv_at hl 0 rfl) ?_
        refine z_cVi (As := []) (rest := []) C0 hZ h1 (fun _ hf => kX8_aisleNow l hk0 hf) mRX8_282 vX8_aisleNow hk0 rfl rfl hl.1 (Nat.le_of_ble_eq_true rfl) ⟨Nat.le_of_ble_eq_true rfl, Nat.le_of_ble_eq_true rfl⟩ dX8_readPerson_117 ⟨Nat.le_of_ble_eq_true rfl, Nat.le_of_ble_eq_true rfl⟩ (fun r_13 σ_12 H locs h1 hZ => ?_)
        refine z_istore C0 h1 hl (fun x4_14 => [(4, .int x4_14), (0, .ref (zad V k0)), (2, .int x2), (3, .int x3)]) dX8_readPerson_120 (by decide) (fun _ => rfl) (fun x4_14 ls h1 hl => ?_)
        refine lv_iload_n hx hb dX8_readPerson_122 rfl (lv_at hl 3 rfl) ?_
        refine z_if_ne (tgt := 130) C0 h1 dX8_readPerson_123 (by decide) (fun h1 => ?_) (fun h1 => ?_)
        · refine lv_aload_n hx hb dX8_readPerson_130 rfl (lv_at hl 1 rfl) ?_
          refine z_getr C0 hZ hk0 fRX8_69 rfl dX8_readPerson_131 ?_
          refine lv_bipush (v := 12) hx hb dX8_readPerson_134 (by decide) ?_
          refine lv_iload_n hx hb dX8_readPerson_136 rfl (lv_at hl 2 rfl) ?_
          refine lv_imul hx hb dX8_readPerson_137 ?_
          refine lv_iload_n hx hb dX8_readPerson_138 rfl (lv_at hl 3 rfl) ?_
          refine lv_iadd hx hb dX8_readPerson_139 ?_
          refine lv_iconst (v := 1) hx hb dX8_readPerson_140 (by decide) ?_
          refine lv_isub hx hb dX8_readPerson_141 ?_
          refine z_iald C0 hZ h1 (zkt8_13 hk0) dX8_readPerson_142 (fun h1 => ?_)
          exact J143 x3 x4_14 (σ_12 (k0 + 13) (Int32.toNatClampNeg (((12 * x2) + x3) - 1))) _ _ _ _  hZ (lv_sub hl [1, 2, 3, 0] rfl) h1
        refine lv_iconst (v := 0) hx hb dX8_readPerson_126 (by decide) ?_
        refine lv_goto (tgt := 143) hx hb dX8_readPerson_127 (by decide) ?_
        exact J143 x3 x4_14 0 _ _ _ _  hZ (lv_sub hl [1, 2, 3, 0] rfl) h1
      replace h1 : FX8_readPerson_L90 k0 x2 x3 σ = some t1 := h1
      unfold FX8_readPerson_L90 at h1
      refine lv_aload_n hx hb dX8_readPerson_90 rfl (lv_at hl 0 rfl) ?_
      refine z_geti C0 hZ hk0 fRX8_210 rfl dX8_readPerson_91 ?_
      refine z_if_ne (tgt := 220) C0 h1 dX8_readPerson_94 (by decide) (fun h1 => ?_) (fun h1 => ?_)
      · have h1 := zout h1 hz1
        exact J220 x2 x3 _ _ _ _  hZ (lv_sub hl [0, 1, 2] rfl) h1
      refine lv_aload_n hx hb dX8_readPerson_97 rfl (lv_at hl 0 rfl) ?_
      refine z_geti C0 hZ hk0 fRX8_184 rfl dX8_readPerson_98 ?_
      refine lv_iconst (v := 2) hx hb dX8_readPerson_101 (by decide) ?_
      refine z_ic_ne (tgt := 220) C0 h1 dX8_readPerson_102 (by decide) (fun h1 => ?_) (fun h1 => ?_)
      · have h1 := zout h1 hz1
        exact J220 x2 x3 _ _ _ _  hZ (lv_sub hl [0, 1, 2] rfl) h1
      refine lv_iload_n hx hb dX8_readPerson_105 rfl (lv_at hl 2 rfl) ?_
      refine lv_bipush (v := 12) hx hb dX8_readPerson_106 (by decide) ?_
      refine z_ic_ne (tgt := 116) C0 h1 dX8_readPerson_108 (by decide) (fun h1 => ?_) (fun h1 => ?_)
      · exact J116 x3 _ _ _ _  hZ (lv_sub hl [0, 1, 2] rfl) h1
      refine lv_aload_n hx hb dX8_readPerson_111 rfl (lv_at hl 0 rfl) ?_
      refine lv_iconst (v := 2) hx hb dX8_readPerson_112 (by decide) ?_
      refine z_cVv (As := [.int 2]) (rest := []) C0 hZ h1 (fun _ hf => kX8_wrong l hk0 hf) mRX8_231 vX8_wrong hk0 rfl rfl hl.1 (Nat.le_of_ble_eq_true rfl) ⟨Nat.le_of_ble_eq_true rfl, Nat.le_of_ble_eq_true rfl⟩ dX8_readPerson_113 ⟨Nat.le_of_ble_eq_true rfl, Nat.le_of_ble_eq_true rfl⟩ (fun _ σ_15 H locs h1 hZ => ?_)
      exact J116 x3 _ _ _ _  hZ (lv_sub hl [0, 1, 2] rfl) h1
  refine lv_aload_n hx hb dX8_readPerson_0 rfl (lv_at hl 0 rfl) ?_
  refine lv_iconst (v := 3) hx hb dX8_readPerson_1 (by decide) ?_
  refine lv_bipush (v := 8) hx hb dX8_readPerson_2 (by decide) ?_
  refine z_cVi (As := [.int 3, .int 8]) (rest := []) C0 hZ h1 (fun _ hf => kX8_another l hk0 hf) mRX8_278 vX8_another hk0 rfl rfl hl.1 (Nat.le_of_ble_eq_true rfl) ⟨Nat.le_of_ble_eq_true rfl, Nat.le_of_ble_eq_true rfl⟩ dX8_readPerson_4 ⟨Nat.le_of_ble_eq_true rfl, Nat.le_of_ble_eq_true rfl⟩ (fun r_18 σ_17 H locs h1 hZ => ?_)
  refine z_if_ne (tgt := 11) C0 h1 dX8_readPerson_7 (by decide) (fun h1 => ?_) (fun h1 => ?_)
  · refine lv_bipush (v := 8) hx hb dX8_readPerson_11 (by decide) ?_
    refine lv_aload_n hx hb dX8_readPerson_13 rfl (lv_at hl 0 rfl) ?_
    refine z_getr C0 hZ hk0 fRX8_40 rfl dX8_readPerson_14 ?_
    refine lv_bipush (v := 12) hx hb dX8_readPerson_17 (by decide) ?_
    refine z_iald C0 hZ h1 (zkt8_3 hk0) dX8_readPerson_19 (fun h1 => ?_)
    refine lv_iadd hx hb dX8_readPerson_20 ?_
    refine z_istore_n C0 h1 hl (fun x2_19 => [(2, .int x2_19), (0, .ref (zad V k0)), (1, .int x1)]) dX8_readPerson_21 rfl (by decide) (fun _ => rfl) (fun x2_19 ls h1 hl => ?_)
    refine lv_aload_n hx hb dX8_readPerson_22 rfl (lv_at hl 1 rfl) ?_
    refine z_getr C0 hZ hk0 fRX8_55 rfl dX8_readPerson_23 ?_
    refine lv_iload_n hx hb dX8_readPerson_26 rfl (lv_at hl 0 rfl) ?_
    refine lv_iload_n hx hb dX8_readPerson_27 rfl (lv_at hl 2 rfl) ?_
    refine z_iast C0 hZ h1 (zkt8_8 hk0) dX8_readPerson_28 (fun σ_20 H locs h1 hZ => ?_)
    refine lv_aload_n hx hb dX8_readPerson_29 rfl (lv_at hl 1 rfl) ?_
    refine z_getr C0 hZ hk0 fRX8_58 rfl dX8_readPerson_30 ?_
    refine lv_iload_n hx hb dX8_readPerson_33 rfl (lv_at hl 0 rfl) ?_
    refine lv_aload_n hx hb dX8_readPerson_34 rfl (lv_at hl 1 rfl) ?_
    refine lv_iconst (v := 1) hx hb dX8_readPerson_35 (by decide) ?_
    refine lv_bipush (v := 60) hx hb dX8_readPerson_36 (by decide) ?_
    refine z_cVi (As := [.int 1, .int 60]) (rest := [.int x2_19, .ref (zad V (k0 + 9))]) C0 hZ h1 (fun _ hf => kX8_readNumber l hk0 hf) mRX8_241 vX8_readNumber hk0 rfl rfl hl.1 (Nat.le_of_ble_eq_true rfl) ⟨Nat.le_of_ble_eq_true rfl, Nat.le_of_ble_eq_true rfl⟩ dX8_readPerson_38 ⟨Nat.le_of_ble_eq_true rfl, Nat.le_of_ble_eq_true rfl⟩ (fun r_22 σ_21 H locs h1 hZ => ?_)
    refine z_iast C0 hZ h1 (zkt8_9 hk0) dX8_readPerson_41 (fun σ_23 H locs h1 hZ => ?_)
    refine lv_aload_n hx hb dX8_readPerson_42 rfl (lv_at hl 1 rfl) ?_
    refine z_getr C0 hZ hk0 fRX8_61 rfl dX8_readPerson_43 ?_
    refine lv_iload_n hx hb dX8_readPerson_46 rfl (lv_at hl 0 rfl) ?_
    refine lv_aload_n hx hb dX8_readPerson_47 rfl (lv_at hl 1 rfl) ?_
    refine lv_iconst (v := 0) hx hb dX8_readPerson_48 (by decide) ?_
    refine lv_bipush (v := 12) hx hb dX8_readPerson_49 (by decide) ?_
    refine z_cVi (As := [.int 0, .int 12]) (rest := [.int x2_19, .ref (zad V (k0 + 10))]) C0 hZ h1 (fun _ hf => kX8_readNumber l hk0 hf) mRX8_241 vX8_readNumber hk0 rfl rfl hl.1 (Nat.le_of_ble_eq_true rfl) ⟨Nat.le_of_ble_eq_true rfl, Nat.le_of_ble_eq_true rfl⟩ dX8_readPerson_51 ⟨Nat.le_of_ble_eq_true rfl, Nat.le_of_ble_eq_true rfl⟩ (fun r_25 σ_24 H locs h1 hZ => ?_)
    refine z_iast C0 hZ h1 (zkt8_10 hk0) dX8_readPerson_54 (fun σ_26 H locs h1 hZ => ?_)
    refine lv_aload_n hx hb dX8_readPerson_55 rfl (lv_at hl 1 rfl) ?_
    refine z_getr C0 hZ hk0 fRX8_64 rfl dX8_readPerson_56 ?_
    refine lv_iload_n hx hb dX8_readPerson_59 rfl (lv_at hl 0 rfl) ?_
    refine lv_aload_n hx hb dX8_readPerson_60 rfl (lv_at hl 1 rfl) ?_
    refine lv_iconst (v := 0) hx hb dX8_readPerson_61 (by decide) ?_
    refine lv_bipush (v := 9) hx hb dX8_readPerson_62 (by decide) ?_
    refine z_cVi (As := [.int 0, .int 9]) (rest := [.int x2_19, .ref (zad V (k0 + 11))]) C0 hZ h1 (fun _ hf => kX8_readNumber l hk0 hf) mRX8_241 vX8_readNumber hk0 rfl rfl hl.1 (Nat.le_of_ble_eq_true rfl) ⟨Nat.le_of_ble_eq_true rfl, Nat.le_of_ble_eq_true rfl⟩ dX8_readPerson_64 ⟨Nat.le_of_ble_eq_true rfl, Nat.le_of_ble_eq_true rfl⟩ (fun r_28 σ_27 H locs h1 hZ => ?_)
    refine z_iast C0 hZ h1 (zkt8_11 hk0) dX8_readPerson_67 (fun σ_29 H locs h1 hZ => ?_)
    refine lv_iconst (v := 0) hx hb dX8_readPerson_68 (by decide) ?_
    refine z_istore_n C0 h1 hl (fun x3_30 => [(3, .int x3_30), (2, .int x2_19), (0, .ref (zad V k0)), (1, .int x1)]) dX8_readPerson_69 rfl (by decide) (fun _ => rfl) (fun x3_30 ls h1 hl => ?_)
    refine lv_aload_n hx hb dX8_readPerson_70 rfl (lv_at hl 2 rfl) ?_
    refine z_geti C0 hZ hk0 fRX8_210 rfl dX8_readPerson_71 ?_
    refine z_if_ne (tgt := 90) C0 h1 dX8_readPerson_74 (by decide) (fun h1 => ?_) (fun h1 => ?_)
    · obtain ⟨n, h1⟩ := zlp_iff.mp h1
      exact J90 n x2_19 x3_30 _ _ _ _  hZ (lv_sub hl [2, 1, 0] rfl) h1
    refine lv_aload_n hx hb dX8_readPerson_77 rfl (lv_at hl 2 rfl) ?_
    refine z_geti C0 hZ hk0 fRX8_184 rfl dX8_readPerson_78 ?_
    refine lv_iconst (v := 2) hx hb dX8_readPerson_81 (by decide) ?_
    refine z_ic_eq (tgt := 90) C0 h1 dX8_readPerson_82 (by decide) (fun h1 => ?_) (fun h1 => ?_)
    · obtain ⟨n, h1⟩ := zlp_iff.mp h1
      exact J90 n x2_19 x3_30 _ _ _ _  hZ (lv_sub hl [2, 1, 0] rfl) h1
    refine lv_aload_n hx hb dX8_readPerson_85 rfl (lv_at hl 2 rfl) ?_
    refine lv_iconst (v := 1) hx hb dX8_readPerson_86 (by decide) ?_
    refine z_cVv (As := [.int 1]) (rest := []) C0 hZ h1 (fun _ hf => kX8_wrong l hk0 hf) mRX8_231 vX8_wrong hk0 rfl rfl hl.1 (Nat.le_of_ble_eq_true rfl) ⟨Nat.le_of_ble_eq_true rfl, Nat.le_of_ble_eq_true rfl⟩ dX8_readPerson_87 ⟨Nat.le_of_ble_eq_true rfl, Nat.le_of_ble_eq_true rfl⟩ (fun _ σ_31 H locs h1 hZ => ?_)
    obtain ⟨n, h1⟩ := zlp_iff.mp h1
    exact J90 n x2_19 x3_30 _ _ _ _  hZ (lv_sub hl [2, 1, 0] rfl) h1
  rw [hQ]; exact z_vret C0 hr hlk hZ h1 dX8_readPerson_10
noncomputable def FX8_readRule (k0 : Nat) (σ : zS) : Option (Int32 × zS) := zbd (FX8_another k0 4 4 σ) (fun r_2 σ_1 => if r_2 = 0 then some (0, σ_1) else zbd ((FGY zfuel) 0 k0 0 0 σ_1) (fun _ σ_3 => zin (ln 1 (k0 + 3)) 13 (zin (ln 1 (k0 + 3)) 17 (zin (ln 1 (k0 + 14)) (4 + (σ_3 (k0 + 3) (Int32.toNatClampNeg 13))) (zlet (zup σ_3 (k0 + 14) (Int32.toNatClampNeg (4 + (σ_3 (k0 + 3) (Int32.toNatClampNeg 13)))) (σ_3 (k0 + 3) (Int32.toNatClampNeg 17))) (fun σ_5 => zin (ln 1 (k0 + 3)) 13 (zin (ln 1 (k0 + 3)) 13 (zlet (zup σ_5 (k0 + 3) (Int32.toNatClampNeg 13) ((σ_5 (k0 + 3) (Int32.toNatClampNeg 13)) + 1)) (fun σ_6 => some (0, σ_6))))))))))
set_option maxHeartbeats 4000000 in
set_option maxRecDepth 100000 in
theorem kX8_readRule (l : Launch) {V : zV} {σ : zS} {t0 : Int32 × zS} {k0 : Nat} (hk0 : kd 1 k0 = 8) (h1 : FX8_readRule k0 σ = some t0) : zMv l yX8_readRule cX8_readRule 1 211 8449 1 V σ t0 [.ref (zad V k0)] := by
  refine zMv_of (by decide) (Nat.le_of_ble_eq_true rfl) ?_
  intro p e s m below meth c A C0 hr hlk hZ ls hl
  generalize ([.ref (zad V k0)] : List Value).toArray = args at C0 ⊢
  obtain ⟨Q, hQ⟩ : ∃ Q, Q = MQ below (zQv 1 V t0 A) args s 0 0 A := ⟨_, rfl⟩
  rw [← hQ]
  have hx := C0.1
  have hb := C0.2.1
  have hl : lv_has ls 1 [(0, .ref (zad V k0))] := hl
  unfold FX8_readRule at h1
  refine lv_aload_n hx hb dX8_readRule_0 rfl (lv_at hl 0 rfl) ?_
  refine lv_iconst (v := 4) hx hb dX8_readRule_1 (by decide) ?_
  refine lv_iconst (v := 4) hx hb dX8_readRule_2 (by decide) ?_
  refine z_cVi (As := [.int 4, .int 4]) (rest := []) C0 hZ h1 (fun _ hf => kX8_another l hk0 hf) mRX8_278 vX8_another hk0 rfl rfl hl.1 (Nat.le_of_ble_eq_true rfl) ⟨Nat.le_of_ble_eq_true rfl, Nat.le_of_ble_eq_true rfl⟩ dX8_readRule_3 ⟨Nat.le_of_ble_eq_true rfl, Nat.le_of_ble_eq_true rfl⟩ (fun r_2 σ_1 H locs h1 hZ => ?_)
  refine z_if_ne (tgt := 10) C0 h1 dX8_readRule_6 (by decide) (fun h1 => ?_) (fun h1 => ?_)
  · refine lv_aload_n hx hb dX8_readRule_10 rfl (lv_at hl 0 rfl) ?_
    refine lv_iconst (v := 0) hx hb dX8_readRule_11 (by decide) ?_
    refine z_cVv (As := [.int 0]) (rest := []) C0 hZ h1 (fun _ hf => zGGY_0 (kGY l zfuel) hk0 hf) mRX8_254 vX8_readExpression hk0 rfl rfl hl.1 (Nat.le_of_ble_eq_true rfl) ⟨Nat.le_of_ble_eq_true rfl, Nat.le_of_ble_eq_true rfl⟩ dX8_readRule_12 ⟨Nat.le_of_ble_eq_true rfl, Nat.le_of_ble_eq_true rfl⟩ (fun _ σ_3 H locs h1 hZ => ?_)
    refine lv_aload_n hx hb dX8_readRule_15 rfl (lv_at hl 0 rfl) ?_
    refine z_getr C0 hZ hk0 fRX8_72 rfl dX8_readRule_16 ?_
    refine lv_iconst (v := 4) hx hb dX8_readRule_19 (by decide) ?_
    refine lv_aload_n hx hb dX8_readRule_20 rfl (lv_at hl 0 rfl) ?_
    refine z_getr C0 hZ hk0 fRX8_40 rfl dX8_readRule_21 ?_
    refine lv_bipush (v := 13) hx hb dX8_readRule_24 (by decide) ?_
    refine z_iald C0 hZ h1 (zkt8_3 hk0) dX8_readRule_26 (fun h1 => ?_)
    refine lv_iadd hx hb dX8_readRule_27 ?_
    refine lv_aload_n hx hb dX8_readRule_28 rfl (lv_at hl 0 rfl) ?_
    refine z_getr C0 hZ hk0 fRX8_40 rfl dX8_readRule_29 ?_
    refine lv_bipush (v := 17) hx hb dX8_readRule_32 (by decide) ?_
    refine z_iald C0 hZ h1 (zkt8_3 hk0) dX8_readRule_34 (fun h1 => ?_)
    refine z_iast C0 hZ h1 (zkt8_14 hk0) dX8_readRule_35 (fun σ_5 H locs h1 hZ => ?_)
    refine lv_aload_n hx hb dX8_readRule_36 rfl (lv_at hl 0 rfl) ?_
    refine z_getr C0 hZ hk0 fRX8_40 rfl dX8_readRule_37 ?_
    refine lv_bipush (v := 13) hx hb dX8_readRule_40 (by decide) ?_
    refine lv_dup2_11 hx hb dX8_readRule_42 rfl rfl ?_
    refine z_iald C0 hZ h1 (zkt8_3 hk0) dX8_readRule_43 (fun h1 => ?_)
    refine lv_iconst (v := 1) hx hb dX8_readRule_44 (by decide) ?_
    refine lv_iadd hx hb dX8_readRule_45 ?_
    refine z_iast C0 hZ h1 (zkt8_3 hk0) dX8_readRule_46 (fun σ_6 H locs h1 hZ => ?_)
    rw [hQ]; exact z_vret C0 hr hlk hZ h1 dX8_readRule_47
  rw [hQ]; exact z_vret C0 hr hlk hZ h1 dX8_readRule_9
