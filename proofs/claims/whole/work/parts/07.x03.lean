noncomputable def FX0_take_b144  (σ : zS) : Option (Int32 × zS) := some (0, σ)
noncomputable def FX0_take_b138 (k0 : Nat) (x1 : Int32) (x2 : Int32) (σ : zS) : Option ((Int32 × zS) ⊕ (Int32 × zS)) := zlet (x2 + 1) (fun x2_1 => some (.inl (x2_1, σ)))
noncomputable def FX0_take_b66 (k0 : Nat) (x1 : Int32) (x2 : Int32) (x3 : Int32) (y0 : Int32) (σ : zS) : Option ((Int32 × zS) ⊕ (Int32 × zS)) := zlet y0 (fun x4_2 => if x4_2 = 0 then FX0_take_b138 k0 x1 x2 σ else zbd (FX7_at (k0 + 3) x3 σ) (fun r_4 σ_3 => if r_4 ≤ 0 then FX0_take_b138 k0 x1 x2 σ_3 else zbd (FX7_at (k0 + 3) x3 σ_3) (fun r_6 σ_5 => zbd (FX7_put (k0 + 3) x3 (r_6 - 1) σ_5) (fun _ σ_7 => zbd (FX7_put (k0 + 5) x2 x3 σ_7) (fun _ σ_9 => zbd (FX0_sees k0 x3 σ_9) (fun r_12 σ_11 => if r_12 = 0 then FX0_take_b138 k0 x1 x2 σ_11 else zbd (FX0_mark k0 5 x2 σ_11) (fun _ σ_13 => zbd (FX7_bit x2 σ_13) (fun r_16 σ_15 => zlet (zup σ_15 k0 13 ((σ_13 k0 13) ||| r_16)) (fun σ_17 => FX0_take_b138 k0 x1 x2 σ_17)))))))))
noncomputable def FX0_take_b65 (k0 : Nat) (x1 : Int32) (x2 : Int32) (x3 : Int32) (σ : zS) : Option ((Int32 × zS) ⊕ (Int32 × zS)) := FX0_take_b66 k0 x1 x2 x3 0 σ
noncomputable def FX0_take_L2 (k0 : Nat) (x1 : Int32) (x2 : Int32) (σ : zS) : Option ((Int32 × zS) ⊕ (Int32 × zS)) := zgd (kd 0 (σ k0 0).toNatClampNeg == 5) (zlet (σ k0 0).toNatClampNeg (fun q_18 => if (σ (q_18 + 7) 0) ≤ x2 then zinr (FX0_take_b144  σ) else zbd (FX7_at (k0 + 4) x2 σ) (fun r_20 σ_19 => zlet r_20 (fun x3_21 => if x3_21 = (-1) then FX0_take_b65 k0 x1 x2 x3_21 σ_19 else zgd (kd 0 (σ_19 k0 0).toNatClampNeg == 5) (zlet (σ_19 k0 0).toNatClampNeg (fun q_22 => zbd (FX2_comesToTake (q_22 + 7) x2 x1 σ_19) (fun r_24 σ_23 => if r_24 = 0 then FX0_take_b65 k0 x1 x2 x3_21 σ_23 else zbd (FX7_at (k0 + 8) 6 σ_23) (fun r_26 σ_25 => zbd (FX7_holds r_26 x2 σ_25) (fun r_28 σ_27 => if r_28 = 0 then FX0_take_b66 k0 x1 x2 x3_21 1 σ_27 else FX0_take_b65 k0 x1 x2 x3_21 σ_27)))))))))
noncomputable def FX0_take (k0 : Nat) (x1 : Int32) (σ : zS) : Option (Int32 × zS) := zlet 0 (fun x2_29 => zlp (fun q => FX0_take_L2 k0 x1 q.1 q.2) (x2_29, σ))
set_option maxHeartbeats 4000000 in
set_option maxRecDepth 100000 in
theorem kX0_take (l : Launch) {V : zV} {σ : zS} {t0 : Int32 × zS} {k0 : Nat} {x1 : Int32} (hk0 : kd 0 k0 = 0) (h1 : FX0_take k0 x1 σ = some t0) : zMv l yX0_take cX0_take 5 2 44 0 V σ t0 [.ref (zad V k0), .int x1] := by
  refine zMv_of (by decide) (Nat.le_of_ble_eq_true rfl) ?_
  intro p e s m below meth c A C0 hr hlk hZ ls hl
  generalize ([.ref (zad V k0), .int x1] : List Value).toArray = args at C0 ⊢
  obtain ⟨Q, hQ⟩ : ∃ Q, Q = MQ below (zQv 0 V t0 A) args s 0 0 A := ⟨_, rfl⟩
  rw [← hQ]
  have hx := C0.1
  have hb := C0.2.1
  have hl : lv_has ls 5 [(0, .ref (zad V k0)), (1, .int x1)] := hl
  unfold FX0_take at h1
  have J144 : ∀  (σ : zS) (H : Heap) (locs : List Loc) (ls : Array Slot), zZ 0 V A σ s H locs → lv_has ls 5 [] → FX0_take_b144  σ = some t0 → W p l e (zrm 2 44) s m args below meth c H locs 0 0 Q (F0 m 144 ls []) := by
    intro  σ H locs ls  hZ hl h1
    unfold FX0_take_b144 at h1
    rw [hQ]; exact z_vret C0 hr hlk hZ h1 dX0_take_144
  have J2 : ∀ (n : Nat) (x2 : Int32) (σ : zS) (H : Heap) (locs : List Loc) (ls : Array Slot), zZ 0 V A σ s H locs → lv_has ls 5 [(0, .ref (zad V k0)), (1, .int x1), (2, .int x2)] → zit (fun q => FX0_take_L2 k0 x1 q.1 q.2) n (x2, σ) = some t0 → W p l e (zrm 2 44) s m args below meth c H locs 0 0 Q (F0 m 2 ls []) := by
    intro n
    induction n with
    | zero => intro x2 σ H locs ls  _ _ h1; cases h1
    | succ n ih2 =>
      intro x2 σ H locs ls  hZ hl h1
      obtain ⟨t1, h1, hz1⟩ := zit_1 h1
      have J138 : ∀ (x2 : Int32) (σ : zS) (H : Heap) (locs : List Loc) (ls : Array Slot), zZ 0 V A σ s H locs → lv_has ls 5 [(0, .ref (zad V k0)), (1, .int x1), (2, .int x2)] → FX0_take_b138 k0 x1 x2 σ = some t1 → W p l e (zrm 2 44) s m args below meth c H locs 0 0 Q (F0 m 138 ls []) := by
        intro x2 σ H locs ls  hZ hl h1
        unfold FX0_take_b138 at h1
        refine z_iinc (v := 1) C0 h1 hl (fun x2_1 => [(2, .int x2_1), (0, .ref (zad V k0)), (1, .int x1)]) dX0_take_138 (k := 2) rfl (by decide) (by decide) (fun _ => rfl) (fun x2_1 ls h1 hl => ?_)
        refine lv_goto (tgt := 2) hx hb dX0_take_141 (by decide) ?_
        exact ih2 x2_1 _ _ _ _  hZ (lv_sub hl [1, 2, 0] rfl) (zback h1 hz1)
      have J66 : ∀ (x2 : Int32) (x3 : Int32) (y0 : Int32) (σ : zS) (H : Heap) (locs : List Loc) (ls : Array Slot), zZ 0 V A σ s H locs → lv_has ls 5 [(0, .ref (zad V k0)), (1, .int x1), (2, .int x2), (3, .int x3)] → FX0_take_b66 k0 x1 x2 x3 y0 σ = some t1 → W p l e (zrm 2 44) s m args below meth c H locs 0 0 Q (F0 m 66 ls [.int y0]) := by
        intro x2 x3 y0 σ H locs ls  hZ hl h1
        unfold FX0_take_b66 at h1
        refine z_istore C0 h1 hl (fun x4_2 => [(4, .int x4_2), (0, .ref (zad V k0)), (1, .int x1), (2, .int x2), (3, .int x3)]) dX0_take_66 (by decide) (fun _ => rfl) (fun x4_2 ls h1 hl => ?_)
        refine lv_iload hx hb dX0_take_68 (lv_at hl 0 rfl) ?_
        refine z_if_eq (tgt := 138) C0 h1 dX0_take_70 (by decide) (fun h1 => ?_) (fun h1 => ?_)
        · exact J138 x2 _ _ _ _  hZ (lv_sub hl [1, 2, 3] rfl) h1
        refine lv_aload_n hx hb dX0_take_73 rfl (lv_at hl 1 rfl) ?_
        refine z_getr C0 hZ hk0 fRX0_34 rfl dX0_take_74 ?_
        refine lv_iload_n hx hb dX0_take_77 rfl (lv_at hl 4 rfl) ?_
        refine z_cSi (As := [.ref (zad V (k0 + 3)), .int x3]) (rest := []) C0 hZ h1 (fun _ hf => kX7_at l (zkt0_8 hk0) hf) mRX0_118 sX7_at rfl rfl hl.1 (Nat.le_of_ble_eq_true rfl) ⟨Nat.le_of_ble_eq_true rfl, Nat.le_of_ble_eq_true rfl⟩ dX0_take_78 ⟨Nat.le_of_ble_eq_true rfl, Nat.le_of_ble_eq_true rfl⟩ (fun r_4 σ_3 H locs h1 hZ => ?_)
        refine z_if_le (tgt := 138) C0 h1 dX0_take_81 (by decide) (fun h1 => ?_) (fun h1 => ?_)
        · exact J138 x2 _ _ _ _  hZ (lv_sub hl [1, 2, 3] rfl) h1
        refine lv_aload_n hx hb dX0_take_84 rfl (lv_at hl 1 rfl) ?_
        refine z_getr C0 hZ hk0 fRX0_34 rfl dX0_take_85 ?_
        refine lv_iload_n hx hb dX0_take_88 rfl (lv_at hl 4 rfl) ?_
        refine lv_aload_n hx hb dX0_take_89 rfl (lv_at hl 1 rfl) ?_
        refine z_getr C0 hZ hk0 fRX0_34 rfl dX0_take_90 ?_
        refine lv_iload_n hx hb dX0_take_93 rfl (lv_at hl 4 rfl) ?_
        refine z_cSi (As := [.ref (zad V (k0 + 3)), .int x3]) (rest := [.int x3, .ref (zad V (k0 + 3))]) C0 hZ h1 (fun _ hf => kX7_at l (zkt0_8 hk0) hf) mRX0_118 sX7_at rfl rfl hl.1 (Nat.le_of_ble_eq_true rfl) ⟨Nat.le_of_ble_eq_true rfl, Nat.le_of_ble_eq_true rfl⟩ dX0_take_94 ⟨Nat.le_of_ble_eq_true rfl, Nat.le_of_ble_eq_true rfl⟩ (fun r_6 σ_5 H locs h1 hZ => ?_)
        refine lv_iconst (v := 1) hx hb dX0_take_97 (by decide) ?_
        refine lv_isub hx hb dX0_take_98 ?_
        refine z_cSv (As := [.ref (zad V (k0 + 3)), .int x3, .int (r_6 - 1)]) (rest := []) C0 hZ h1 (fun _ hf => kX7_put l (zkt0_8 hk0) hf) mRX0_139 sX7_put rfl rfl hl.1 (Nat.le_of_ble_eq_true rfl) ⟨Nat.le_of_ble_eq_true rfl, Nat.le_of_ble_eq_true rfl⟩ dX0_take_99 ⟨Nat.le_of_ble_eq_true rfl, Nat.le_of_ble_eq_true rfl⟩ (fun _ σ_7 H locs h1 hZ => ?_)
        refine lv_aload_n hx hb dX0_take_102 rfl (lv_at hl 1 rfl) ?_
        refine z_getr C0 hZ hk0 fRX0_40 rfl dX0_take_103 ?_
        refine lv_iload_n hx hb dX0_take_106 rfl (lv_at hl 3 rfl) ?_
        refine lv_iload_n hx hb dX0_take_107 rfl (lv_at hl 4 rfl) ?_
        refine z_cSv (As := [.ref (zad V (k0 + 5)), .int x2, .int x3]) (rest := []) C0 hZ h1 (fun _ hf => kX7_put l (zkt0_10 hk0) hf) mRX0_139 sX7_put rfl rfl hl.1 (Nat.le_of_ble_eq_true rfl) ⟨Nat.le_of_ble_eq_true rfl, Nat.le_of_ble_eq_true rfl⟩ dX0_take_108 ⟨Nat.le_of_ble_eq_true rfl, Nat.le_of_ble_eq_true rfl⟩ (fun _ σ_9 H locs h1 hZ => ?_)
        refine lv_aload_n hx hb dX0_take_111 rfl (lv_at hl 1 rfl) ?_
        refine lv_iload_n hx hb dX0_take_112 rfl (lv_at hl 4 rfl) ?_
        refine z_cVi (As := [.int x3]) (rest := []) C0 hZ h1 (fun _ hf => kX0_sees l hk0 hf) mRX0_205 vX0_sees hk0 rfl rfl hl.1 (Nat.le_of_ble_eq_true rfl) ⟨Nat.le_of_ble_eq_true rfl, Nat.le_of_ble_eq_true rfl⟩ dX0_take_113 ⟨Nat.le_of_ble_eq_true rfl, Nat.le_of_ble_eq_true rfl⟩ (fun r_12 σ_11 H locs h1 hZ => ?_)
        refine z_if_eq (tgt := 138) C0 h1 dX0_take_116 (by decide) (fun h1 => ?_) (fun h1 => ?_)
        · exact J138 x2 _ _ _ _  hZ (lv_sub hl [1, 2, 3] rfl) h1
        refine lv_aload_n hx hb dX0_take_119 rfl (lv_at hl 1 rfl) ?_
        refine lv_iconst (v := 5) hx hb dX0_take_120 (by decide) ?_
        refine lv_iload_n hx hb dX0_take_121 rfl (lv_at hl 3 rfl) ?_
        refine z_cVv (As := [.int 5, .int x2]) (rest := []) C0 hZ h1 (fun _ hf => kX0_mark l hk0 hf) mRX0_159 vX0_mark hk0 rfl rfl hl.1 (Nat.le_of_ble_eq_true rfl) ⟨Nat.le_of_ble_eq_true rfl, Nat.le_of_ble_eq_true rfl⟩ dX0_take_122 ⟨Nat.le_of_ble_eq_true rfl, Nat.le_of_ble_eq_true rfl⟩ (fun _ σ_13 H locs h1 hZ => ?_)
        refine lv_aload_n hx hb dX0_take_125 rfl (lv_at hl 1 rfl) ?_
        refine lv_dup hx hb dX0_take_126 rfl ?_
        refine z_geti C0 hZ hk0 fRX0_49 rfl dX0_take_127 ?_
        refine lv_iload_n hx hb dX0_take_130 rfl (lv_at hl 3 rfl) ?_
        refine z_cSi (As := [.int x2]) (rest := [.int (σ_13 k0 13), .ref (zad V k0)]) C0 hZ h1 (fun _ hf => kX7_bit l  hf) mRX0_165 sX7_bit rfl rfl hl.1 (Nat.le_of_ble_eq_true rfl) ⟨Nat.le_of_ble_eq_true rfl, Nat.le_of_ble_eq_true rfl⟩ dX0_take_131 ⟨Nat.le_of_ble_eq_true rfl, Nat.le_of_ble_eq_true rfl⟩ (fun r_16 σ_15 H locs h1 hZ => ?_)
        refine lv_ior hx hb dX0_take_134 ?_
        refine z_puti C0 hZ h1 hk0 fRX0_49 rfl tyX0_ok nmX0 rfl rfl rfl dX0_take_135 (fun σ_17 H locs h1 hZ => ?_)
        exact J138 x2 _ _ _ _  hZ (lv_sub hl [1, 2, 3] rfl) h1
      have J65 : ∀ (x2 : Int32) (x3 : Int32) (σ : zS) (H : Heap) (locs : List Loc) (ls : Array Slot), zZ 0 V A σ s H locs → lv_has ls 5 [(0, .ref (zad V k0)), (1, .int x1), (2, .int x2), (3, .int x3)] → FX0_take_b65 k0 x1 x2 x3 σ = some t1 → W p l e (zrm 2 44) s m args below meth c H locs 0 0 Q (F0 m 65 ls []) := by
        intro x2 x3 σ H locs ls  hZ hl h1
        unfold FX0_take_b65 at h1
        refine lv_iconst (v := 0) hx hb dX0_take_65 (by decide) ?_
        exact J66 x2 x3 0 _ _ _ _  hZ (lv_sub hl [0, 1, 2, 3] rfl) h1
      replace h1 : FX0_take_L2 k0 x1 x2 σ = some t1 := h1
      unfold FX0_take_L2 at h1
      refine lv_iload_n hx hb dX0_take_2 rfl (lv_at hl 2 rfl) ?_
      refine lv_aload_n hx hb dX0_take_3 rfl (lv_at hl 0 rfl) ?_
      refine z_getm C0 hZ h1 hk0 fRX0_64 rfl dX0_take_4 (fun q_18 hq_18 h1 => ?_)
      refine z_getr C0 hZ hq_18 fRX0_122 rfl dX0_take_7 ?_
      refine z_geti C0 hZ (zkt5_1 hq_18) fRX0_126 rfl dX0_take_10 ?_
      refine z_ic_ge (tgt := 144) C0 h1 dX0_take_13 (by decide) (fun h1 => ?_) (fun h1 => ?_)
      · have h1 := zout h1 hz1
        exact J144  _ _ _ _  hZ (lv_sub hl [] rfl) h1
      refine lv_aload_n hx hb dX0_take_16 rfl (lv_at hl 0 rfl) ?_
      refine z_getr C0 hZ hk0 fRX0_37 rfl dX0_take_17 ?_
      refine lv_iload_n hx hb dX0_take_20 rfl (lv_at hl 2 rfl) ?_
      refine z_cSi (As := [.ref (zad V (k0 + 4)), .int x2]) (rest := []) C0 hZ h1 (fun _ hf => kX7_at l (zkt0_9 hk0) hf) mRX0_118 sX7_at rfl rfl hl.1 (Nat.le_of_ble_eq_true rfl) ⟨Nat.le_of_ble_eq_true rfl, Nat.le_of_ble_eq_true rfl⟩ dX0_take_21 ⟨Nat.le_of_ble_eq_true rfl, Nat.le_of_ble_eq_true rfl⟩ (fun r_20 σ_19 H locs h1 hZ => ?_)
      refine z_istore_n C0 h1 hl (fun x3_21 => [(3, .int x3_21), (0, .ref (zad V k0)), (1, .int x1), (2, .int x2)]) dX0_take_24 rfl (by decide) (fun _ => rfl) (fun x3_21 ls h1 hl => ?_)
      refine lv_iload_n hx hb dX0_take_25 rfl (lv_at hl 0 rfl) ?_
      refine lv_iconst (v := (-1)) hx hb dX0_take_26 (by decide) ?_
      refine z_ic_eq (tgt := 65) C0 h1 dX0_take_27 (by decide) (fun h1 => ?_) (fun h1 => ?_)
      · exact J65 x2 x3_21 _ _ _ _  hZ (lv_sub hl [1, 2, 3, 0] rfl) h1
      refine lv_aload_n hx hb dX0_take_30 rfl (lv_at hl 1 rfl) ?_
      refine z_getm C0 hZ h1 hk0 fRX0_64 rfl dX0_take_31 (fun q_22 hq_22 h1 => ?_)
      refine z_getr C0 hZ hq_22 fRX0_122 rfl dX0_take_34 ?_
      refine lv_iload_n hx hb dX0_take_37 rfl (lv_at hl 3 rfl) ?_
      refine lv_iload_n hx hb dX0_take_38 rfl (lv_at hl 2 rfl) ?_
      refine z_cVi (As := [.int x2, .int x1]) (rest := []) C0 hZ h1 (fun _ hf => kX2_comesToTake l (zkt5_1 hq_22) hf) mRX0_202 vX2_comesToTake (zkt5_1 hq_22) rfl rfl hl.1 (Nat.le_of_ble_eq_true rfl) ⟨Nat.le_of_ble_eq_true rfl, Nat.le_of_ble_eq_true rfl⟩ dX0_take_39 ⟨Nat.le_of_ble_eq_true rfl, Nat.le_of_ble_eq_true rfl⟩ (fun r_24 σ_23 H locs h1 hZ => ?_)
      refine z_if_eq (tgt := 65) C0 h1 dX0_take_42 (by decide) (fun h1 => ?_) (fun h1 => ?_)
      · exact J65 x2 x3_21 _ _ _ _  hZ (lv_sub hl [1, 2, 3, 0] rfl) h1
      refine lv_aload_n hx hb dX0_take_45 rfl (lv_at hl 1 rfl) ?_
      refine z_getr C0 hZ hk0 fRX0_55 rfl dX0_take_46 ?_
      refine lv_bipush (v := 6) hx hb dX0_take_49 (by decide) ?_
      refine z_cSi (As := [.ref (zad V (k0 + 8)), .int 6]) (rest := []) C0 hZ h1 (fun _ hf => kX7_at l (zkt0_15 hk0) hf) mRX0_118 sX7_at rfl rfl hl.1 (Nat.le_of_ble_eq_true rfl) ⟨Nat.le_of_ble_eq_true rfl, Nat.le_of_ble_eq_true rfl⟩ dX0_take_51 ⟨Nat.le_of_ble_eq_true rfl, Nat.le_of_ble_eq_true rfl⟩ (fun r_26 σ_25 H locs h1 hZ => ?_)
      refine lv_iload_n hx hb dX0_take_54 rfl (lv_at hl 3 rfl) ?_
      refine z_cSi (As := [.int r_26, .int x2]) (rest := []) C0 hZ h1 (fun _ hf => kX7_holds l  hf) mRX0_131 sX7_holds rfl rfl hl.1 (Nat.le_of_ble_eq_true rfl) ⟨Nat.le_of_ble_eq_true rfl, Nat.le_of_ble_eq_true rfl⟩ dX0_take_55 ⟨Nat.le_of_ble_eq_true rfl, Nat.le_of_ble_eq_true rfl⟩ (fun r_28 σ_27 H locs h1 hZ => ?_)
      refine z_if_ne (tgt := 65) C0 h1 dX0_take_58 (by decide) (fun h1 => ?_) (fun h1 => ?_)
      · exact J65 x2 x3_21 _ _ _ _  hZ (lv_sub hl [1, 2, 3, 0] rfl) h1
      refine lv_iconst (v := 1) hx hb dX0_take_61 (by decide) ?_
      refine lv_goto (tgt := 66) hx hb dX0_take_62 (by decide) ?_
      exact J66 x2 x3_21 1 _ _ _ _  hZ (lv_sub hl [1, 2, 3, 0] rfl) h1
  refine lv_iconst (v := 0) hx hb dX0_take_0 (by decide) ?_
  refine z_istore_n C0 h1 hl (fun x2_29 => [(2, .int x2_29), (0, .ref (zad V k0)), (1, .int x1)]) dX0_take_1 rfl (by decide) (fun _ => rfl) (fun x2_29 ls h1 hl => ?_)
  obtain ⟨n, h1⟩ := zlp_iff.mp h1
  exact J2 n x2_29 _ _ _ _  hZ (lv_sub hl [1, 2, 0] rfl) h1
noncomputable def FX0_loseSight_b52  (σ : zS) : Option (Int32 × zS) := some (0, σ)
noncomputable def FX0_loseSight_b46 (k0 : Nat) (x1 : Int32) (σ : zS) : Option ((Int32 × zS) ⊕ (Int32 × zS)) := zlet (x1 + 1) (fun x1_1 => some (.inl (x1_1, σ)))
noncomputable def FX0_loseSight_L2 (k0 : Nat) (x1 : Int32) (σ : zS) : Option ((Int32 × zS) ⊕ (Int32 × zS)) := zgd (kd 0 (σ k0 0).toNatClampNeg == 5) (zlet (σ k0 0).toNatClampNeg (fun q_2 => if (σ (q_2 + 7) 0) ≤ x1 then zinr (FX0_loseSight_b52  σ) else zbd (FX7_at (k0 + 4) x1 σ) (fun r_4 σ_3 => zbd (FX0_sees k0 r_4 σ_3) (fun r_6 σ_5 => if r_6 = 0 then zbd (FX7_bit x1 σ_5) (fun r_8 σ_7 => zlet (zup σ_7 k0 13 ((σ_5 k0 13) &&& (r_8 ^^^ (-1)))) (fun σ_9 => FX0_loseSight_b46 k0 x1 σ_9)) else FX0_loseSight_b46 k0 x1 σ_5))))
noncomputable def FX0_loseSight (k0 : Nat) (σ : zS) : Option (Int32 × zS) := zlet 0 (fun x1_10 => zlp (fun q => FX0_loseSight_L2 k0 q.1 q.2) (x1_10, σ))
set_option maxHeartbeats 4000000 in
set_option maxRecDepth 100000 in
theorem kX0_loseSight (l : Launch) {V : zV} {σ : zS} {t0 : Int32 × zS} {k0 : Nat} (hk0 : kd 0 k0 = 0) (h1 : FX0_loseSight k0 σ = some t0) : zMv l yX0_loseSight cX0_loseSight 2 2 42 0 V σ t0 [.ref (zad V k0)] := by
  refine zMv_of (by decide) (Nat.le_of_ble_eq_true rfl) ?_
  intro p e s m below meth c A C0 hr hlk hZ ls hl
  generalize ([.ref (zad V k0)] : List Value).toArray = args at C0 ⊢
  obtain ⟨Q, hQ⟩ : ∃ Q, Q = MQ below (zQv 0 V t0 A) args s 0 0 A := ⟨_, rfl⟩
  rw [← hQ]
  have hx := C0.1
  have hb := C0.2.1
  have hl : lv_has ls 2 [(0, .ref (zad V k0))] := hl
  unfold FX0_loseSight at h1
  have J52 : ∀  (σ : zS) (H : Heap) (locs : List Loc) (ls : Array Slot), zZ 0 V A σ s H locs → lv_has ls 2 [] → FX0_loseSight_b52  σ = some t0 → W p l e (zrm 2 42) s m args below meth c H locs 0 0 Q (F0 m 52 ls []) := by
    intro  σ H locs ls  hZ hl h1
    unfold FX0_loseSight_b52 at h1
    rw [hQ]; exact z_vret C0 hr hlk hZ h1 dX0_loseSight_52
  have J2 : ∀ (n : Nat) (x1 : Int32) (σ : zS) (H : Heap) (locs : List Loc) (ls : Array Slot), zZ 0 V A σ s H locs → lv_has ls 2 [(0, .ref (zad V k0)), (1, .int x1)] → zit (fun q => FX0_loseSight_L2 k0 q.1 q.2) n (x1, σ) = some t0 → W p l e (zrm 2 42) s m args below meth c H locs 0 0 Q (F0 m 2 ls []) := by
    intro n
    induction n with
    | zero => intro x1 σ H locs ls  _ _ h1; cases h1
    | succ n ih2 =>
      intro x1 σ H locs ls  hZ hl h1
      obtain ⟨t1, h1, hz1⟩ := zit_1 h1
      have J46 : ∀ (x1 : Int32) (σ : zS) (H : Heap) (locs : List Loc) (ls : Array Slot), zZ 0 V A σ s H locs → lv_has ls 2 [(0, .ref (zad V k0)), (1, .int x1)] → FX0_loseSight_b46 k0 x1 σ = some t1 → W p l e (zrm 2 42) s m args below meth c H locs 0 0 Q (F0 m 46 ls []) := by
        intro x1 σ H locs ls  hZ hl h1
        unfold FX0_loseSight_b46 at h1
        refine z_iinc (v := 1) C0 h1 hl (fun x1_1 => [(1, .int x1_1), (0, .ref (zad V k0))]) dX0_loseSight_46 (k := 1) rfl (by decide) (by decide) (fun _ => rfl) (fun x1_1 ls h1 hl => ?_)
        refine lv_goto (tgt := 2) hx hb dX0_loseSight_49 (by decide) ?_
        exact ih2 x1_1 _ _ _ _  hZ (lv_sub hl [1, 0] rfl) (zback h1 hz1)
      replace h1 : FX0_loseSight_L2 k0 x1 σ = some t1 := h1
      unfold FX0_loseSight_L2 at h1
      refine lv_iload_n hx hb dX0_loseSight_2 rfl (lv_at hl 1 rfl) ?_
      refine lv_aload_n hx hb dX0_loseSight_3 rfl (lv_at hl 0 rfl) ?_
      refine z_getm C0 hZ h1 hk0 fRX0_64 rfl dX0_loseSight_4 (fun q_2 hq_2 h1 => ?_)
      refine z_getr C0 hZ hq_2 fRX0_122 rfl dX0_loseSight_7 ?_
      refine z_geti C0 hZ (zkt5_1 hq_2) fRX0_126 rfl dX0_loseSight_10 ?_
      refine z_ic_ge (tgt := 52) C0 h1 dX0_loseSight_13 (by decide) (fun h1 => ?_) (fun h1 => ?_)
      · have h1 := zout h1 hz1
        exact J52  _ _ _ _  hZ (lv_sub hl [] rfl) h1
      refine lv_aload_n hx hb dX0_loseSight_16 rfl (lv_at hl 0 rfl) ?_
      refine lv_aload_n hx hb dX0_loseSight_17 rfl (lv_at hl 0 rfl) ?_
      refine z_getr C0 hZ hk0 fRX0_37 rfl dX0_loseSight_18 ?_
      refine lv_iload_n hx hb dX0_loseSight_21 rfl (lv_at hl 1 rfl) ?_
      refine z_cSi (As := [.ref (zad V (k0 + 4)), .int x1]) (rest := [.ref (zad V k0)]) C0 hZ h1 (fun _ hf => kX7_at l (zkt0_9 hk0) hf) mRX0_118 sX7_at rfl rfl hl.1 (Nat.le_of_ble_eq_true rfl) ⟨Nat.le_of_ble_eq_true rfl, Nat.le_of_ble_eq_true rfl⟩ dX0_loseSight_22 ⟨Nat.le_of_ble_eq_true rfl, Nat.le_of_ble_eq_true rfl⟩ (fun r_4 σ_3 H locs h1 hZ => ?_)
      refine z_cVi (As := [.int r_4]) (rest := []) C0 hZ h1 (fun _ hf => kX0_sees l hk0 hf) mRX0_205 vX0_sees hk0 rfl rfl hl.1 (Nat.le_of_ble_eq_true rfl) ⟨Nat.le_of_ble_eq_true rfl, Nat.le_of_ble_eq_true rfl⟩ dX0_loseSight_25 ⟨Nat.le_of_ble_eq_true rfl, Nat.le_of_ble_eq_true rfl⟩ (fun r_6 σ_5 H locs h1 hZ => ?_)
      refine z_if_ne (tgt := 46) C0 h1 dX0_loseSight_28 (by decide) (fun h1 => ?_) (fun h1 => ?_)
      · exact J46 x1 _ _ _ _  hZ (lv_sub hl [0, 1] rfl) h1
      refine lv_aload_n hx hb dX0_loseSight_31 rfl (lv_at hl 0 rfl) ?_
      refine lv_dup hx hb dX0_loseSight_32 rfl ?_
      refine z_geti C0 hZ hk0 fRX0_49 rfl dX0_loseSight_33 ?_
      refine lv_iload_n hx hb dX0_loseSight_36 rfl (lv_at hl 1 rfl) ?_
      refine z_cSi (As := [.int x1]) (rest := [.int (σ_5 k0 13), .ref (zad V k0)]) C0 hZ h1 (fun _ hf => kX7_bit l  hf) mRX0_165 sX7_bit rfl rfl hl.1 (Nat.le_of_ble_eq_true rfl) ⟨Nat.le_of_ble_eq_true rfl, Nat.le_of_ble_eq_true rfl⟩ dX0_loseSight_37 ⟨Nat.le_of_ble_eq_true rfl, Nat.le_of_ble_eq_true rfl⟩ (fun r_8 σ_7 H locs h1 hZ => ?_)
      refine lv_iconst (v := (-1)) hx hb dX0_loseSight_40 (by decide) ?_
      refine lv_ixor hx hb dX0_loseSight_41 ?_
      refine lv_iand hx hb dX0_loseSight_42 ?_
      refine z_puti C0 hZ h1 hk0 fRX0_49 rfl tyX0_ok nmX0 rfl rfl rfl dX0_loseSight_43 (fun σ_9 H locs h1 hZ => ?_)
      exact J46 x1 _ _ _ _  hZ (lv_sub hl [0, 1] rfl) h1
  refine lv_iconst (v := 0) hx hb dX0_loseSight_0 (by decide) ?_
  refine z_istore_n C0 h1 hl (fun x1_10 => [(1, .int x1_10), (0, .ref (zad V k0))]) dX0_loseSight_1 rfl (by decide) (fun _ => rfl) (fun x1_10 ls h1 hl => ?_)
  obtain ⟨n, h1⟩ := zlp_iff.mp h1
  exact J2 n x1_10 _ _ _ _  hZ (lv_sub hl [1, 0] rfl) h1
noncomputable def FX0_note_b55  (σ : zS) : Option (Int32 × zS) := some (0, σ)
noncomputable def FX0_note_L14 (k0 : Nat) (x1 : Int32) (x2 : Int32) (σ : zS) : Option ((Int32 × zS) ⊕ (Int32 × zS)) := zgd (kd 0 (σ k0 0).toNatClampNeg == 5) (zlet (σ k0 0).toNatClampNeg (fun q_1 => if (σ (q_1 + 7) 0) ≤ x2 then zinr (FX0_note_b55  σ) else zbd (FX7_at (k0 + 5) x2 σ) (fun r_3 σ_2 => zbd (FX7_put (k0 + 10) ((x1 * 8) + x2) r_3 σ_2) (fun _ σ_4 => zlet (x2 + 1) (fun x2_6 => some (.inl (x2_6, σ_4)))))))
noncomputable def FX0_note (k0 : Nat) (x1 : Int32) (σ : zS) : Option (Int32 × zS) := zbd (FX7_put (k0 + 9) x1 (σ k0 12) σ) (fun _ σ_7 => zlet 0 (fun x2_9 => zlp (fun q => FX0_note_L14 k0 x1 q.1 q.2) (x2_9, σ_7)))
set_option maxHeartbeats 4000000 in
set_option maxRecDepth 100000 in
theorem kX0_note (l : Launch) {V : zV} {σ : zS} {t0 : Int32 × zS} {k0 : Nat} {x1 : Int32} (hk0 : kd 0 k0 = 0) (h1 : FX0_note k0 x1 σ = some t0) : zMv l yX0_note cX0_note 3 1 22 0 V σ t0 [.ref (zad V k0), .int x1] := by
  refine zMv_of (by decide) (Nat.le_of_ble_eq_true rfl) ?_
  intro p e s m below meth c A C0 hr hlk hZ ls hl
  generalize ([.ref (zad V k0), .int x1] : List Value).toArray = args at C0 ⊢
  obtain ⟨Q, hQ⟩ : ∃ Q, Q = MQ below (zQv 0 V t0 A) args s 0 0 A := ⟨_, rfl⟩
  rw [← hQ]
  have hx := C0.1
  have hb := C0.2.1
  have hl : lv_has ls 3 [(0, .ref (zad V k0)), (1, .int x1)] := hl
  unfold FX0_note at h1
  have J55 : ∀  (σ : zS) (H : Heap) (locs : List Loc) (ls : Array Slot), zZ 0 V A σ s H locs → lv_has ls 3 [] → FX0_note_b55  σ = some t0 → W p l e (zrm 1 22) s m args below meth c H locs 0 0 Q (F0 m 55 ls []) := by
    intro  σ H locs ls  hZ hl h1
    unfold FX0_note_b55 at h1
    rw [hQ]; exact z_vret C0 hr hlk hZ h1 dX0_note_55
  have J14 : ∀ (n : Nat) (x2 : Int32) (σ : zS) (H : Heap) (locs : List Loc) (ls : Array Slot), zZ 0 V A σ s H locs → lv_has ls 3 [(0, .ref (zad V k0)), (1, .int x1), (2, .int x2)] → zit (fun q => FX0_note_L14 k0 x1 q.1 q.2) n (x2, σ) = some t0 → W p l e (zrm 1 22) s m args below meth c H locs 0 0 Q (F0 m 14 ls []) := by
    intro n
    induction n with
    | zero => intro x2 σ H locs ls  _ _ h1; cases h1
    | succ n ih14 =>
      intro x2 σ H locs ls  hZ hl h1
      obtain ⟨t1, h1, hz1⟩ := zit_1 h1
      replace h1 : FX0_note_L14 k0 x1 x2 σ = some t1 := h1
      unfold FX0_note_L14 at h1
      refine lv_iload_n hx hb dX0_note_14 rfl (lv_at hl 2 rfl) ?_
      refine lv_aload_n hx hb dX0_note_15 rfl (lv_at hl 0 rfl) ?_
      refine z_getm C0 hZ h1 hk0 fRX0_64 rfl dX0_note_16 (fun q_1 hq_1 h1 => ?_)
      refine z_getr C0 hZ hq_1 fRX0_122 rfl dX0_note_19 ?_
      refine z_geti C0 hZ (zkt5_1 hq_1) fRX0_126 rfl dX0_note_22 ?_
      refine z_ic_ge (tgt := 55) C0 h1 dX0_note_25 (by decide) (fun h1 => ?_) (fun h1 => ?_)
      · have h1 := zout h1 hz1
        exact J55  _ _ _ _  hZ (lv_sub hl [] rfl) h1
      refine lv_aload_n hx hb dX0_note_28 rfl (lv_at hl 0 rfl) ?_
      refine z_getr C0 hZ hk0 fRX0_61 rfl dX0_note_29 ?_
      refine lv_iload_n hx hb dX0_note_32 rfl (lv_at hl 1 rfl) ?_
      refine lv_bipush (v := 8) hx hb dX0_note_33 (by decide) ?_
      refine lv_imul hx hb dX0_note_35 ?_
      refine lv_iload_n hx hb dX0_note_36 rfl (lv_at hl 2 rfl) ?_
      refine lv_iadd hx hb dX0_note_37 ?_
      refine lv_aload_n hx hb dX0_note_38 rfl (lv_at hl 0 rfl) ?_
      refine z_getr C0 hZ hk0 fRX0_40 rfl dX0_note_39 ?_
      refine lv_iload_n hx hb dX0_note_42 rfl (lv_at hl 2 rfl) ?_
      refine z_cSi (As := [.ref (zad V (k0 + 5)), .int x2]) (rest := [.int ((x1 * 8) + x2), .ref (zad V (k0 + 10))]) C0 hZ h1 (fun _ hf => kX7_at l (zkt0_10 hk0) hf) mRX0_118 sX7_at rfl rfl hl.1 (Nat.le_of_ble_eq_true rfl) ⟨Nat.le_of_ble_eq_true rfl, Nat.le_of_ble_eq_true rfl⟩ dX0_note_43 ⟨Nat.le_of_ble_eq_true rfl, Nat.le_of_ble_eq_true rfl⟩ (fun r_3 σ_2 H locs h1 hZ => ?_)
      refine z_cSv (As := [.ref (zad V (k0 + 10)), .int ((x1 * 8) + x2), .int r_3]) (rest := []) C0 hZ h1 (fun _ hf => kX7_put l (zkt0_17 hk0) hf) mRX0_139 sX7_put rfl rfl hl.1 (Nat.le_of_ble_eq_true rfl) ⟨Nat.le_of_ble_eq_true rfl, Nat.le_of_ble_eq_true rfl⟩ dX0_note_46 ⟨Nat.le_of_ble_eq_true rfl, Nat.le_of_ble_eq_true rfl⟩ (fun _ σ_4 H locs h1 hZ => ?_)
      refine z_iinc (v := 1) C0 h1 hl (fun x2_6 => [(2, .int x2_6), (0, .ref (zad V k0)), (1, .int x1)]) dX0_note_49 (k := 2) rfl (by decide) (by decide) (fun _ => rfl) (fun x2_6 ls h1 hl => ?_)
      refine lv_goto (tgt := 14) hx hb dX0_note_52 (by decide) ?_
      exact ih14 x2_6 _ _ _ _  hZ (lv_sub hl [1, 2, 0] rfl) (zback h1 hz1)
  refine lv_aload_n hx hb dX0_note_0 rfl (lv_at hl 0 rfl) ?_
  refine z_getr C0 hZ hk0 fRX0_58 rfl dX0_note_1 ?_
  refine lv_iload_n hx hb dX0_note_4 rfl (lv_at hl 1 rfl) ?_
  refine lv_aload_n hx hb dX0_note_5 rfl (lv_at hl 0 rfl) ?_
  refine z_geti C0 hZ hk0 fRX0_46 rfl dX0_note_6 ?_
  refine z_cSv (As := [.ref (zad V (k0 + 9)), .int x1, .int (σ k0 12)]) (rest := []) C0 hZ h1 (fun _ hf => kX7_put l (zkt0_16 hk0) hf) mRX0_139 sX7_put rfl rfl hl.1 (Nat.le_of_ble_eq_true rfl) ⟨Nat.le_of_ble_eq_true rfl, Nat.le_of_ble_eq_true rfl⟩ dX0_note_9 ⟨Nat.le_of_ble_eq_true rfl, Nat.le_of_ble_eq_true rfl⟩ (fun _ σ_7 H locs h1 hZ => ?_)
  refine lv_iconst (v := 0) hx hb dX0_note_12 (by decide) ?_
  refine z_istore_n C0 h1 hl (fun x2_9 => [(2, .int x2_9), (0, .ref (zad V k0)), (1, .int x1)]) dX0_note_13 rfl (by decide) (fun _ => rfl) (fun x2_9 ls h1 hl => ?_)
  obtain ⟨n, h1⟩ := zlp_iff.mp h1
  exact J14 n x2_9 _ _ _ _  hZ (lv_sub hl [1, 2, 0] rfl) h1
noncomputable def FX0_close_b72  (σ : zS) : Option (Int32 × zS) := some (0, σ)
noncomputable def FX0_close_b66 (k0 : Nat) (x1 : Int32) (σ : zS) : Option ((Int32 × zS) ⊕ (Int32 × zS)) := zlet (x1 + 1) (fun x1_1 => some (.inl (x1_1, σ)))
noncomputable def FX0_close_b56 (k0 : Nat) (x1 : Int32) (x2 : Int32) (σ : zS) : Option ((Int32 × zS) ⊕ (Int32 × zS)) := if x2 = (-1) then FX0_close_b66 k0 x1 σ else zbd (FX0_putBack k0 x2 σ) (fun _ σ_2 => FX0_close_b66 k0 x1 σ_2)
noncomputable def FX0_close_L2 (k0 : Nat) (x1 : Int32) (σ : zS) : Option ((Int32 × zS) ⊕ (Int32 × zS)) := zgd (kd 0 (σ k0 0).toNatClampNeg == 5) (zlet (σ k0 0).toNatClampNeg (fun q_4 => if (σ (q_4 + 7) 0) ≤ x1 then zinr (FX0_close_b72  σ) else zbd (FX7_at (k0 + 5) x1 σ) (fun r_6 σ_5 => zlet r_6 (fun x2_7 => if x2_7 = (-1) then FX0_close_b56 k0 x1 x2_7 σ_5 else zgd (kd 0 (σ_5 k0 0).toNatClampNeg == 5) (zlet (σ_5 k0 0).toNatClampNeg (fun q_8 => zbd (FX7_at ((q_8 + 7) + 1) x1 σ_5) (fun r_10 σ_9 => if r_10 = 0 then zbd (FX0_tally k0 4 1 σ_9) (fun _ σ_11 => FX0_close_b66 k0 x1 σ_11) else FX0_close_b56 k0 x1 x2_7 σ_9)))))))
noncomputable def FX0_close (k0 : Nat) (σ : zS) : Option (Int32 × zS) := zlet 0 (fun x1_13 => zlp (fun q => FX0_close_L2 k0 q.1 q.2) (x1_13, σ))
set_option maxHeartbeats 4000000 in
set_option maxRecDepth 100000 in
theorem kX0_close (l : Launch) {V : zV} {σ : zS} {t0 : Int32 × zS} {k0 : Nat} (hk0 : kd 0 k0 = 0) (h1 : FX0_close k0 σ = some t0) : zMv l yX0_close cX0_close 3 2 44 0 V σ t0 [.ref (zad V k0)] := by
  refine zMv_of (by decide) (Nat.le_of_ble_eq_true rfl) ?_
  intro p e s m below meth c A C0 hr hlk hZ ls hl
  generalize ([.ref (zad V k0)] : List Value).toArray = args at C0 ⊢
  obtain ⟨Q, hQ⟩ : ∃ Q, Q = MQ below (zQv 0 V t0 A) args s 0 0 A := ⟨_, rfl⟩
  rw [← hQ]
  have hx := C0.1
  have hb := C0.2.1
  have hl : lv_has ls 3 [(0, .ref (zad V k0))] := hl
  unfold FX0_close at h1
  have J72 : ∀  (σ : zS) (H : Heap) (locs : List Loc) (ls : Array Slot), zZ 0 V A σ s H locs → lv_has ls 3 [] → FX0_close_b72  σ = some t0 → W p l e (zrm 2 44) s m args below meth c H locs 0 0 Q (F0 m 72 ls []) := by
    intro  σ H locs ls  hZ hl h1
    unfold FX0_close_b72 at h1
    rw [hQ]; exact z_vret C0 hr hlk hZ h1 dX0_close_72
  have J2 : ∀ (n : Nat) (x1 : Int32) (σ : zS) (H : Heap) (locs : List Loc) (ls : Array Slot), zZ 0 V A σ s H locs → lv_has ls 3 [(0, .ref (zad V k0)), (1, .int x1)] → zit (fun q => FX0_close_L2 k0 q.1 q.2) n (x1, σ) = some t0 → W p l e (zrm 2 44) s m args below meth c H locs 0 0 Q (F0 m 2 ls []) := by
    intro n
    induction n with
    | zero => intro x1 σ H locs ls  _ _ h1; cases h1
    | succ n ih2 =>
      intro x1 σ H locs ls  hZ hl h1
      obtain ⟨t1, h1, hz1⟩ := zit_1 h1
      have J66 : ∀ (x1 : Int32) (σ : zS) (H : Heap) (locs : List Loc) (ls : Array Slot), zZ 0 V A σ s H locs → lv_has ls 3 [(0, .ref (zad V k0)), (1, .int x1)] → FX0_close_b66 k0 x1 σ = some t1 → W p l e (zrm 2 44) s m args below meth c H locs 0 0 Q (F0 m 66 ls []) := by
        intro x1 σ H locs ls  hZ hl h1
        unfold FX0_close_b66 at h1
        refine z_iinc (v := 1) C0 h1 hl (fun x1_1 => [(1, .int x1_1), (0, .ref (zad V k0))]) dX0_close_66 (k := 1) rfl (by decide) (by decide) (fun _ => rfl) (fun x1_1 ls h1 hl => ?_)
        refine lv_goto (tgt := 2) hx hb dX0_close_69 (by decide) ?_
        exact ih2 x1_1 _ _ _ _  hZ (lv_sub hl [1, 0] rfl) (zback h1 hz1)
      have J56 : ∀ (x1 : Int32) (x2 : Int32) (σ : zS) (H : Heap) (locs : List Loc) (ls : Array Slot), zZ 0 V A σ s H locs → lv_has ls 3 [(0, .ref (zad V k0)), (1, .int x1), (2, .int x2)] → FX0_close_b56 k0 x1 x2 σ = some t1 → W p l e (zrm 2 44) s m args below meth c H locs 0 0 Q (F0 m 56 ls []) := by
        intro x1 x2 σ H locs ls  hZ hl h1
        unfold FX0_close_b56 at h1
        refine lv_iload_n hx hb dX0_close_56 rfl (lv_at hl 2 rfl) ?_
        refine lv_iconst (v := (-1)) hx hb dX0_close_57 (by decide) ?_
        refine z_ic_eq (tgt := 66) C0 h1 dX0_close_58 (by decide) (fun h1 => ?_) (fun h1 => ?_)
        · exact J66 x1 _ _ _ _  hZ (lv_sub hl [0, 1] rfl) h1
        refine lv_aload_n hx hb dX0_close_61 rfl (lv_at hl 0 rfl) ?_
        refine lv_iload_n hx hb dX0_close_62 rfl (lv_at hl 2 rfl) ?_
        refine z_cVv (As := [.int x2]) (rest := []) C0 hZ h1 (fun _ hf => kX0_putBack l hk0 hf) mRX0_162 vX0_putBack hk0 rfl rfl hl.1 (Nat.le_of_ble_eq_true rfl) ⟨Nat.le_of_ble_eq_true rfl, Nat.le_of_ble_eq_true rfl⟩ dX0_close_63 ⟨Nat.le_of_ble_eq_true rfl, Nat.le_of_ble_eq_true rfl⟩ (fun _ σ_2 H locs h1 hZ => ?_)
        exact J66 x1 _ _ _ _  hZ (lv_sub hl [0, 1] rfl) h1
      replace h1 : FX0_close_L2 k0 x1 σ = some t1 := h1
      unfold FX0_close_L2 at h1
      refine lv_iload_n hx hb dX0_close_2 rfl (lv_at hl 1 rfl) ?_
      refine lv_aload_n hx hb dX0_close_3 rfl (lv_at hl 0 rfl) ?_
      refine z_getm C0 hZ h1 hk0 fRX0_64 rfl dX0_close_4 (fun q_4 hq_4 h1 => ?_)
      refine z_getr C0 hZ hq_4 fRX0_122 rfl dX0_close_7 ?_
      refine z_geti C0 hZ (zkt5_1 hq_4) fRX0_126 rfl dX0_close_10 ?_
      refine z_ic_ge (tgt := 72) C0 h1 dX0_close_13 (by decide) (fun h1 => ?_) (fun h1 => ?_)
      · have h1 := zout h1 hz1
        exact J72  _ _ _ _  hZ (lv_sub hl [] rfl) h1
      refine lv_aload_n hx hb dX0_close_16 rfl (lv_at hl 0 rfl) ?_
      refine z_getr C0 hZ hk0 fRX0_40 rfl dX0_close_17 ?_
      refine lv_iload_n hx hb dX0_close_20 rfl (lv_at hl 1 rfl) ?_
      refine z_cSi (As := [.ref (zad V (k0 + 5)), .int x1]) (rest := []) C0 hZ h1 (fun _ hf => kX7_at l (zkt0_10 hk0) hf) mRX0_118 sX7_at rfl rfl hl.1 (Nat.le_of_ble_eq_true rfl) ⟨Nat.le_of_ble_eq_true rfl, Nat.le_of_ble_eq_true rfl⟩ dX0_close_21 ⟨Nat.le_of_ble_eq_true rfl, Nat.le_of_ble_eq_true rfl⟩ (fun r_6 σ_5 H locs h1 hZ => ?_)
      refine z_istore_n C0 h1 hl (fun x2_7 => [(2, .int x2_7), (0, .ref (zad V k0)), (1, .int x1)]) dX0_close_24 rfl (by decide) (fun _ => rfl) (fun x2_7 ls h1 hl => ?_)
      refine lv_iload_n hx hb dX0_close_25 rfl (lv_at hl 0 rfl) ?_
      refine lv_iconst (v := (-1)) hx hb dX0_close_26 (by decide) ?_
      refine z_ic_eq (tgt := 56) C0 h1 dX0_close_27 (by decide) (fun h1 => ?_) (fun h1 => ?_)
      · exact J56 x1 x2_7 _ _ _ _  hZ (lv_sub hl [1, 2, 0] rfl) h1
      refine lv_aload_n hx hb dX0_close_30 rfl (lv_at hl 1 rfl) ?_
      refine z_getm C0 hZ h1 hk0 fRX0_64 rfl dX0_close_31 (fun q_8 hq_8 h1 => ?_)
      refine z_getr C0 hZ hq_8 fRX0_122 rfl dX0_close_34 ?_
      refine z_getr C0 hZ (zkt5_1 hq_8) fRX0_149 rfl dX0_close_37 ?_
      refine lv_iload_n hx hb dX0_close_40 rfl (lv_at hl 2 rfl) ?_
      refine z_cSi (As := [.ref (zad V ((q_8 + 7) + 1)), .int x1]) (rest := []) C0 hZ h1 (fun _ hf => kX7_at l (zkt2_1 (zkt5_1 hq_8)) hf) mRX0_118 sX7_at rfl rfl hl.1 (Nat.le_of_ble_eq_true rfl) ⟨Nat.le_of_ble_eq_true rfl, Nat.le_of_ble_eq_true rfl⟩ dX0_close_41 ⟨Nat.le_of_ble_eq_true rfl, Nat.le_of_ble_eq_true rfl⟩ (fun r_10 σ_9 H locs h1 hZ => ?_)
      refine z_if_ne (tgt := 56) C0 h1 dX0_close_44 (by decide) (fun h1 => ?_) (fun h1 => ?_)
      · exact J56 x1 x2_7 _ _ _ _  hZ (lv_sub hl [1, 2, 0] rfl) h1
      refine lv_aload_n hx hb dX0_close_47 rfl (lv_at hl 1 rfl) ?_
      refine lv_iconst (v := 4) hx hb dX0_close_48 (by decide) ?_
      refine lv_iconst (v := 1) hx hb dX0_close_49 (by decide) ?_
      refine z_cVv (As := [.int 4, .int 1]) (rest := []) C0 hZ h1 (fun _ hf => kX0_tally l hk0 hf) mRX0_152 vX0_tally hk0 rfl rfl hl.1 (Nat.le_of_ble_eq_true rfl) ⟨Nat.le_of_ble_eq_true rfl, Nat.le_of_ble_eq_true rfl⟩ dX0_close_50 ⟨Nat.le_of_ble_eq_true rfl, Nat.le_of_ble_eq_true rfl⟩ (fun _ σ_11 H locs h1 hZ => ?_)
      refine lv_goto (tgt := 66) hx hb dX0_close_53 (by decide) ?_
      exact J66 x1 _ _ _ _  hZ (lv_sub hl [1, 2] rfl) h1
  refine lv_iconst (v := 0) hx hb dX0_close_0 (by decide) ?_
  refine z_istore_n C0 h1 hl (fun x1_13 => [(1, .int x1_13), (0, .ref (zad V k0))]) dX0_close_1 rfl (by decide) (fun _ => rfl) (fun x1_13 ls h1 hl => ?_)
  obtain ⟨n, h1⟩ := zlp_iff.mp h1
  exact J2 n x1_13 _ _ _ _  hZ (lv_sub hl [1, 0] rfl) h1
noncomputable def FX0_run_b133 (k0 : Nat) (σ : zS) : Option (Int32 × zS) := zbd (FX0_close k0 σ) (fun _ σ_1 => zbd (FX7_at (k0 + 8) 0 σ_1) (fun r_4 σ_3 => some (r_4, σ_3)))
noncomputable def FX0_run_L93 (k0 : Nat) (x2 : Int32) (σ : zS) : Option ((Int32 × zS) ⊕ (Int32 × zS)) := if 60 < x2 then zinr (FX0_run_b133 k0 σ) else zbd (FX0_walk k0 x2 σ) (fun _ σ_5 => zbd (FX0_follow k0 x2 σ_5) (fun _ σ_7 => zbd (FX0_notice k0 σ_7) (fun _ σ_9 => zbd (FX0_take k0 x2 σ_9) (fun _ σ_11 => zbd (FX0_loseSight k0 σ_11) (fun _ σ_13 => zbd (FX0_note k0 x2 σ_13) (fun _ σ_15 => zlet (x2 + 1) (fun x2_17 => some (.inl (x2_17, σ_15)))))))))
noncomputable def FX0_run_b88 (k0 : Nat) (q0 : Nat) (y1 : Int32) (σ : zS) : Option (Int32 × zS) := zlet (zup σ q0 12 y1) (fun σ_18 => zlet 1 (fun x2_19 => zlp (fun q => FX0_run_L93 k0 q.1 q.2) (x2_19, σ_18)))
noncomputable def FX0_run_b62 (k0 : Nat) (y0 : Int32) (σ : zS) : Option (Int32 × zS) := zlet y0 (fun x1_20 => if x1_20 = 0 then FX0_run_b88 k0 k0 (-1) σ else if (σ k0 1) = 3 then FX0_run_b88 k0 k0 (σ k0 2) σ else FX0_run_b88 k0 k0 0 σ)
noncomputable def FX0_run_b61 (k0 : Nat) (σ : zS) : Option (Int32 × zS) := FX0_run_b62 k0 0 σ
noncomputable def FX0_run (k0 : Nat) (σ : zS) : Option (Int32 × zS) := zbd (FX7_fillRow (k0 + 4) (-1) σ) (fun _ σ_21 => zbd (FX7_fillRow (k0 + 5) (-1) σ_21) (fun _ σ_23 => zbd (FX7_fillRow (k0 + 6) 0 σ_23) (fun _ σ_25 => zbd (FX7_fillRow (k0 + 8) 0 σ_25) (fun _ σ_27 => zlet (zup σ_27 k0 13 0) (fun σ_29 => if (σ_29 k0 1) = 0 then FX0_run_b61 k0 σ_29 else zgd (kd 0 (σ_29 k0 0).toNatClampNeg == 5) (zlet (σ_29 k0 0).toNatClampNeg (fun q_30 => if (σ_29 (q_30 + 1) 0) ≤ 0 then FX0_run_b61 k0 σ_29 else FX0_run_b62 k0 1 σ_29)))))))
set_option maxHeartbeats 4000000 in
set_option maxRecDepth 100000 in
theorem kX0_run (l : Launch) {V : zV} {σ : zS} {t0 : Int32 × zS} {k0 : Nat} (hk0 : kd 0 k0 = 0) (h1 : FX0_run k0 σ = some t0) : zMi l yX0_run cX0_run 3 (some .int) 5 117 0 V σ t0 [.ref (zad V k0)] := by
  refine zMi_of (by decide) (Nat.le_of_ble_eq_true rfl) ?_
  intro p e s m below meth c A C0 hr hlk hZ ls hl
  generalize ([.ref (zad V k0)] : List Value).toArray = args at C0 ⊢
  obtain ⟨Q, hQ⟩ : ∃ Q, Q = MQ below (zQi 0 V t0 A) args s 0 0 A := ⟨_, rfl⟩
  rw [← hQ]
  have hx := C0.1
  have hb := C0.2.1
  have hl : lv_has ls 3 [(0, .ref (zad V k0))] := hl
  unfold FX0_run at h1
  have J133 : ∀  (σ : zS) (H : Heap) (locs : List Loc) (ls : Array Slot), zZ 0 V A σ s H locs → lv_has ls 3 [(0, .ref (zad V k0))] → FX0_run_b133 k0 σ = some t0 → W p l e (zrm 5 117) s m args below meth c H locs 0 0 Q (F0 m 133 ls []) := by
    intro  σ H locs ls  hZ hl h1
    unfold FX0_run_b133 at h1
    refine lv_aload_n hx hb dX0_run_133 rfl (lv_at hl 0 rfl) ?_
    refine z_cVv (As := []) (rest := []) C0 hZ h1 (fun _ hf => kX0_close l hk0 hf) mRX0_115 vX0_close hk0 rfl rfl hl.1 (Nat.le_of_ble_eq_true rfl) ⟨Nat.le_of_ble_eq_true rfl, Nat.le_of_ble_eq_true rfl⟩ dX0_run_134 ⟨Nat.le_of_ble_eq_true rfl, Nat.le_of_ble_eq_true rfl⟩ (fun _ σ_1 H locs h1 hZ => ?_)
    refine lv_aload_n hx hb dX0_run_137 rfl (lv_at hl 0 rfl) ?_
    refine z_getr C0 hZ hk0 fRX0_55 rfl dX0_run_138 ?_
    refine lv_iconst (v := 0) hx hb dX0_run_141 (by decide) ?_
    refine z_cSi (As := [.ref (zad V (k0 + 8)), .int 0]) (rest := []) C0 hZ h1 (fun _ hf => kX7_at l (zkt0_15 hk0) hf) mRX0_118 sX7_at rfl rfl hl.1 (Nat.le_of_ble_eq_true rfl) ⟨Nat.le_of_ble_eq_true rfl, Nat.le_of_ble_eq_true rfl⟩ dX0_run_142 ⟨Nat.le_of_ble_eq_true rfl, Nat.le_of_ble_eq_true rfl⟩ (fun r_4 σ_3 H locs h1 hZ => ?_)
    rw [hQ]; exact z_iret C0 hr hlk hZ h1 dX0_run_145
  have J93 : ∀ (n : Nat) (x2 : Int32) (σ : zS) (H : Heap) (locs : List Loc) (ls : Array Slot), zZ 0 V A σ s H locs → lv_has ls 3 [(0, .ref (zad V k0)), (2, .int x2)] → zit (fun q => FX0_run_L93 k0 q.1 q.2) n (x2, σ) = some t0 → W p l e (zrm 5 117) s m args below meth c H locs 0 0 Q (F0 m 93 ls []) := by
    intro n
    induction n with
    | zero => intro x2 σ H locs ls  _ _ h1; cases h1
    | succ n ih93 =>
      intro x2 σ H locs ls  hZ hl h1
      obtain ⟨t1, h1, hz1⟩ := zit_1 h1
      replace h1 : FX0_run_L93 k0 x2 σ = some t1 := h1
      unfold FX0_run_L93 at h1
      refine lv_iload_n hx hb dX0_run_93 rfl (lv_at hl 1 rfl) ?_
      refine lv_bipush (v := 60) hx hb dX0_run_94 (by decide) ?_
      refine z_ic_gt (tgt := 133) C0 h1 dX0_run_96 (by decide) (fun h1 => ?_) (fun h1 => ?_)
      · have h1 := zout h1 hz1
        exact J133  _ _ _ _  hZ (lv_sub hl [0] rfl) h1
      refine lv_aload_n hx hb dX0_run_99 rfl (lv_at hl 0 rfl) ?_
      refine lv_iload_n hx hb dX0_run_100 rfl (lv_at hl 1 rfl) ?_
      refine z_cVv (As := [.int x2]) (rest := []) C0 hZ h1 (fun _ hf => kX0_walk l hk0 hf) mRX0_96 vX0_walk hk0 rfl rfl hl.1 (Nat.le_of_ble_eq_true rfl) ⟨Nat.le_of_ble_eq_true rfl, Nat.le_of_ble_eq_true rfl⟩ dX0_run_101 ⟨Nat.le_of_ble_eq_true rfl, Nat.le_of_ble_eq_true rfl⟩ (fun _ σ_5 H locs h1 hZ => ?_)
      refine lv_aload_n hx hb dX0_run_104 rfl (lv_at hl 0 rfl) ?_
      refine lv_iload_n hx hb dX0_run_105 rfl (lv_at hl 1 rfl) ?_
      refine z_cVv (As := [.int x2]) (rest := []) C0 hZ h1 (fun _ hf => kX0_follow l hk0 hf) mRX0_100 vX0_follow hk0 rfl rfl hl.1 (Nat.le_of_ble_eq_true rfl) ⟨Nat.le_of_ble_eq_true rfl, Nat.le_of_ble_eq_true rfl⟩ dX0_run_106 ⟨Nat.le_of_ble_eq_true rfl, Nat.le_of_ble_eq_true rfl⟩ (fun _ σ_7 H locs h1 hZ => ?_)
      refine lv_aload_n hx hb dX0_run_109 rfl (lv_at hl 0 rfl) ?_
      refine z_cVv (As := []) (rest := []) C0 hZ h1 (fun _ hf => kX0_notice l hk0 hf) mRX0_103 vX0_notice hk0 rfl rfl hl.1 (Nat.le_of_ble_eq_true rfl) ⟨Nat.le_of_ble_eq_true rfl, Nat.le_of_ble_eq_true rfl⟩ dX0_run_110 ⟨Nat.le_of_ble_eq_true rfl, Nat.le_of_ble_eq_true rfl⟩ (fun _ σ_9 H locs h1 hZ => ?_)
      refine lv_aload_n hx hb dX0_run_113 rfl (lv_at hl 0 rfl) ?_
      refine lv_iload_n hx hb dX0_run_114 rfl (lv_at hl 1 rfl) ?_
      refine z_cVv (As := [.int x2]) (rest := []) C0 hZ h1 (fun _ hf => kX0_take l hk0 hf) mRX0_106 vX0_take hk0 rfl rfl hl.1 (Nat.le_of_ble_eq_true rfl) ⟨Nat.le_of_ble_eq_true rfl, Nat.le_of_ble_eq_true rfl⟩ dX0_run_115 ⟨Nat.le_of_ble_eq_true rfl, Nat.le_of_ble_eq_true rfl⟩ (fun _ σ_11 H locs h1 hZ => ?_)
      refine lv_aload_n hx hb dX0_run_118 rfl (lv_at hl 0 rfl) ?_
      refine z_cVv (As := []) (rest := []) C0 hZ h1 (fun _ hf => kX0_loseSight l hk0 hf) mRX0_109 vX0_loseSight hk0 rfl rfl hl.1 (Nat.le_of_ble_eq_true rfl) ⟨Nat.le_of_ble_eq_true rfl, Nat.le_of_ble_eq_true rfl⟩ dX0_run_119 ⟨Nat.le_of_ble_eq_true rfl, Nat.le_of_ble_eq_true rfl⟩ (fun _ σ_13 H locs h1 hZ => ?_)
      refine lv_aload_n hx hb dX0_run_122 rfl (lv_at hl 0 rfl) ?_
      refine lv_iload_n hx hb dX0_run_123 rfl (lv_at hl 1 rfl) ?_
      refine z_cVv (As := [.int x2]) (rest := []) C0 hZ h1 (fun _ hf => kX0_note l hk0 hf) mRX0_112 vX0_note hk0 rfl rfl hl.1 (Nat.le_of_ble_eq_true rfl) ⟨Nat.le_of_ble_eq_true rfl, Nat.le_of_ble_eq_true rfl⟩ dX0_run_124 ⟨Nat.le_of_ble_eq_true rfl, Nat.le_of_ble_eq_true rfl⟩ (fun _ σ_15 H locs h1 hZ => ?_)
      refine z_iinc (v := 1) C0 h1 hl (fun x2_17 => [(2, .int x2_17), (0, .ref (zad V k0))]) dX0_run_127 (k := 1) rfl (by decide) (by decide) (fun _ => rfl) (fun x2_17 ls h1 hl => ?_)
      refine lv_goto (tgt := 93) hx hb dX0_run_130 (by decide) ?_
      exact ih93 x2_17 _ _ _ _  hZ (lv_sub hl [1, 0] rfl) (zback h1 hz1)
  have J88 : ∀ (q0 : Nat) (y1 : Int32) (σ : zS) (H : Heap) (locs : List Loc) (ls : Array Slot), kd 0 q0 = 0 → zZ 0 V A σ s H locs → lv_has ls 3 [(0, .ref (zad V k0))] → FX0_run_b88 k0 q0 y1 σ = some t0 → W p l e (zrm 5 117) s m args below meth c H locs 0 0 Q (F0 m 88 ls [.int y1, .ref (zad V q0)]) := by
    intro q0 y1 σ H locs ls hq0 hZ hl h1
    unfold FX0_run_b88 at h1
    refine z_puti C0 hZ h1 hq0 fRX0_46 rfl tyX0_ok nmX0 rfl rfl rfl dX0_run_88 (fun σ_18 H locs h1 hZ => ?_)
    refine lv_iconst (v := 1) hx hb dX0_run_91 (by decide) ?_
    refine z_istore_n C0 h1 hl (fun x2_19 => [(2, .int x2_19), (0, .ref (zad V k0))]) dX0_run_92 rfl (by decide) (fun _ => rfl) (fun x2_19 ls h1 hl => ?_)
    obtain ⟨n, h1⟩ := zlp_iff.mp h1
    exact J93 n x2_19 _ _ _ _  hZ (lv_sub hl [1, 0] rfl) h1
  have J62 : ∀ (y0 : Int32) (σ : zS) (H : Heap) (locs : List Loc) (ls : Array Slot), zZ 0 V A σ s H locs → lv_has ls 3 [(0, .ref (zad V k0))] → FX0_run_b62 k0 y0 σ = some t0 → W p l e (zrm 5 117) s m args below meth c H locs 0 0 Q (F0 m 62 ls [.int y0]) := by
    intro y0 σ H locs ls  hZ hl h1
    unfold FX0_run_b62 at h1
    refine z_istore_n C0 h1 hl (fun x1_20 => [(1, .int x1_20), (0, .ref (zad V k0))]) dX0_run_62 rfl (by decide) (fun _ => rfl) (fun x1_20 ls h1 hl => ?_)
    refine lv_aload_n hx hb dX0_run_63 rfl (lv_at hl 1 rfl) ?_
    refine lv_iload_n hx hb dX0_run_64 rfl (lv_at hl 0 rfl) ?_
    refine z_if_ne (tgt := 72) C0 h1 dX0_run_65 (by decide) (fun h1 => ?_) (fun h1 => ?_)
    · refine lv_aload_n hx hb dX0_run_72 rfl (lv_at hl 1 rfl) ?_
      refine z_geti C0 hZ hk0 fRX0_9 rfl dX0_run_73 ?_
      refine lv_iconst (v := 3) hx hb dX0_run_76 (by decide) ?_
      refine z_ic_ne (tgt := 87) C0 h1 dX0_run_77 (by decide) (fun h1 => ?_) (fun h1 => ?_)
      · refine lv_iconst (v := 0) hx hb dX0_run_87 (by decide) ?_
        exact J88 k0 0 _ _ _ _ hk0 hZ (lv_sub hl [1] rfl) h1
      refine lv_aload_n hx hb dX0_run_80 rfl (lv_at hl 1 rfl) ?_
      refine z_geti C0 hZ hk0 fRX0_15 rfl dX0_run_81 ?_
      refine lv_goto (tgt := 88) hx hb dX0_run_84 (by decide) ?_
      exact J88 k0 (σ k0 2) _ _ _ _ hk0 hZ (lv_sub hl [1] rfl) h1
    refine lv_iconst (v := (-1)) hx hb dX0_run_68 (by decide) ?_
    refine lv_goto (tgt := 88) hx hb dX0_run_69 (by decide) ?_
    exact J88 k0 (-1) _ _ _ _ hk0 hZ (lv_sub hl [1] rfl) h1
  have J61 : ∀  (σ : zS) (H : Heap) (locs : List Loc) (ls : Array Slot), zZ 0 V A σ s H locs → lv_has ls 3 [(0, .ref (zad V k0))] → FX0_run_b61 k0 σ = some t0 → W p l e (zrm 5 117) s m args below meth c H locs 0 0 Q (F0 m 61 ls []) := by
    intro  σ H locs ls  hZ hl h1
    unfold FX0_run_b61 at h1
    refine lv_iconst (v := 0) hx hb dX0_run_61 (by decide) ?_
    exact J62 0 _ _ _ _  hZ (lv_sub hl [0] rfl) h1
  refine lv_aload_n hx hb dX0_run_0 rfl (lv_at hl 0 rfl) ?_
  refine z_getr C0 hZ hk0 fRX0_37 rfl dX0_run_1 ?_
  refine lv_iconst (v := (-1)) hx hb dX0_run_4 (by decide) ?_
  refine z_cSv (As := [.ref (zad V (k0 + 4)), .int (-1)]) (rest := []) C0 hZ h1 (fun _ hf => kX7_fillRow l (zkt0_9 hk0) hf) mRX0_89 sX7_fillRow rfl rfl hl.1 (Nat.le_of_ble_eq_true rfl) ⟨Nat.le_of_ble_eq_true rfl, Nat.le_of_ble_eq_true rfl⟩ dX0_run_5 ⟨Nat.le_of_ble_eq_true rfl, Nat.le_of_ble_eq_true rfl⟩ (fun _ σ_21 H locs h1 hZ => ?_)
  refine lv_aload_n hx hb dX0_run_8 rfl (lv_at hl 0 rfl) ?_
  refine z_getr C0 hZ hk0 fRX0_40 rfl dX0_run_9 ?_
  refine lv_iconst (v := (-1)) hx hb dX0_run_12 (by decide) ?_
  refine z_cSv (As := [.ref (zad V (k0 + 5)), .int (-1)]) (rest := []) C0 hZ h1 (fun _ hf => kX7_fillRow l (zkt0_10 hk0) hf) mRX0_89 sX7_fillRow rfl rfl hl.1 (Nat.le_of_ble_eq_true rfl) ⟨Nat.le_of_ble_eq_true rfl, Nat.le_of_ble_eq_true rfl⟩ dX0_run_13 ⟨Nat.le_of_ble_eq_true rfl, Nat.le_of_ble_eq_true rfl⟩ (fun _ σ_23 H locs h1 hZ => ?_)
  refine lv_aload_n hx hb dX0_run_16 rfl (lv_at hl 0 rfl) ?_
  refine z_getr C0 hZ hk0 fRX0_43 rfl dX0_run_17 ?_
  refine lv_iconst (v := 0) hx hb dX0_run_20 (by decide) ?_
  refine z_cSv (As := [.ref (zad V (k0 + 6)), .int 0]) (rest := []) C0 hZ h1 (fun _ hf => kX7_fillRow l (zkt0_11 hk0) hf) mRX0_89 sX7_fillRow rfl rfl hl.1 (Nat.le_of_ble_eq_true rfl) ⟨Nat.le_of_ble_eq_true rfl, Nat.le_of_ble_eq_true rfl⟩ dX0_run_21 ⟨Nat.le_of_ble_eq_true rfl, Nat.le_of_ble_eq_true rfl⟩ (fun _ σ_25 H locs h1 hZ => ?_)
  refine lv_aload_n hx hb dX0_run_24 rfl (lv_at hl 0 rfl) ?_
  refine z_getr C0 hZ hk0 fRX0_55 rfl dX0_run_25 ?_
  refine lv_iconst (v := 0) hx hb dX0_run_28 (by decide) ?_
  refine z_cSv (As := [.ref (zad V (k0 + 8)), .int 0]) (rest := []) C0 hZ h1 (fun _ hf => kX7_fillRow l (zkt0_15 hk0) hf) mRX0_89 sX7_fillRow rfl rfl hl.1 (Nat.le_of_ble_eq_true rfl) ⟨Nat.le_of_ble_eq_true rfl, Nat.le_of_ble_eq_true rfl⟩ dX0_run_29 ⟨Nat.le_of_ble_eq_true rfl, Nat.le_of_ble_eq_true rfl⟩ (fun _ σ_27 H locs h1 hZ => ?_)
  refine lv_aload_n hx hb dX0_run_32 rfl (lv_at hl 0 rfl) ?_
  refine lv_iconst (v := 0) hx hb dX0_run_33 (by decide) ?_
  refine z_puti C0 hZ h1 hk0 fRX0_49 rfl tyX0_ok nmX0 rfl rfl rfl dX0_run_34 (fun σ_29 H locs h1 hZ => ?_)
  refine lv_aload_n hx hb dX0_run_37 rfl (lv_at hl 0 rfl) ?_
  refine z_geti C0 hZ hk0 fRX0_9 rfl dX0_run_38 ?_
  refine z_if_eq (tgt := 61) C0 h1 dX0_run_41 (by decide) (fun h1 => ?_) (fun h1 => ?_)
  · exact J61  _ _ _ _  hZ (lv_sub hl [0] rfl) h1
  refine lv_aload_n hx hb dX0_run_44 rfl (lv_at hl 0 rfl) ?_
  refine z_getm C0 hZ h1 hk0 fRX0_64 rfl dX0_run_45 (fun q_30 hq_30 h1 => ?_)
  refine z_getr C0 hZ hq_30 fRX0_74 rfl dX0_run_48 ?_
  refine z_geti C0 hZ (zkt5_0 hq_30) fRX0_93 rfl dX0_run_51 ?_
  refine z_if_le (tgt := 61) C0 h1 dX0_run_54 (by decide) (fun h1 => ?_) (fun h1 => ?_)
  · exact J61  _ _ _ _  hZ (lv_sub hl [0] rfl) h1
  refine lv_iconst (v := 1) hx hb dX0_run_57 (by decide) ?_
  refine lv_goto (tgt := 62) hx hb dX0_run_58 (by decide) ?_
  exact J62 1 _ _ _ _  hZ (lv_sub hl [0] rfl) h1
noncomputable def FX1_clear (k0 : Nat) (σ : zS) : Option (Int32 × zS) := zlet (zup σ k0 0 0) (fun σ_1 => zlet (zup σ_1 k0 1 0) (fun σ_2 => zlet (zup σ_2 k0 2 0) (fun σ_3 => zbd (FX7_fillRow (k0 + 3) 0 σ_3) (fun _ σ_4 => zbd (FX7_fillRow (k0 + 4) 0 σ_4) (fun _ σ_6 => some (0, σ_6))))))
set_option maxHeartbeats 4000000 in
set_option maxRecDepth 100000 in
theorem kX1_clear (l : Launch) {V : zV} {σ : zS} {t0 : Int32 × zS} {k0 : Nat} (hk0 : kd 0 k0 = 1) (h1 : FX1_clear k0 σ = some t0) : zMv l yX1_clear cX1_clear 1 1 22 0 V σ t0 [.ref (zad V k0)] := by
  refine zMv_of (by decide) (Nat.le_of_ble_eq_true rfl) ?_
  intro p e s m below meth c A C0 hr hlk hZ ls hl
  generalize ([.ref (zad V k0)] : List Value).toArray = args at C0 ⊢
  obtain ⟨Q, hQ⟩ : ∃ Q, Q = MQ below (zQv 0 V t0 A) args s 0 0 A := ⟨_, rfl⟩
  rw [← hQ]
  have hx := C0.1
  have hb := C0.2.1
  have hl : lv_has ls 1 [(0, .ref (zad V k0))] := hl
  unfold FX1_clear at h1
  refine lv_aload_n hx hb dX1_clear_0 rfl (lv_at hl 0 rfl) ?_
  refine lv_iconst (v := 0) hx hb dX1_clear_1 (by decide) ?_
  refine z_puti C0 hZ h1 hk0 fRX1_9 rfl tyX1_ok nmX1 rfl rfl rfl dX1_clear_2 (fun σ_1 H locs h1 hZ => ?_)
  refine lv_aload_n hx hb dX1_clear_5 rfl (lv_at hl 0 rfl) ?_
  refine lv_iconst (v := 0) hx hb dX1_clear_6 (by decide) ?_
  refine z_puti C0 hZ h1 hk0 fRX1_15 rfl tyX1_ok nmX1 rfl rfl rfl dX1_clear_7 (fun σ_2 H locs h1 hZ => ?_)
  refine lv_aload_n hx hb dX1_clear_10 rfl (lv_at hl 0 rfl) ?_
  refine lv_iconst (v := 0) hx hb dX1_clear_11 (by decide) ?_
  refine z_puti C0 hZ h1 hk0 fRX1_18 rfl tyX1_ok nmX1 rfl rfl rfl dX1_clear_12 (fun σ_3 H locs h1 hZ => ?_)
  refine lv_aload_n hx hb dX1_clear_15 rfl (lv_at hl 0 rfl) ?_
  refine z_getr C0 hZ hk0 fRX1_28 rfl dX1_clear_16 ?_
  refine lv_iconst (v := 0) hx hb dX1_clear_19 (by decide) ?_
  refine z_cSv (As := [.ref (zad V (k0 + 3)), .int 0]) (rest := []) C0 hZ h1 (fun _ hf => kX7_fillRow l (zkt1_5 hk0) hf) mRX1_37 sX7_fillRow rfl rfl hl.1 (Nat.le_of_ble_eq_true rfl) ⟨Nat.le_of_ble_eq_true rfl, Nat.le_of_ble_eq_true rfl⟩ dX1_clear_20 ⟨Nat.le_of_ble_eq_true rfl, Nat.le_of_ble_eq_true rfl⟩ (fun _ σ_4 H locs h1 hZ => ?_)
  refine lv_aload_n hx hb dX1_clear_23 rfl (lv_at hl 0 rfl) ?_
  refine z_getr C0 hZ hk0 fRX1_31 rfl dX1_clear_24 ?_
  refine lv_iconst (v := 0) hx hb dX1_clear_27 (by decide) ?_
  refine z_cSv (As := [.ref (zad V (k0 + 4)), .int 0]) (rest := []) C0 hZ h1 (fun _ hf => kX7_fillRow l (zkt1_6 hk0) hf) mRX1_37 sX7_fillRow rfl rfl hl.1 (Nat.le_of_ble_eq_true rfl) ⟨Nat.le_of_ble_eq_true rfl, Nat.le_of_ble_eq_true rfl⟩ dX1_clear_28 ⟨Nat.le_of_ble_eq_true rfl, Nat.le_of_ble_eq_true rfl⟩ (fun _ σ_6 H locs h1 hZ => ?_)
  rw [hQ]; exact z_vret C0 hr hlk hZ h1 dX1_clear_31
noncomputable def FX1_hasAisle_b17 (y0 : Int32) (σ : zS) : Option (Int32 × zS) := zgd (y0 == 0 || y0 == 1) (some (y0, σ))
noncomputable def FX1_hasAisle_b16  (σ : zS) : Option (Int32 × zS) := FX1_hasAisle_b17 0 σ
noncomputable def FX1_hasAisle (k0 : Nat) (x1 : Int32) (σ : zS) : Option (Int32 × zS) := if x1 < 0 then FX1_hasAisle_b16  σ else if (σ k0 0) ≤ x1 then FX1_hasAisle_b16  σ else FX1_hasAisle_b17 1 σ
set_option maxHeartbeats 4000000 in
set_option maxRecDepth 100000 in
theorem kX1_hasAisle (l : Launch) {V : zV} {σ : zS} {t0 : Int32 × zS} {k0 : Nat} {x1 : Int32} (hk0 : kd 0 k0 = 1) (h1 : FX1_hasAisle k0 x1 σ = some t0) : zMi l yX1_hasAisle cX1_hasAisle 2 (some .boolean) 0 0 0 V σ t0 [.ref (zad V k0), .int x1] := by
  refine zMi_of (by decide) (Nat.le_of_ble_eq_true rfl) ?_
  intro p e s m below meth c A C0 hr hlk hZ ls hl
  generalize ([.ref (zad V k0), .int x1] : List Value).toArray = args at C0 ⊢
  obtain ⟨Q, hQ⟩ : ∃ Q, Q = MQ below (zQi 0 V t0 A) args s 0 0 A := ⟨_, rfl⟩
  rw [← hQ]
  have hx := C0.1
  have hb := C0.2.1
  have hl : lv_has ls 2 [(0, .ref (zad V k0)), (1, .int x1)] := hl
  unfold FX1_hasAisle at h1
  have J17 : ∀ (y0 : Int32) (σ : zS) (H : Heap) (locs : List Loc) (ls : Array Slot), zZ 0 V A σ s H locs → lv_has ls 2 [] → FX1_hasAisle_b17 y0 σ = some t0 → W p l e (zrm 0 0) s m args below meth c H locs 0 0 Q (F0 m 17 ls [.int y0]) := by
    intro y0 σ H locs ls  hZ hl h1
    unfold FX1_hasAisle_b17 at h1
    rw [hQ]; exact z_zret C0 hr hlk hZ h1 dX1_hasAisle_17
  have J16 : ∀  (σ : zS) (H : Heap) (locs : List Loc) (ls : Array Slot), zZ 0 V A σ s H locs → lv_has ls 2 [] → FX1_hasAisle_b16  σ = some t0 → W p l e (zrm 0 0) s m args below meth c H locs 0 0 Q (F0 m 16 ls []) := by
    intro  σ H locs ls  hZ hl h1
    unfold FX1_hasAisle_b16 at h1
    refine lv_iconst (v := 0) hx hb dX1_hasAisle_16 (by decide) ?_
    exact J17 0 _ _ _ _  hZ (lv_sub hl [] rfl) h1
  refine lv_iload_n hx hb dX1_hasAisle_0 rfl (lv_at hl 1 rfl) ?_
  refine z_if_lt (tgt := 16) C0 h1 dX1_hasAisle_1 (by decide) (fun h1 => ?_) (fun h1 => ?_)
  · exact J16  _ _ _ _  hZ (lv_sub hl [] rfl) h1
  refine lv_iload_n hx hb dX1_hasAisle_4 rfl (lv_at hl 1 rfl) ?_
  refine lv_aload_n hx hb dX1_hasAisle_5 rfl (lv_at hl 0 rfl) ?_
  refine z_geti C0 hZ hk0 fRX1_9 rfl dX1_hasAisle_6 ?_
  refine z_ic_ge (tgt := 16) C0 h1 dX1_hasAisle_9 (by decide) (fun h1 => ?_) (fun h1 => ?_)
  · exact J16  _ _ _ _  hZ (lv_sub hl [] rfl) h1
  refine lv_iconst (v := 1) hx hb dX1_hasAisle_12 (by decide) ?_
  refine lv_goto (tgt := 17) hx hb dX1_hasAisle_13 (by decide) ?_
  exact J17 1 _ _ _ _  hZ (lv_sub hl [] rfl) h1
