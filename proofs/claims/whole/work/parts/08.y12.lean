noncomputable def FX8_valueBy_b145 (k0 : Nat) (σ : zS) : Option (Int32 × zS) := zin (ln 1 (k0 + 21)) 0 (some ((σ (k0 + 21) (Int32.toNatClampNeg 0)), σ))
noncomputable def FX8_valueBy_b139 (k0 : Nat) (x1 : Int32) (x2 : Int32) (x3 : Int32) (σ : zS) : Option ((Int32 × Int32 × zS) ⊕ (Int32 × zS)) := zlet (x3 + 1) (fun x3_1 => some (.inl (x2, x3_1, σ)))
noncomputable def FX8_valueBy_b105 (k0 : Nat) (x1 : Int32) (x2 : Int32) (x3 : Int32) (q0 : Nat) (y1 : Int32) (y2 : Int32) (σ : zS) : Option ((Int32 × Int32 × zS) ⊕ (Int32 × zS)) := zin (ln 1 q0) y1 (zlet (zup σ q0 (Int32.toNatClampNeg y1) y2) (fun σ_2 => FX8_valueBy_b139 k0 x1 x2 x3 σ_2))
noncomputable def FX8_valueBy_b68 (k0 : Nat) (x1 : Int32) (x2 : Int32) (x3 : Int32) (q0 : Nat) (y1 : Int32) (y2 : Int32) (σ : zS) : Option ((Int32 × Int32 × zS) ⊕ (Int32 × zS)) := zin (ln 1 q0) y1 (zlet (zup σ q0 (Int32.toNatClampNeg y1) y2) (fun σ_3 => zlet (x2 + 1) (fun x2_4 => FX8_valueBy_b139 k0 x1 x2_4 x3 σ_3)))
noncomputable def FX8_valueBy_L19 (k0 : Nat) (x1 : Int32) (x2 : Int32) (x3 : Int32) (σ : zS) : Option ((Int32 × Int32 × zS) ⊕ (Int32 × zS)) := zin (ln 1 (k0 + 14)) x1 (if (σ (k0 + 14) (Int32.toNatClampNeg x1)) ≤ x3 then zinr (FX8_valueBy_b145 k0 σ) else zin (ln 1 (k0 + 15)) x3 (zlet (σ (k0 + 15) (Int32.toNatClampNeg x3)) (fun x4_5 => if x4_5 ≤ (-20) then if x4_5 = (-28) then zin (ln 1 (k0 + 21)) (x2 - 1) (if (σ (k0 + 21) (Int32.toNatClampNeg (x2 - 1))) = 0 then FX8_valueBy_b105 k0 x1 x2 x3 (k0 + 21) (x2 - 1) 1 σ else FX8_valueBy_b105 k0 x1 x2 x3 (k0 + 21) (x2 - 1) 0 σ) else zlet (x2 + (-1)) (fun x2_6 => zin (ln 1 (k0 + 21)) (x2_6 - 1) (zin (ln 1 (k0 + 21)) x2_6 (zbd (FX8_reckon x4_5 (σ (k0 + 21) (Int32.toNatClampNeg (x2_6 - 1))) (σ (k0 + 21) (Int32.toNatClampNeg x2_6)) σ) (fun r_8 σ_7 => zin (ln 1 (k0 + 21)) (x2_6 - 1) (zlet (zup σ_7 (k0 + 21) (Int32.toNatClampNeg (x2_6 - 1)) r_8) (fun σ_9 => FX8_valueBy_b139 k0 x1 x2_6 x3 σ_9)))))) else if x4_5 < 0 then zin (ln 1 (k0 + 20)) ((-1) - x4_5) (FX8_valueBy_b68 k0 x1 x2 x3 (k0 + 21) x2 (σ (k0 + 20) (Int32.toNatClampNeg ((-1) - x4_5))) σ) else FX8_valueBy_b68 k0 x1 x2 x3 (k0 + 21) x2 x4_5 σ)))
noncomputable def FX8_valueBy_b18 (k0 : Nat) (x1 : Int32) (x2 : Int32) (y0 : Int32) (σ : zS) : Option (Int32 × zS) := zlet y0 (fun x3_10 => zlp (fun q => FX8_valueBy_L19 k0 x1 q.1 q.2.1 q.2.2) (x2, x3_10, σ))
noncomputable def FX8_valueBy (k0 : Nat) (x1 : Int32) (σ : zS) : Option (Int32 × zS) := zlet 0 (fun x2_11 => if x1 = 0 then FX8_valueBy_b18 k0 x1 x2_11 0 σ else zin (ln 1 (k0 + 14)) (x1 - 1) (FX8_valueBy_b18 k0 x1 x2_11 (σ (k0 + 14) (Int32.toNatClampNeg (x1 - 1))) σ))
set_option maxHeartbeats 4000000 in
set_option maxRecDepth 100000 in
theorem kX8_valueBy (l : Launch) {V : zV} {σ : zS} {t0 : Int32 × zS} {k0 : Nat} {x1 : Int32} (hk0 : kd 1 k0 = 8) (h1 : FX8_valueBy k0 x1 σ = some t0) : zMi l yX8_valueBy cX8_valueBy 5 (some .int) 1 22 1 V σ t0 [.ref (zad V k0), .int x1] := by
  refine zMi_of (by decide) (Nat.le_of_ble_eq_true rfl) ?_
  intro p e s m below meth c A C0 hr hlk hZ ls hl
  generalize ([.ref (zad V k0), .int x1] : List Value).toArray = args at C0 ⊢
  obtain ⟨Q, hQ⟩ : ∃ Q, Q = MQ below (zQi 1 V t0 A) args s 0 0 A := ⟨_, rfl⟩
  rw [← hQ]
  have hx := C0.1
  have hb := C0.2.1
  have hl : lv_has ls 5 [(0, .ref (zad V k0)), (1, .int x1)] := hl
  unfold FX8_valueBy at h1
  have J145 : ∀  (σ : zS) (H : Heap) (locs : List Loc) (ls : Array Slot), zZ 1 V A σ s H locs → lv_has ls 5 [(0, .ref (zad V k0))] → FX8_valueBy_b145 k0 σ = some t0 → W p l e (zrm 1 22) s m args below meth c H locs 0 0 Q (F0 m 145 ls []) := by
    intro  σ H locs ls  hZ hl h1
    unfold FX8_valueBy_b145 at h1
    refine lv_aload_n hx hb dX8_valueBy_145 rfl (lv_at hl 0 rfl) ?_
    refine z_getr C0 hZ hk0 fRX8_99 rfl dX8_valueBy_146 ?_
    refine lv_iconst (v := 0) hx hb dX8_valueBy_149 (by decide) ?_
    refine z_iald C0 hZ h1 (zkt8_40 hk0) dX8_valueBy_150 (fun h1 => ?_)
    rw [hQ]; exact z_iret C0 hr hlk hZ h1 dX8_valueBy_151
  have J19 : ∀ (n : Nat) (x2 : Int32) (x3 : Int32) (σ : zS) (H : Heap) (locs : List Loc) (ls : Array Slot), zZ 1 V A σ s H locs → lv_has ls 5 [(0, .ref (zad V k0)), (1, .int x1), (2, .int x2), (3, .int x3)] → zit (fun q => FX8_valueBy_L19 k0 x1 q.1 q.2.1 q.2.2) n (x2, x3, σ) = some t0 → W p l e (zrm 1 22) s m args below meth c H locs 0 0 Q (F0 m 19 ls []) := by
    intro n
    induction n with
    | zero => intro x2 x3 σ H locs ls  _ _ h1; cases h1
    | succ n ih19 =>
      intro x2 x3 σ H locs ls  hZ hl h1
      obtain ⟨t1, h1, hz1⟩ := zit_1 h1
      have J139 : ∀ (x2 : Int32) (x3 : Int32) (σ : zS) (H : Heap) (locs : List Loc) (ls : Array Slot), zZ 1 V A σ s H locs → lv_has ls 5 [(0, .ref (zad V k0)), (1, .int x1), (2, .int x2), (3, .int x3)] → FX8_valueBy_b139 k0 x1 x2 x3 σ = some t1 → W p l e (zrm 1 22) s m args below meth c H locs 0 0 Q (F0 m 139 ls []) := by
        intro x2 x3 σ H locs ls  hZ hl h1
        unfold FX8_valueBy_b139 at h1
        refine z_iinc (v := 1) C0 h1 hl (fun x3_1 => [(3, .int x3_1), (0, .ref (zad V k0)), (1, .int x1), (2, .int x2)]) dX8_valueBy_139 (k := 3) rfl (by decide) (by decide) (fun _ => rfl) (fun x3_1 ls h1 hl => ?_)
        refine lv_goto (tgt := 19) hx hb dX8_valueBy_142 (by decide) ?_
        exact ih19 x2 x3_1 _ _ _ _  hZ (lv_sub hl [1, 2, 3, 0] rfl) (zback h1 hz1)
      have J105 : ∀ (x2 : Int32) (x3 : Int32) (q0 : Nat) (y1 : Int32) (y2 : Int32) (σ : zS) (H : Heap) (locs : List Loc) (ls : Array Slot), kd 1 q0 = 100 → zZ 1 V A σ s H locs → lv_has ls 5 [(0, .ref (zad V k0)), (1, .int x1), (2, .int x2), (3, .int x3)] → FX8_valueBy_b105 k0 x1 x2 x3 q0 y1 y2 σ = some t1 → W p l e (zrm 1 22) s m args below meth c H locs 0 0 Q (F0 m 105 ls [.int y2, .int y1, .ref (zad V q0)]) := by
        intro x2 x3 q0 y1 y2 σ H locs ls hq0 hZ hl h1
        unfold FX8_valueBy_b105 at h1
        refine z_iast C0 hZ h1 hq0 dX8_valueBy_105 (fun σ_2 H locs h1 hZ => ?_)
        refine lv_goto (tgt := 139) hx hb dX8_valueBy_106 (by decide) ?_
        exact J139 x2 x3 _ _ _ _  hZ (lv_sub hl [0, 1, 2, 3] rfl) h1
      have J68 : ∀ (x2 : Int32) (x3 : Int32) (q0 : Nat) (y1 : Int32) (y2 : Int32) (σ : zS) (H : Heap) (locs : List Loc) (ls : Array Slot), kd 1 q0 = 100 → zZ 1 V A σ s H locs → lv_has ls 5 [(0, .ref (zad V k0)), (1, .int x1), (2, .int x2), (3, .int x3)] → FX8_valueBy_b68 k0 x1 x2 x3 q0 y1 y2 σ = some t1 → W p l e (zrm 1 22) s m args below meth c H locs 0 0 Q (F0 m 68 ls [.int y2, .int y1, .ref (zad V q0)]) := by
        intro x2 x3 q0 y1 y2 σ H locs ls hq0 hZ hl h1
        unfold FX8_valueBy_b68 at h1
        refine z_iast C0 hZ h1 hq0 dX8_valueBy_68 (fun σ_3 H locs h1 hZ => ?_)
        refine z_iinc (v := 1) C0 h1 hl (fun x2_4 => [(2, .int x2_4), (0, .ref (zad V k0)), (1, .int x1), (3, .int x3)]) dX8_valueBy_69 (k := 2) rfl (by decide) (by decide) (fun _ => rfl) (fun x2_4 ls h1 hl => ?_)
        refine lv_goto (tgt := 139) hx hb dX8_valueBy_72 (by decide) ?_
        exact J139 x2_4 x3 _ _ _ _  hZ (lv_sub hl [1, 2, 0, 3] rfl) h1
      replace h1 : FX8_valueBy_L19 k0 x1 x2 x3 σ = some t1 := h1
      unfold FX8_valueBy_L19 at h1
      refine lv_iload_n hx hb dX8_valueBy_19 rfl (lv_at hl 3 rfl) ?_
      refine lv_aload_n hx hb dX8_valueBy_20 rfl (lv_at hl 0 rfl) ?_
      refine z_getr C0 hZ hk0 fRX8_72 rfl dX8_valueBy_21 ?_
      refine lv_iload_n hx hb dX8_valueBy_24 rfl (lv_at hl 1 rfl) ?_
      refine z_iald C0 hZ h1 (zkt8_14 hk0) dX8_valueBy_25 (fun h1 => ?_)
      refine z_ic_ge (tgt := 145) C0 h1 dX8_valueBy_26 (by decide) (fun h1 => ?_) (fun h1 => ?_)
      · have h1 := zout h1 hz1
        exact J145  _ _ _ _  hZ (lv_sub hl [0] rfl) h1
      refine lv_aload_n hx hb dX8_valueBy_29 rfl (lv_at hl 0 rfl) ?_
      refine z_getr C0 hZ hk0 fRX8_75 rfl dX8_valueBy_30 ?_
      refine lv_iload_n hx hb dX8_valueBy_33 rfl (lv_at hl 3 rfl) ?_
      refine z_iald C0 hZ h1 (zkt8_15 hk0) dX8_valueBy_34 (fun h1 => ?_)
      refine z_istore C0 h1 hl (fun x4_5 => [(4, .int x4_5), (0, .ref (zad V k0)), (1, .int x1), (2, .int x2), (3, .int x3)]) dX8_valueBy_35 (by decide) (fun _ => rfl) (fun x4_5 ls h1 hl => ?_)
      refine lv_iload hx hb dX8_valueBy_37 (lv_at hl 0 rfl) ?_
      refine lv_bipush (v := (-20)) hx hb dX8_valueBy_39 (by decide) ?_
      refine z_ic_le (tgt := 75) C0 h1 dX8_valueBy_41 (by decide) (fun h1 => ?_) (fun h1 => ?_)
      · refine lv_iload hx hb dX8_valueBy_75 (lv_at hl 0 rfl) ?_
        refine lv_bipush (v := (-28)) hx hb dX8_valueBy_77 (by decide) ?_
        refine z_ic_ne (tgt := 109) C0 h1 dX8_valueBy_79 (by decide) (fun h1 => ?_) (fun h1 => ?_)
        · refine z_iinc (v := (-1)) C0 h1 hl (fun x2_6 => [(2, .int x2_6), (4, .int x4_5), (0, .ref (zad V k0)), (1, .int x1), (3, .int x3)]) dX8_valueBy_109 (k := 3) rfl (by decide) (by decide) (fun _ => rfl) (fun x2_6 ls h1 hl => ?_)
          refine lv_aload_n hx hb dX8_valueBy_112 rfl (lv_at hl 2 rfl) ?_
          refine z_getr C0 hZ hk0 fRX8_99 rfl dX8_valueBy_113 ?_
          refine lv_iload_n hx hb dX8_valueBy_116 rfl (lv_at hl 0 rfl) ?_
          refine lv_iconst (v := 1) hx hb dX8_valueBy_117 (by decide) ?_
          refine lv_isub hx hb dX8_valueBy_118 ?_
          refine lv_iload hx hb dX8_valueBy_119 (lv_at hl 1 rfl) ?_
          refine lv_aload_n hx hb dX8_valueBy_121 rfl (lv_at hl 2 rfl) ?_
          refine z_getr C0 hZ hk0 fRX8_99 rfl dX8_valueBy_122 ?_
          refine lv_iload_n hx hb dX8_valueBy_125 rfl (lv_at hl 0 rfl) ?_
          refine lv_iconst (v := 1) hx hb dX8_valueBy_126 (by decide) ?_
          refine lv_isub hx hb dX8_valueBy_127 ?_
          refine z_iald C0 hZ h1 (zkt8_40 hk0) dX8_valueBy_128 (fun h1 => ?_)
          refine lv_aload_n hx hb dX8_valueBy_129 rfl (lv_at hl 2 rfl) ?_
          refine z_getr C0 hZ hk0 fRX8_99 rfl dX8_valueBy_130 ?_
          refine lv_iload_n hx hb dX8_valueBy_133 rfl (lv_at hl 0 rfl) ?_
          refine z_iald C0 hZ h1 (zkt8_40 hk0) dX8_valueBy_134 (fun h1 => ?_)
          refine z_cSi (As := [.int x4_5, .int (σ (k0 + 21) (Int32.toNatClampNeg (x2_6 - 1))), .int (σ (k0 + 21) (Int32.toNatClampNeg x2_6))]) (rest := [.int (x2_6 - 1), .ref (zad V (k0 + 21))]) C0 hZ h1 (fun _ hf => kX8_reckon l  hf) mRX8_360 sX8_reckon rfl rfl hl.1 (Nat.le_of_ble_eq_true rfl) ⟨Nat.le_of_ble_eq_true rfl, Nat.le_of_ble_eq_true rfl⟩ dX8_valueBy_135 ⟨Nat.le_of_ble_eq_true rfl, Nat.le_of_ble_eq_true rfl⟩ (fun r_8 σ_7 H locs h1 hZ => ?_)
          refine z_iast C0 hZ h1 (zkt8_40 hk0) dX8_valueBy_138 (fun σ_9 H locs h1 hZ => ?_)
          exact J139 x2_6 x3 _ _ _ _  hZ (lv_sub hl [2, 3, 0, 4] rfl) h1
        refine lv_aload_n hx hb dX8_valueBy_82 rfl (lv_at hl 1 rfl) ?_
        refine z_getr C0 hZ hk0 fRX8_99 rfl dX8_valueBy_83 ?_
        refine lv_iload_n hx hb dX8_valueBy_86 rfl (lv_at hl 3 rfl) ?_
        refine lv_iconst (v := 1) hx hb dX8_valueBy_87 (by decide) ?_
        refine lv_isub hx hb dX8_valueBy_88 ?_
        refine lv_aload_n hx hb dX8_valueBy_89 rfl (lv_at hl 1 rfl) ?_
        refine z_getr C0 hZ hk0 fRX8_99 rfl dX8_valueBy_90 ?_
        refine lv_iload_n hx hb dX8_valueBy_93 rfl (lv_at hl 3 rfl) ?_
        refine lv_iconst (v := 1) hx hb dX8_valueBy_94 (by decide) ?_
        refine lv_isub hx hb dX8_valueBy_95 ?_
        refine z_iald C0 hZ h1 (zkt8_40 hk0) dX8_valueBy_96 (fun h1 => ?_)
        refine z_if_eq (tgt := 104) C0 h1 dX8_valueBy_97 (by decide) (fun h1 => ?_) (fun h1 => ?_)
        · refine lv_iconst (v := 1) hx hb dX8_valueBy_104 (by decide) ?_
          exact J105 x2 x3 (k0 + 21) (x2 - 1) 1 _ _ _ _ (zkt8_40 hk0) hZ (lv_sub hl [1, 2, 3, 4] rfl) h1
        refine lv_iconst (v := 0) hx hb dX8_valueBy_100 (by decide) ?_
        refine lv_goto (tgt := 105) hx hb dX8_valueBy_101 (by decide) ?_
        exact J105 x2 x3 (k0 + 21) (x2 - 1) 0 _ _ _ _ (zkt8_40 hk0) hZ (lv_sub hl [1, 2, 3, 4] rfl) h1
      refine lv_aload_n hx hb dX8_valueBy_44 rfl (lv_at hl 1 rfl) ?_
      refine z_getr C0 hZ hk0 fRX8_99 rfl dX8_valueBy_45 ?_
      refine lv_iload_n hx hb dX8_valueBy_48 rfl (lv_at hl 3 rfl) ?_
      refine lv_iload hx hb dX8_valueBy_49 (lv_at hl 0 rfl) ?_
      refine z_if_lt (tgt := 59) C0 h1 dX8_valueBy_51 (by decide) (fun h1 => ?_) (fun h1 => ?_)
      · refine lv_aload_n hx hb dX8_valueBy_59 rfl (lv_at hl 1 rfl) ?_
        refine z_getr C0 hZ hk0 fRX8_96 rfl dX8_valueBy_60 ?_
        refine lv_iconst (v := (-1)) hx hb dX8_valueBy_63 (by decide) ?_
        refine lv_iload hx hb dX8_valueBy_64 (lv_at hl 0 rfl) ?_
        refine lv_isub hx hb dX8_valueBy_66 ?_
        refine z_iald C0 hZ h1 (zkt8_39 hk0) dX8_valueBy_67 (fun h1 => ?_)
        exact J68 x2 x3 (k0 + 21) x2 (σ (k0 + 20) (Int32.toNatClampNeg ((-1) - x4_5))) _ _ _ _ (zkt8_40 hk0) hZ (lv_sub hl [1, 2, 3, 4] rfl) h1
      refine lv_iload hx hb dX8_valueBy_54 (lv_at hl 0 rfl) ?_
      refine lv_goto (tgt := 68) hx hb dX8_valueBy_56 (by decide) ?_
      exact J68 x2 x3 (k0 + 21) x2 x4_5 _ _ _ _ (zkt8_40 hk0) hZ (lv_sub hl [1, 2, 3, 4] rfl) h1
  have J18 : ∀ (x2 : Int32) (y0 : Int32) (σ : zS) (H : Heap) (locs : List Loc) (ls : Array Slot), zZ 1 V A σ s H locs → lv_has ls 5 [(0, .ref (zad V k0)), (1, .int x1), (2, .int x2)] → FX8_valueBy_b18 k0 x1 x2 y0 σ = some t0 → W p l e (zrm 1 22) s m args below meth c H locs 0 0 Q (F0 m 18 ls [.int y0]) := by
    intro x2 y0 σ H locs ls  hZ hl h1
    unfold FX8_valueBy_b18 at h1
    refine z_istore_n C0 h1 hl (fun x3_10 => [(3, .int x3_10), (0, .ref (zad V k0)), (1, .int x1), (2, .int x2)]) dX8_valueBy_18 rfl (by decide) (fun _ => rfl) (fun x3_10 ls h1 hl => ?_)
    obtain ⟨n, h1⟩ := zlp_iff.mp h1
    exact J19 n x2 x3_10 _ _ _ _  hZ (lv_sub hl [1, 2, 3, 0] rfl) h1
  refine lv_iconst (v := 0) hx hb dX8_valueBy_0 (by decide) ?_
  refine z_istore_n C0 h1 hl (fun x2_11 => [(2, .int x2_11), (0, .ref (zad V k0)), (1, .int x1)]) dX8_valueBy_1 rfl (by decide) (fun _ => rfl) (fun x2_11 ls h1 hl => ?_)
  refine lv_iload_n hx hb dX8_valueBy_2 rfl (lv_at hl 2 rfl) ?_
  refine z_if_ne (tgt := 10) C0 h1 dX8_valueBy_3 (by decide) (fun h1 => ?_) (fun h1 => ?_)
  · refine lv_aload_n hx hb dX8_valueBy_10 rfl (lv_at hl 1 rfl) ?_
    refine z_getr C0 hZ hk0 fRX8_72 rfl dX8_valueBy_11 ?_
    refine lv_iload_n hx hb dX8_valueBy_14 rfl (lv_at hl 2 rfl) ?_
    refine lv_iconst (v := 1) hx hb dX8_valueBy_15 (by decide) ?_
    refine lv_isub hx hb dX8_valueBy_16 ?_
    refine z_iald C0 hZ h1 (zkt8_14 hk0) dX8_valueBy_17 (fun h1 => ?_)
    exact J18 x2_11 (σ (k0 + 14) (Int32.toNatClampNeg (x1 - 1))) _ _ _ _  hZ (lv_sub hl [1, 2, 0] rfl) h1
  refine lv_iconst (v := 0) hx hb dX8_valueBy_6 (by decide) ?_
  refine lv_goto (tgt := 18) hx hb dX8_valueBy_7 (by decide) ?_
  exact J18 x2_11 0 _ _ _ _  hZ (lv_sub hl [1, 2, 0] rfl) h1
noncomputable def FX8_set_b38 (k0 : Nat) (σ : zS) : Option (Int32 × zS) := zlet (zup σ k0 46 (σ k0 29)) (fun σ_1 => zlet (zup σ_1 k0 47 (σ_1 k0 30)) (fun σ_2 => zlet (zup σ_2 k0 48 (σ_2 k0 31)) (fun σ_3 => zlet (zup σ_3 k0 49 (σ_3 k0 32)) (fun σ_4 => zin (ln 1 (k0 + 3)) 3 (zlet (zup σ_4 k0 50 (((1 : Int32) <<< ((σ_4 (k0 + 3) (Int32.toNatClampNeg 3)) &&& 31)) - 1)) (fun σ_5 => some (0, σ_5)))))))
noncomputable def FX8_set_L2 (k0 : Nat) (x1 : Int32) (σ : zS) : Option ((Int32 × zS) ⊕ (Int32 × zS)) := if 10 ≤ x1 then zinr (FX8_set_b38 k0 σ) else zin (ln 1 (k0 + 4)) x1 (zin (ln 1 (k0 + 22)) x1 (zlet (zup σ (k0 + 22) (Int32.toNatClampNeg x1) (σ (k0 + 4) (Int32.toNatClampNeg x1))) (fun σ_6 => zin (ln 1 (k0 + 5)) x1 (zin (ln 1 (k0 + 23)) x1 (zlet (zup σ_6 (k0 + 23) (Int32.toNatClampNeg x1) (σ_6 (k0 + 5) (Int32.toNatClampNeg x1))) (fun σ_7 => zlet (x1 + 1) (fun x1_8 => some (.inl (x1_8, σ_7)))))))))
noncomputable def FX8_set (k0 : Nat) (σ : zS) : Option (Int32 × zS) := zlet 0 (fun x1_9 => zlp (fun q => FX8_set_L2 k0 q.1 q.2) (x1_9, σ))
set_option maxHeartbeats 4000000 in
set_option maxRecDepth 100000 in
theorem kX8_set (l : Launch) {V : zV} {σ : zS} {t0 : Int32 × zS} {k0 : Nat} (hk0 : kd 1 k0 = 8) (h1 : FX8_set k0 σ = some t0) : zMv l yX8_set cX8_set 2 0 0 1 V σ t0 [.ref (zad V k0)] := by
  refine zMv_of (by decide) (Nat.le_of_ble_eq_true rfl) ?_
  intro p e s m below meth c A C0 hr hlk hZ ls hl
  generalize ([.ref (zad V k0)] : List Value).toArray = args at C0 ⊢
  obtain ⟨Q, hQ⟩ : ∃ Q, Q = MQ below (zQv 1 V t0 A) args s 0 0 A := ⟨_, rfl⟩
  rw [← hQ]
  have hx := C0.1
  have hb := C0.2.1
  have hl : lv_has ls 2 [(0, .ref (zad V k0))] := hl
  unfold FX8_set at h1
  have J38 : ∀  (σ : zS) (H : Heap) (locs : List Loc) (ls : Array Slot), zZ 1 V A σ s H locs → lv_has ls 2 [(0, .ref (zad V k0))] → FX8_set_b38 k0 σ = some t0 → W p l e (zrm 0 0) s m args below meth c H locs 0 0 Q (F0 m 38 ls []) := by
    intro  σ H locs ls  hZ hl h1
    unfold FX8_set_b38 at h1
    refine lv_aload_n hx hb dX8_set_38 rfl (lv_at hl 0 rfl) ?_
    refine lv_aload_n hx hb dX8_set_39 rfl (lv_at hl 0 rfl) ?_
    refine z_geti C0 hZ hk0 fRX8_323 rfl dX8_set_40 ?_
    refine z_puti C0 hZ h1 hk0 fRX8_364 rfl tyX8_ok nmX8 rfl rfl rfl dX8_set_43 (fun σ_1 H locs h1 hZ => ?_)
    refine lv_aload_n hx hb dX8_set_46 rfl (lv_at hl 0 rfl) ?_
    refine lv_aload_n hx hb dX8_set_47 rfl (lv_at hl 0 rfl) ?_
    refine z_geti C0 hZ hk0 fRX8_326 rfl dX8_set_48 ?_
    refine z_puti C0 hZ h1 hk0 fRX8_367 rfl tyX8_ok nmX8 rfl rfl rfl dX8_set_51 (fun σ_2 H locs h1 hZ => ?_)
    refine lv_aload_n hx hb dX8_set_54 rfl (lv_at hl 0 rfl) ?_
    refine lv_aload_n hx hb dX8_set_55 rfl (lv_at hl 0 rfl) ?_
    refine z_geti C0 hZ hk0 fRX8_329 rfl dX8_set_56 ?_
    refine z_puti C0 hZ h1 hk0 fRX8_369 rfl tyX8_ok nmX8 rfl rfl rfl dX8_set_59 (fun σ_3 H locs h1 hZ => ?_)
    refine lv_aload_n hx hb dX8_set_62 rfl (lv_at hl 0 rfl) ?_
    refine lv_aload_n hx hb dX8_set_63 rfl (lv_at hl 0 rfl) ?_
    refine z_geti C0 hZ hk0 fRX8_90 rfl dX8_set_64 ?_
    refine z_puti C0 hZ h1 hk0 fRX8_372 rfl tyX8_ok nmX8 rfl rfl rfl dX8_set_67 (fun σ_4 H locs h1 hZ => ?_)
    refine lv_aload_n hx hb dX8_set_70 rfl (lv_at hl 0 rfl) ?_
    refine lv_iconst (v := 1) hx hb dX8_set_71 (by decide) ?_
    refine lv_aload_n hx hb dX8_set_72 rfl (lv_at hl 0 rfl) ?_
    refine z_getr C0 hZ hk0 fRX8_40 rfl dX8_set_73 ?_
    refine lv_iconst (v := 3) hx hb dX8_set_76 (by decide) ?_
    refine z_iald C0 hZ h1 (zkt8_3 hk0) dX8_set_77 (fun h1 => ?_)
    refine lv_ishl hx hb dX8_set_78 ?_
    refine lv_iconst (v := 1) hx hb dX8_set_79 (by decide) ?_
    refine lv_isub hx hb dX8_set_80 ?_
    refine z_puti C0 hZ h1 hk0 fRX8_375 rfl tyX8_ok nmX8 rfl rfl rfl dX8_set_81 (fun σ_5 H locs h1 hZ => ?_)
    rw [hQ]; exact z_vret C0 hr hlk hZ h1 dX8_set_84
  have J2 : ∀ (n : Nat) (x1 : Int32) (σ : zS) (H : Heap) (locs : List Loc) (ls : Array Slot), zZ 1 V A σ s H locs → lv_has ls 2 [(0, .ref (zad V k0)), (1, .int x1)] → zit (fun q => FX8_set_L2 k0 q.1 q.2) n (x1, σ) = some t0 → W p l e (zrm 0 0) s m args below meth c H locs 0 0 Q (F0 m 2 ls []) := by
    intro n
    induction n with
    | zero => intro x1 σ H locs ls  _ _ h1; cases h1
    | succ n ih2 =>
      intro x1 σ H locs ls  hZ hl h1
      obtain ⟨t1, h1, hz1⟩ := zit_1 h1
      replace h1 : FX8_set_L2 k0 x1 σ = some t1 := h1
      unfold FX8_set_L2 at h1
      refine lv_iload_n hx hb dX8_set_2 rfl (lv_at hl 1 rfl) ?_
      refine lv_bipush (v := 10) hx hb dX8_set_3 (by decide) ?_
      refine z_ic_ge (tgt := 38) C0 h1 dX8_set_5 (by decide) (fun h1 => ?_) (fun h1 => ?_)
      · have h1 := zout h1 hz1
        exact J38  _ _ _ _  hZ (lv_sub hl [0] rfl) h1
      refine lv_aload_n hx hb dX8_set_8 rfl (lv_at hl 0 rfl) ?_
      refine z_getr C0 hZ hk0 fRX8_102 rfl dX8_set_9 ?_
      refine lv_iload_n hx hb dX8_set_12 rfl (lv_at hl 1 rfl) ?_
      refine lv_aload_n hx hb dX8_set_13 rfl (lv_at hl 0 rfl) ?_
      refine z_getr C0 hZ hk0 fRX8_44 rfl dX8_set_14 ?_
      refine lv_iload_n hx hb dX8_set_17 rfl (lv_at hl 1 rfl) ?_
      refine z_iald C0 hZ h1 (zkt8_4 hk0) dX8_set_18 (fun h1 => ?_)
      refine z_iast C0 hZ h1 (zkt8_41 hk0) dX8_set_19 (fun σ_6 H locs h1 hZ => ?_)
      refine lv_aload_n hx hb dX8_set_20 rfl (lv_at hl 0 rfl) ?_
      refine z_getr C0 hZ hk0 fRX8_105 rfl dX8_set_21 ?_
      refine lv_iload_n hx hb dX8_set_24 rfl (lv_at hl 1 rfl) ?_
      refine lv_aload_n hx hb dX8_set_25 rfl (lv_at hl 0 rfl) ?_
      refine z_getr C0 hZ hk0 fRX8_46 rfl dX8_set_26 ?_
      refine lv_iload_n hx hb dX8_set_29 rfl (lv_at hl 1 rfl) ?_
      refine z_iald C0 hZ h1 (zkt8_5 hk0) dX8_set_30 (fun h1 => ?_)
      refine z_iast C0 hZ h1 (zkt8_42 hk0) dX8_set_31 (fun σ_7 H locs h1 hZ => ?_)
      refine z_iinc (v := 1) C0 h1 hl (fun x1_8 => [(1, .int x1_8), (0, .ref (zad V k0))]) dX8_set_32 (k := 1) rfl (by decide) (by decide) (fun _ => rfl) (fun x1_8 ls h1 hl => ?_)
      refine lv_goto (tgt := 2) hx hb dX8_set_35 (by decide) ?_
      exact ih2 x1_8 _ _ _ _  hZ (lv_sub hl [1, 0] rfl) (zback h1 hz1)
  refine lv_iconst (v := 0) hx hb dX8_set_0 (by decide) ?_
  refine z_istore_n C0 h1 hl (fun x1_9 => [(1, .int x1_9), (0, .ref (zad V k0))]) dX8_set_1 rfl (by decide) (fun _ => rfl) (fun x1_9 ls h1 hl => ?_)
  obtain ⟨n, h1⟩ := zlp_iff.mp h1
  exact J2 n x1_9 _ _ _ _  hZ (lv_sub hl [1, 0] rfl) h1
noncomputable def FX8_isInside_b14 (y0 : Int32) (σ : zS) : Option (Int32 × zS) := zgd (y0 == 0 || y0 == 1) (some (y0, σ))
noncomputable def FX8_isInside (k0 : Nat) (x1 : Int32) (σ : zS) : Option (Int32 × zS) := zin (ln 1 (k0 + 24)) x1 (if (σ (k0 + 24) (Int32.toNatClampNeg x1)) < 0 then FX8_isInside_b14 0 σ else FX8_isInside_b14 1 σ)
set_option maxHeartbeats 4000000 in
set_option maxRecDepth 100000 in
theorem kX8_isInside (l : Launch) {V : zV} {σ : zS} {t0 : Int32 × zS} {k0 : Nat} {x1 : Int32} (hk0 : kd 1 k0 = 8) (h1 : FX8_isInside k0 x1 σ = some t0) : zMi l yX8_isInside cX8_isInside 2 (some .boolean) 0 0 1 V σ t0 [.ref (zad V k0), .int x1] := by
  refine zMi_of (by decide) (Nat.le_of_ble_eq_true rfl) ?_
  intro p e s m below meth c A C0 hr hlk hZ ls hl
  generalize ([.ref (zad V k0), .int x1] : List Value).toArray = args at C0 ⊢
  obtain ⟨Q, hQ⟩ : ∃ Q, Q = MQ below (zQi 1 V t0 A) args s 0 0 A := ⟨_, rfl⟩
  rw [← hQ]
  have hx := C0.1
  have hb := C0.2.1
  have hl : lv_has ls 2 [(0, .ref (zad V k0)), (1, .int x1)] := hl
  unfold FX8_isInside at h1
  have J14 : ∀ (y0 : Int32) (σ : zS) (H : Heap) (locs : List Loc) (ls : Array Slot), zZ 1 V A σ s H locs → lv_has ls 2 [] → FX8_isInside_b14 y0 σ = some t0 → W p l e (zrm 0 0) s m args below meth c H locs 0 0 Q (F0 m 14 ls [.int y0]) := by
    intro y0 σ H locs ls  hZ hl h1
    unfold FX8_isInside_b14 at h1
    rw [hQ]; exact z_zret C0 hr hlk hZ h1 dX8_isInside_14
  refine lv_aload_n hx hb dX8_isInside_0 rfl (lv_at hl 0 rfl) ?_
  refine z_getr C0 hZ hk0 fRX8_108 rfl dX8_isInside_1 ?_
  refine lv_iload_n hx hb dX8_isInside_4 rfl (lv_at hl 1 rfl) ?_
  refine z_iald C0 hZ h1 (zkt8_43 hk0) dX8_isInside_5 (fun h1 => ?_)
  refine z_if_lt (tgt := 13) C0 h1 dX8_isInside_6 (by decide) (fun h1 => ?_) (fun h1 => ?_)
  · refine lv_iconst (v := 0) hx hb dX8_isInside_13 (by decide) ?_
    exact J14 0 _ _ _ _  hZ (lv_sub hl [] rfl) h1
  refine lv_iconst (v := 1) hx hb dX8_isInside_9 (by decide) ?_
  refine lv_goto (tgt := 14) hx hb dX8_isInside_10 (by decide) ?_
  exact J14 1 _ _ _ _  hZ (lv_sub hl [] rfl) h1
noncomputable def FX8_aisleOf (k0 : Nat) (x1 : Int32) (σ : zS) : Option (Int32 × zS) := zin (ln 1 (k0 + 24)) x1 (zin (ln 1 (k0 + 13)) ((12 * x1) + (σ (k0 + 24) (Int32.toNatClampNeg x1))) (some ((σ (k0 + 13) (Int32.toNatClampNeg ((12 * x1) + (σ (k0 + 24) (Int32.toNatClampNeg x1))))), σ)))
set_option maxHeartbeats 4000000 in
set_option maxRecDepth 100000 in
theorem kX8_aisleOf (l : Launch) {V : zV} {σ : zS} {t0 : Int32 × zS} {k0 : Nat} {x1 : Int32} (hk0 : kd 1 k0 = 8) (h1 : FX8_aisleOf k0 x1 σ = some t0) : zMi l yX8_aisleOf cX8_aisleOf 2 (some .int) 0 0 1 V σ t0 [.ref (zad V k0), .int x1] := by
  refine zMi_of (by decide) (Nat.le_of_ble_eq_true rfl) ?_
  intro p e s m below meth c A C0 hr hlk hZ ls hl
  generalize ([.ref (zad V k0), .int x1] : List Value).toArray = args at C0 ⊢
  obtain ⟨Q, hQ⟩ : ∃ Q, Q = MQ below (zQi 1 V t0 A) args s 0 0 A := ⟨_, rfl⟩
  rw [← hQ]
  have hx := C0.1
  have hb := C0.2.1
  have hl : lv_has ls 2 [(0, .ref (zad V k0)), (1, .int x1)] := hl
  unfold FX8_aisleOf at h1
  refine lv_aload_n hx hb dX8_aisleOf_0 rfl (lv_at hl 0 rfl) ?_
  refine z_getr C0 hZ hk0 fRX8_69 rfl dX8_aisleOf_1 ?_
  refine lv_bipush (v := 12) hx hb dX8_aisleOf_4 (by decide) ?_
  refine lv_iload_n hx hb dX8_aisleOf_6 rfl (lv_at hl 1 rfl) ?_
  refine lv_imul hx hb dX8_aisleOf_7 ?_
  refine lv_aload_n hx hb dX8_aisleOf_8 rfl (lv_at hl 0 rfl) ?_
  refine z_getr C0 hZ hk0 fRX8_108 rfl dX8_aisleOf_9 ?_
  refine lv_iload_n hx hb dX8_aisleOf_12 rfl (lv_at hl 1 rfl) ?_
  refine z_iald C0 hZ h1 (zkt8_43 hk0) dX8_aisleOf_13 (fun h1 => ?_)
  refine lv_iadd hx hb dX8_aisleOf_14 ?_
  refine z_iald C0 hZ h1 (zkt8_13 hk0) dX8_aisleOf_15 (fun h1 => ?_)
  rw [hQ]; exact z_iret C0 hr hlk hZ h1 dX8_aisleOf_16
noncomputable def FX8_isSeen_b38 (y0 : Int32) (σ : zS) : Option (Int32 × zS) := zgd (y0 == 0 || y0 == 1) (some (y0, σ))
noncomputable def FX8_isSeen_b37  (σ : zS) : Option (Int32 × zS) := FX8_isSeen_b38 0 σ
noncomputable def FX8_isSeen_b33  (σ : zS) : Option (Int32 × zS) := FX8_isSeen_b38 1 σ
noncomputable def FX8_isSeen (k0 : Nat) (x1 : Int32) (σ : zS) : Option (Int32 × zS) := if (σ k0 51) = (-1) then FX8_isSeen_b37  σ else if (σ k0 51) = x1 then FX8_isSeen_b33  σ else zin (ln 1 (k0 + 7)) (σ k0 51) (if (((σ (k0 + 7) (Int32.toNatClampNeg (σ k0 51))) >>> (x1 &&& 31)) &&& 1) = 1 then FX8_isSeen_b33  σ else FX8_isSeen_b37  σ)
set_option maxHeartbeats 4000000 in
set_option maxRecDepth 100000 in
theorem kX8_isSeen (l : Launch) {V : zV} {σ : zS} {t0 : Int32 × zS} {k0 : Nat} {x1 : Int32} (hk0 : kd 1 k0 = 8) (h1 : FX8_isSeen k0 x1 σ = some t0) : zMi l yX8_isSeen cX8_isSeen 2 (some .boolean) 0 0 1 V σ t0 [.ref (zad V k0), .int x1] := by
  refine zMi_of (by decide) (Nat.le_of_ble_eq_true rfl) ?_
  intro p e s m below meth c A C0 hr hlk hZ ls hl
  generalize ([.ref (zad V k0), .int x1] : List Value).toArray = args at C0 ⊢
  obtain ⟨Q, hQ⟩ : ∃ Q, Q = MQ below (zQi 1 V t0 A) args s 0 0 A := ⟨_, rfl⟩
  rw [← hQ]
  have hx := C0.1
  have hb := C0.2.1
  have hl : lv_has ls 2 [(0, .ref (zad V k0)), (1, .int x1)] := hl
  unfold FX8_isSeen at h1
  have J38 : ∀ (y0 : Int32) (σ : zS) (H : Heap) (locs : List Loc) (ls : Array Slot), zZ 1 V A σ s H locs → lv_has ls 2 [] → FX8_isSeen_b38 y0 σ = some t0 → W p l e (zrm 0 0) s m args below meth c H locs 0 0 Q (F0 m 38 ls [.int y0]) := by
    intro y0 σ H locs ls  hZ hl h1
    unfold FX8_isSeen_b38 at h1
    rw [hQ]; exact z_zret C0 hr hlk hZ h1 dX8_isSeen_38
  have J37 : ∀  (σ : zS) (H : Heap) (locs : List Loc) (ls : Array Slot), zZ 1 V A σ s H locs → lv_has ls 2 [] → FX8_isSeen_b37  σ = some t0 → W p l e (zrm 0 0) s m args below meth c H locs 0 0 Q (F0 m 37 ls []) := by
    intro  σ H locs ls  hZ hl h1
    unfold FX8_isSeen_b37 at h1
    refine lv_iconst (v := 0) hx hb dX8_isSeen_37 (by decide) ?_
    exact J38 0 _ _ _ _  hZ (lv_sub hl [] rfl) h1
  have J33 : ∀  (σ : zS) (H : Heap) (locs : List Loc) (ls : Array Slot), zZ 1 V A σ s H locs → lv_has ls 2 [] → FX8_isSeen_b33  σ = some t0 → W p l e (zrm 0 0) s m args below meth c H locs 0 0 Q (F0 m 33 ls []) := by
    intro  σ H locs ls  hZ hl h1
    unfold FX8_isSeen_b33 at h1
    refine lv_iconst (v := 1) hx hb dX8_isSeen_33 (by decide) ?_
    refine lv_goto (tgt := 38) hx hb dX8_isSeen_34 (by decide) ?_
    exact J38 1 _ _ _ _  hZ (lv_sub hl [] rfl) h1
  refine lv_aload_n hx hb dX8_isSeen_0 rfl (lv_at hl 0 rfl) ?_
  refine z_geti C0 hZ hk0 fRX8_378 rfl dX8_isSeen_1 ?_
  refine lv_iconst (v := (-1)) hx hb dX8_isSeen_4 (by decide) ?_
  refine z_ic_eq (tgt := 37) C0 h1 dX8_isSeen_5 (by decide) (fun h1 => ?_) (fun h1 => ?_)
  · exact J37  _ _ _ _  hZ (lv_sub hl [] rfl) h1
  refine lv_aload_n hx hb dX8_isSeen_8 rfl (lv_at hl 0 rfl) ?_
  refine z_geti C0 hZ hk0 fRX8_378 rfl dX8_isSeen_9 ?_
  refine lv_iload_n hx hb dX8_isSeen_12 rfl (lv_at hl 1 rfl) ?_
  refine z_ic_eq (tgt := 33) C0 h1 dX8_isSeen_13 (by decide) (fun h1 => ?_) (fun h1 => ?_)
  · exact J33  _ _ _ _  hZ (lv_sub hl [] rfl) h1
  refine lv_aload_n hx hb dX8_isSeen_16 rfl (lv_at hl 0 rfl) ?_
  refine z_getr C0 hZ hk0 fRX8_52 rfl dX8_isSeen_17 ?_
  refine lv_aload_n hx hb dX8_isSeen_20 rfl (lv_at hl 0 rfl) ?_
  refine z_geti C0 hZ hk0 fRX8_378 rfl dX8_isSeen_21 ?_
  refine z_iald C0 hZ h1 (zkt8_7 hk0) dX8_isSeen_24 (fun h1 => ?_)
  refine lv_iload_n hx hb dX8_isSeen_25 rfl (lv_at hl 1 rfl) ?_
  refine lv_ishr hx hb dX8_isSeen_26 ?_
  refine lv_iconst (v := 1) hx hb dX8_isSeen_27 (by decide) ?_
  refine lv_iand hx hb dX8_isSeen_28 ?_
  refine lv_iconst (v := 1) hx hb dX8_isSeen_29 (by decide) ?_
  refine z_ic_ne (tgt := 37) C0 h1 dX8_isSeen_30 (by decide) (fun h1 => ?_) (fun h1 => ?_)
  · exact J37  _ _ _ _  hZ (lv_sub hl [] rfl) h1
  exact J33  _ _ _ _  hZ (lv_sub hl [] rfl) h1
noncomputable def FX8_isOf_b14 (y0 : Int32) (σ : zS) : Option (Int32 × zS) := zgd (y0 == 0 || y0 == 1) (some (y0, σ))
noncomputable def FX8_isOf (x0 : Int32) (x1 : Int32) (σ : zS) : Option (Int32 × zS) := if ((x0 >>> (x1 &&& 31)) &&& 1) = 1 then FX8_isOf_b14 1 σ else FX8_isOf_b14 0 σ
set_option maxHeartbeats 4000000 in
set_option maxRecDepth 100000 in
theorem kX8_isOf (l : Launch) {V : zV} {σ : zS} {t0 : Int32 × zS} {x0 : Int32} {x1 : Int32}  (h1 : FX8_isOf x0 x1 σ = some t0) : zMi l yX8_isOf cX8_isOf 2 (some .boolean) 0 0 1 V σ t0 [.int x0, .int x1] := by
  refine zMi_of (by decide) (Nat.le_of_ble_eq_true rfl) ?_
  intro p e s m below meth c A C0 hr hlk hZ ls hl
  generalize ([.int x0, .int x1] : List Value).toArray = args at C0 ⊢
  obtain ⟨Q, hQ⟩ : ∃ Q, Q = MQ below (zQi 1 V t0 A) args s 0 0 A := ⟨_, rfl⟩
  rw [← hQ]
  have hx := C0.1
  have hb := C0.2.1
  have hl : lv_has ls 2 [(0, .int x0), (1, .int x1)] := hl
  unfold FX8_isOf at h1
  have J14 : ∀ (y0 : Int32) (σ : zS) (H : Heap) (locs : List Loc) (ls : Array Slot), zZ 1 V A σ s H locs → lv_has ls 2 [] → FX8_isOf_b14 y0 σ = some t0 → W p l e (zrm 0 0) s m args below meth c H locs 0 0 Q (F0 m 14 ls [.int y0]) := by
    intro y0 σ H locs ls  hZ hl h1
    unfold FX8_isOf_b14 at h1
    rw [hQ]; exact z_zret C0 hr hlk hZ h1 dX8_isOf_14
  refine lv_iload_n hx hb dX8_isOf_0 rfl (lv_at hl 0 rfl) ?_
  refine lv_iload_n hx hb dX8_isOf_1 rfl (lv_at hl 1 rfl) ?_
  refine lv_ishr hx hb dX8_isOf_2 ?_
  refine lv_iconst (v := 1) hx hb dX8_isOf_3 (by decide) ?_
  refine lv_iand hx hb dX8_isOf_4 ?_
  refine lv_iconst (v := 1) hx hb dX8_isOf_5 (by decide) ?_
  refine z_ic_ne (tgt := 13) C0 h1 dX8_isOf_6 (by decide) (fun h1 => ?_) (fun h1 => ?_)
  · refine lv_iconst (v := 0) hx hb dX8_isOf_13 (by decide) ?_
    exact J14 0 _ _ _ _  hZ (lv_sub hl [] rfl) h1
  refine lv_iconst (v := 1) hx hb dX8_isOf_9 (by decide) ?_
  refine lv_goto (tgt := 14) hx hb dX8_isOf_10 (by decide) ?_
  exact J14 1 _ _ _ _  hZ (lv_sub hl [] rfl) h1
noncomputable def FX8_leave_b169 (k0 : Nat) (x1 : Int32) (σ : zS) : Option (Int32 × zS) := zin (ln 1 (k0 + 25)) x1 (zlet (zup σ (k0 + 25) (Int32.toNatClampNeg x1) (-1)) (fun σ_1 => some (0, σ_1)))
noncomputable def FX8_leave_b139 (k0 : Nat) (x1 : Int32) (σ : zS) : Option (Int32 × zS) := zin (ln 1 (k0 + 25)) x1 (zin (ln 1 (k0 + 22)) (σ (k0 + 25) (Int32.toNatClampNeg x1)) (zlet (zup σ k0 56 ((σ k0 56) + (σ (k0 + 22) (Int32.toNatClampNeg (σ (k0 + 25) (Int32.toNatClampNeg x1)))))) (fun σ_2 => zlet (zup σ_2 k0 57 ((σ_2 k0 57) + 1)) (fun σ_3 => FX8_leave_b169 k0 x1 σ_3))))
noncomputable def FX8_leave_b109 (k0 : Nat) (x1 : Int32) (σ : zS) : Option (Int32 × zS) := zlet (zup σ k0 55 ((σ k0 55) ||| ((1 : Int32) <<< (x1 &&& 31)))) (fun σ_4 => zin (ln 1 (k0 + 25)) x1 (zin (ln 1 (k0 + 23)) (σ_4 (k0 + 25) (Int32.toNatClampNeg x1)) (zin (ln 1 (k0 + 23)) (σ_4 (k0 + 25) (Int32.toNatClampNeg x1)) (zlet (zup σ_4 (k0 + 23) (Int32.toNatClampNeg (σ_4 (k0 + 25) (Int32.toNatClampNeg x1))) ((σ_4 (k0 + 23) (Int32.toNatClampNeg (σ_4 (k0 + 25) (Int32.toNatClampNeg x1)))) + 1)) (fun σ_5 => FX8_leave_b169 k0 x1 σ_5)))))
noncomputable def FX8_leave (k0 : Nat) (x1 : Int32) (σ : zS) : Option (Int32 × zS) := zin (ln 1 (k0 + 24)) x1 (zlet (zup σ (k0 + 24) (Int32.toNatClampNeg x1) (-2)) (fun σ_6 => zin (ln 1 (k0 + 25)) x1 (if (σ_6 (k0 + 25) (Int32.toNatClampNeg x1)) = (-1) then some (0, σ_6) else zbd (FX8_isOf (σ_6 k0 52) x1 σ_6) (fun r_8 σ_7 => zlet r_8 (fun x2_9 => zbd (FX8_isOf (σ_7 k0 53) x1 σ_7) (fun r_11 σ_10 => zlet r_11 (fun x3_12 => zin (ln 1 (k0 + 8)) x1 (if (σ_10 (k0 + 8) (Int32.toNatClampNeg x1)) = 0 then zlet (zup σ_10 k0 59 ((σ_10 k0 59) + 1)) (fun σ_13 => if (σ_13 k0 49) = 2 then if x2_9 = 0 then FX8_leave_b169 k0 x1 σ_13 else if x3_12 = 0 then zlet (zup σ_13 k0 58 ((σ_13 k0 58) + 1)) (fun σ_14 => FX8_leave_b169 k0 x1 σ_14) else FX8_leave_b169 k0 x1 σ_13 else FX8_leave_b169 k0 x1 σ_13) else if x2_9 = 0 then FX8_leave_b139 k0 x1 σ_10 else if (σ_10 k0 49) = 2 then FX8_leave_b109 k0 x1 σ_10 else if (σ_10 k0 49) = 1 then if x3_12 = 0 then FX8_leave_b139 k0 x1 σ_10 else FX8_leave_b109 k0 x1 σ_10 else FX8_leave_b139 k0 x1 σ_10))))))))
set_option maxHeartbeats 4000000 in
set_option maxRecDepth 100000 in
theorem kX8_leave (l : Launch) {V : zV} {σ : zS} {t0 : Int32 × zS} {k0 : Nat} {x1 : Int32} (hk0 : kd 1 k0 = 8) (h1 : FX8_leave k0 x1 σ = some t0) : zMv l yX8_leave cX8_leave 4 1 21 1 V σ t0 [.ref (zad V k0), .int x1] := by
  refine zMv_of (by decide) (Nat.le_of_ble_eq_true rfl) ?_
  intro p e s m below meth c A C0 hr hlk hZ ls hl
  generalize ([.ref (zad V k0), .int x1] : List Value).toArray = args at C0 ⊢
  obtain ⟨Q, hQ⟩ : ∃ Q, Q = MQ below (zQv 1 V t0 A) args s 0 0 A := ⟨_, rfl⟩
  rw [← hQ]
  have hx := C0.1
  have hb := C0.2.1
  have hl : lv_has ls 4 [(0, .ref (zad V k0)), (1, .int x1)] := hl
  unfold FX8_leave at h1
  have J169 : ∀  (σ : zS) (H : Heap) (locs : List Loc) (ls : Array Slot), zZ 1 V A σ s H locs → lv_has ls 4 [(0, .ref (zad V k0)), (1, .int x1)] → FX8_leave_b169 k0 x1 σ = some t0 → W p l e (zrm 1 21) s m args below meth c H locs 0 0 Q (F0 m 169 ls []) := by
    intro  σ H locs ls  hZ hl h1
    unfold FX8_leave_b169 at h1
    refine lv_aload_n hx hb dX8_leave_169 rfl (lv_at hl 0 rfl) ?_
    refine z_getr C0 hZ hk0 fRX8_111 rfl dX8_leave_170 ?_
    refine lv_iload_n hx hb dX8_leave_173 rfl (lv_at hl 1 rfl) ?_
    refine lv_iconst (v := (-1)) hx hb dX8_leave_174 (by decide) ?_
    refine z_iast C0 hZ h1 (zkt8_44 hk0) dX8_leave_175 (fun σ_1 H locs h1 hZ => ?_)
    rw [hQ]; exact z_vret C0 hr hlk hZ h1 dX8_leave_176
  have J139 : ∀  (σ : zS) (H : Heap) (locs : List Loc) (ls : Array Slot), zZ 1 V A σ s H locs → lv_has ls 4 [(0, .ref (zad V k0)), (1, .int x1)] → FX8_leave_b139 k0 x1 σ = some t0 → W p l e (zrm 1 21) s m args below meth c H locs 0 0 Q (F0 m 139 ls []) := by
    intro  σ H locs ls  hZ hl h1
    unfold FX8_leave_b139 at h1
    refine lv_aload_n hx hb dX8_leave_139 rfl (lv_at hl 0 rfl) ?_
    refine lv_dup hx hb dX8_leave_140 rfl ?_
    refine z_geti C0 hZ hk0 fRX8_398 rfl dX8_leave_141 ?_
    refine lv_aload_n hx hb dX8_leave_144 rfl (lv_at hl 0 rfl) ?_
    refine z_getr C0 hZ hk0 fRX8_102 rfl dX8_leave_145 ?_
    refine lv_aload_n hx hb dX8_leave_148 rfl (lv_at hl 0 rfl) ?_
    refine z_getr C0 hZ hk0 fRX8_111 rfl dX8_leave_149 ?_
    refine lv_iload_n hx hb dX8_leave_152 rfl (lv_at hl 1 rfl) ?_
    refine z_iald C0 hZ h1 (zkt8_44 hk0) dX8_leave_153 (fun h1 => ?_)
    refine z_iald C0 hZ h1 (zkt8_41 hk0) dX8_leave_154 (fun h1 => ?_)
    refine lv_iadd hx hb dX8_leave_155 ?_
    refine z_puti C0 hZ h1 hk0 fRX8_398 rfl tyX8_ok nmX8 rfl rfl rfl dX8_leave_156 (fun σ_2 H locs h1 hZ => ?_)
    refine lv_aload_n hx hb dX8_leave_159 rfl (lv_at hl 0 rfl) ?_
    refine lv_dup hx hb dX8_leave_160 rfl ?_
    refine z_geti C0 hZ hk0 fRX8_401 rfl dX8_leave_161 ?_
    refine lv_iconst (v := 1) hx hb dX8_leave_164 (by decide) ?_
    refine lv_iadd hx hb dX8_leave_165 ?_
    refine z_puti C0 hZ h1 hk0 fRX8_401 rfl tyX8_ok nmX8 rfl rfl rfl dX8_leave_166 (fun σ_3 H locs h1 hZ => ?_)
    exact J169  _ _ _ _  hZ (lv_sub hl [0, 1] rfl) h1
  have J109 : ∀  (σ : zS) (H : Heap) (locs : List Loc) (ls : Array Slot), zZ 1 V A σ s H locs → lv_has ls 4 [(0, .ref (zad V k0)), (1, .int x1)] → FX8_leave_b109 k0 x1 σ = some t0 → W p l e (zrm 1 21) s m args below meth c H locs 0 0 Q (F0 m 109 ls []) := by
    intro  σ H locs ls  hZ hl h1
    unfold FX8_leave_b109 at h1
    refine lv_aload_n hx hb dX8_leave_109 rfl (lv_at hl 0 rfl) ?_
    refine lv_dup hx hb dX8_leave_110 rfl ?_
    refine z_geti C0 hZ hk0 fRX8_395 rfl dX8_leave_111 ?_
    refine lv_iconst (v := 1) hx hb dX8_leave_114 (by decide) ?_
    refine lv_iload_n hx hb dX8_leave_115 rfl (lv_at hl 1 rfl) ?_
    refine lv_ishl hx hb dX8_leave_116 ?_
    refine lv_ior hx hb dX8_leave_117 ?_
    refine z_puti C0 hZ h1 hk0 fRX8_395 rfl tyX8_ok nmX8 rfl rfl rfl dX8_leave_118 (fun σ_4 H locs h1 hZ => ?_)
    refine lv_aload_n hx hb dX8_leave_121 rfl (lv_at hl 0 rfl) ?_
    refine z_getr C0 hZ hk0 fRX8_105 rfl dX8_leave_122 ?_
    refine lv_aload_n hx hb dX8_leave_125 rfl (lv_at hl 0 rfl) ?_
    refine z_getr C0 hZ hk0 fRX8_111 rfl dX8_leave_126 ?_
    refine lv_iload_n hx hb dX8_leave_129 rfl (lv_at hl 1 rfl) ?_
    refine z_iald C0 hZ h1 (zkt8_44 hk0) dX8_leave_130 (fun h1 => ?_)
    refine lv_dup2_11 hx hb dX8_leave_131 rfl rfl ?_
    refine z_iald C0 hZ h1 (zkt8_42 hk0) dX8_leave_132 (fun h1 => ?_)
    refine lv_iconst (v := 1) hx hb dX8_leave_133 (by decide) ?_
    refine lv_iadd hx hb dX8_leave_134 ?_
    refine z_iast C0 hZ h1 (zkt8_42 hk0) dX8_leave_135 (fun σ_5 H locs h1 hZ => ?_)
    refine lv_goto (tgt := 169) hx hb dX8_leave_136 (by decide) ?_
    exact J169  _ _ _ _  hZ (lv_sub hl [0, 1] rfl) h1
  refine lv_aload_n hx hb dX8_leave_0 rfl (lv_at hl 0 rfl) ?_
  refine z_getr C0 hZ hk0 fRX8_108 rfl dX8_leave_1 ?_
  refine lv_iload_n hx hb dX8_leave_4 rfl (lv_at hl 1 rfl) ?_
  refine lv_bipush (v := (-2)) hx hb dX8_leave_5 (by decide) ?_
  refine z_iast C0 hZ h1 (zkt8_43 hk0) dX8_leave_7 (fun σ_6 H locs h1 hZ => ?_)
  refine lv_aload_n hx hb dX8_leave_8 rfl (lv_at hl 0 rfl) ?_
  refine z_getr C0 hZ hk0 fRX8_111 rfl dX8_leave_9 ?_
  refine lv_iload_n hx hb dX8_leave_12 rfl (lv_at hl 1 rfl) ?_
  refine z_iald C0 hZ h1 (zkt8_44 hk0) dX8_leave_13 (fun h1 => ?_)
  refine lv_iconst (v := (-1)) hx hb dX8_leave_14 (by decide) ?_
  refine z_ic_ne (tgt := 19) C0 h1 dX8_leave_15 (by decide) (fun h1 => ?_) (fun h1 => ?_)
  · refine lv_aload_n hx hb dX8_leave_19 rfl (lv_at hl 0 rfl) ?_
    refine z_geti C0 hZ hk0 fRX8_381 rfl dX8_leave_20 ?_
    refine lv_iload_n hx hb dX8_leave_23 rfl (lv_at hl 1 rfl) ?_
    refine z_cSi (As := [.int (σ_6 k0 52), .int x1]) (rest := []) C0 hZ h1 (fun _ hf => kX8_isOf l  hf) mRX8_383 sX8_isOf rfl rfl hl.1 (Nat.le_of_ble_eq_true rfl) ⟨Nat.le_of_ble_eq_true rfl, Nat.le_of_ble_eq_true rfl⟩ dX8_leave_24 ⟨Nat.le_of_ble_eq_true rfl, Nat.le_of_ble_eq_true rfl⟩ (fun r_8 σ_7 H locs h1 hZ => ?_)
    refine z_istore_n C0 h1 hl (fun x2_9 => [(2, .int x2_9), (0, .ref (zad V k0)), (1, .int x1)]) dX8_leave_27 rfl (by decide) (fun _ => rfl) (fun x2_9 ls h1 hl => ?_)
    refine lv_aload_n hx hb dX8_leave_28 rfl (lv_at hl 1 rfl) ?_
    refine z_geti C0 hZ hk0 fRX8_386 rfl dX8_leave_29 ?_
    refine lv_iload_n hx hb dX8_leave_32 rfl (lv_at hl 2 rfl) ?_
    refine z_cSi (As := [.int (σ_7 k0 53), .int x1]) (rest := []) C0 hZ h1 (fun _ hf => kX8_isOf l  hf) mRX8_383 sX8_isOf rfl rfl hl.1 (Nat.le_of_ble_eq_true rfl) ⟨Nat.le_of_ble_eq_true rfl, Nat.le_of_ble_eq_true rfl⟩ dX8_leave_33 ⟨Nat.le_of_ble_eq_true rfl, Nat.le_of_ble_eq_true rfl⟩ (fun r_11 σ_10 H locs h1 hZ => ?_)
    refine z_istore_n C0 h1 hl (fun x3_12 => [(3, .int x3_12), (2, .int x2_9), (0, .ref (zad V k0)), (1, .int x1)]) dX8_leave_36 rfl (by decide) (fun _ => rfl) (fun x3_12 ls h1 hl => ?_)
    refine lv_aload_n hx hb dX8_leave_37 rfl (lv_at hl 2 rfl) ?_
    refine z_getr C0 hZ hk0 fRX8_55 rfl dX8_leave_38 ?_
    refine lv_iload_n hx hb dX8_leave_41 rfl (lv_at hl 3 rfl) ?_
    refine z_iald C0 hZ h1 (zkt8_8 hk0) dX8_leave_42 (fun h1 => ?_)
    refine z_if_ne (tgt := 85) C0 h1 dX8_leave_43 (by decide) (fun h1 => ?_) (fun h1 => ?_)
    · refine lv_iload_n hx hb dX8_leave_85 rfl (lv_at hl 1 rfl) ?_
      refine z_if_eq (tgt := 139) C0 h1 dX8_leave_86 (by decide) (fun h1 => ?_) (fun h1 => ?_)
      · exact J139  _ _ _ _  hZ (lv_sub hl [2, 3] rfl) h1
      refine lv_aload_n hx hb dX8_leave_89 rfl (lv_at hl 2 rfl) ?_
      refine z_geti C0 hZ hk0 fRX8_372 rfl dX8_leave_90 ?_
      refine lv_iconst (v := 2) hx hb dX8_leave_93 (by decide) ?_
      refine z_ic_eq (tgt := 109) C0 h1 dX8_leave_94 (by decide) (fun h1 => ?_) (fun h1 => ?_)
      · exact J109  _ _ _ _  hZ (lv_sub hl [2, 3] rfl) h1
      refine lv_aload_n hx hb dX8_leave_97 rfl (lv_at hl 2 rfl) ?_
      refine z_geti C0 hZ hk0 fRX8_372 rfl dX8_leave_98 ?_
      refine lv_iconst (v := 1) hx hb dX8_leave_101 (by decide) ?_
      refine z_ic_ne (tgt := 139) C0 h1 dX8_leave_102 (by decide) (fun h1 => ?_) (fun h1 => ?_)
      · exact J139  _ _ _ _  hZ (lv_sub hl [2, 3] rfl) h1
      refine lv_iload_n hx hb dX8_leave_105 rfl (lv_at hl 0 rfl) ?_
      refine z_if_eq (tgt := 139) C0 h1 dX8_leave_106 (by decide) (fun h1 => ?_) (fun h1 => ?_)
      · exact J139  _ _ _ _  hZ (lv_sub hl [2, 3] rfl) h1
      exact J109  _ _ _ _  hZ (lv_sub hl [2, 3] rfl) h1
    refine lv_aload_n hx hb dX8_leave_46 rfl (lv_at hl 2 rfl) ?_
    refine lv_dup hx hb dX8_leave_47 rfl ?_
    refine z_geti C0 hZ hk0 fRX8_389 rfl dX8_leave_48 ?_
    refine lv_iconst (v := 1) hx hb dX8_leave_51 (by decide) ?_
    refine lv_iadd hx hb dX8_leave_52 ?_
    refine z_puti C0 hZ h1 hk0 fRX8_389 rfl tyX8_ok nmX8 rfl rfl rfl dX8_leave_53 (fun σ_13 H locs h1 hZ => ?_)
    refine lv_aload_n hx hb dX8_leave_56 rfl (lv_at hl 2 rfl) ?_
    refine z_geti C0 hZ hk0 fRX8_372 rfl dX8_leave_57 ?_
    refine lv_iconst (v := 2) hx hb dX8_leave_60 (by decide) ?_
    refine z_ic_ne (tgt := 169) C0 h1 dX8_leave_61 (by decide) (fun h1 => ?_) (fun h1 => ?_)
    · exact J169  _ _ _ _  hZ (lv_sub hl [2, 3] rfl) h1
    refine lv_iload_n hx hb dX8_leave_64 rfl (lv_at hl 1 rfl) ?_
    refine z_if_eq (tgt := 169) C0 h1 dX8_leave_65 (by decide) (fun h1 => ?_) (fun h1 => ?_)
    · exact J169  _ _ _ _  hZ (lv_sub hl [2, 3] rfl) h1
    refine lv_iload_n hx hb dX8_leave_68 rfl (lv_at hl 0 rfl) ?_
    refine z_if_ne (tgt := 169) C0 h1 dX8_leave_69 (by decide) (fun h1 => ?_) (fun h1 => ?_)
    · exact J169  _ _ _ _  hZ (lv_sub hl [2, 3] rfl) h1
    refine lv_aload_n hx hb dX8_leave_72 rfl (lv_at hl 2 rfl) ?_
    refine lv_dup hx hb dX8_leave_73 rfl ?_
    refine z_geti C0 hZ hk0 fRX8_392 rfl dX8_leave_74 ?_
    refine lv_iconst (v := 1) hx hb dX8_leave_77 (by decide) ?_
    refine lv_iadd hx hb dX8_leave_78 ?_
    refine z_puti C0 hZ h1 hk0 fRX8_392 rfl tyX8_ok nmX8 rfl rfl rfl dX8_leave_79 (fun σ_14 H locs h1 hZ => ?_)
    refine lv_goto (tgt := 169) hx hb dX8_leave_82 (by decide) ?_
    exact J169  _ _ _ _  hZ (lv_sub hl [2, 3] rfl) h1
  rw [hQ]; exact z_vret C0 hr hlk hZ h1 dX8_leave_18
noncomputable def FX8_seconds (k0 : Nat) (x1 : Int32) (x2 : Int32) (σ : zS) : Option (Int32 × zS) := zin (ln 1 (k0 + 9)) x1 (some (((x2 - (σ (k0 + 9) (Int32.toNatClampNeg x1))) + 1), σ))
set_option maxHeartbeats 4000000 in
set_option maxRecDepth 100000 in
theorem kX8_seconds (l : Launch) {V : zV} {σ : zS} {t0 : Int32 × zS} {k0 : Nat} {x1 : Int32} {x2 : Int32} (hk0 : kd 1 k0 = 8) (h1 : FX8_seconds k0 x1 x2 σ = some t0) : zMi l yX8_seconds cX8_seconds 3 (some .int) 0 0 1 V σ t0 [.ref (zad V k0), .int x1, .int x2] := by
  refine zMi_of (by decide) (Nat.le_of_ble_eq_true rfl) ?_
  intro p e s m below meth c A C0 hr hlk hZ ls hl
  generalize ([.ref (zad V k0), .int x1, .int x2] : List Value).toArray = args at C0 ⊢
  obtain ⟨Q, hQ⟩ : ∃ Q, Q = MQ below (zQi 1 V t0 A) args s 0 0 A := ⟨_, rfl⟩
  rw [← hQ]
  have hx := C0.1
  have hb := C0.2.1
  have hl : lv_has ls 3 [(0, .ref (zad V k0)), (1, .int x1), (2, .int x2)] := hl
  unfold FX8_seconds at h1
  refine lv_iload_n hx hb dX8_seconds_0 rfl (lv_at hl 2 rfl) ?_
  refine lv_aload_n hx hb dX8_seconds_1 rfl (lv_at hl 0 rfl) ?_
  refine z_getr C0 hZ hk0 fRX8_58 rfl dX8_seconds_2 ?_
  refine lv_iload_n hx hb dX8_seconds_5 rfl (lv_at hl 1 rfl) ?_
  refine z_iald C0 hZ h1 (zkt8_9 hk0) dX8_seconds_6 (fun h1 => ?_)
  refine lv_isub hx hb dX8_seconds_7 ?_
  refine lv_iconst (v := 1) hx hb dX8_seconds_8 (by decide) ?_
  refine lv_iadd hx hb dX8_seconds_9 ?_
  rw [hQ]; exact z_iret C0 hr hlk hZ h1 dX8_seconds_10
