noncomputable def FX8_shop_b17 (k0 : Nat) (σ : zS) : Option (Int32 × zS) := zbd (FX8_fail k0 1 σ) (fun r_2 σ_1 => some (r_2, σ_1))
noncomputable def FX8_shop_b132 (k0 : Nat) (σ : zS) : Option (Int32 × zS) := if (σ k0 25) = 0 then zbd (FX8_takeOver k0 σ) (fun _ σ_3 => some (0, σ_3)) else zlet (zup σ k0 27 (σ k0 26)) (fun σ_5 => zin (ln 1 (k0 + 16)) 0 (zin (ln 1 (k0 + 16)) 0 (zlet (zup σ_5 (k0 + 16) (Int32.toNatClampNeg 0) ((σ_5 (k0 + 16) (Int32.toNatClampNeg 0)) + 1)) (fun σ_6 => some ((σ_6 k0 25), σ_6)))))
noncomputable def FX8_shop_L109 (k0 : Nat) (x2 : Int32) (σ : zS) : Option ((Int32 × zS) ⊕ (Int32 × zS)) := if (σ k0 25) = 0 then if (σ k0 21) = 0 then zinr (FX8_shop_b132 k0 σ) else zbd (FX8_readLine k0 x2 σ) (fun r_8 σ_7 => zlet r_8 (fun x2_9 => some (.inl (x2_9, σ_7)))) else zinr (FX8_shop_b132 k0 σ)
noncomputable def FX8_shop_b103 (k0 : Nat) (σ : zS) : Option (Int32 × zS) := zbd (FX8_stepOn k0 σ) (fun _ σ_10 => zlet 0 (fun x2_12 => zlp (fun q => FX8_shop_L109 k0 q.1 q.2) (x2_12, σ_10)))
noncomputable def FX8_shop_b96 (k0 : Nat) (x2 : Int32) (q0 : Nat) (y1 : Int32) (y2 : Int32) (σ : zS) : Option ((Int32 × zS) ⊕ (Int32 × zS)) := zin (ln 1 q0) y1 (zlet (zup σ q0 (Int32.toNatClampNeg y1) y2) (fun σ_13 => zlet (x2 + 1) (fun x2_14 => some (.inl (x2_14, σ_13)))))
noncomputable def FX8_shop_L50 (k0 : Nat) (x2 : Int32) (σ : zS) : Option ((Int32 × zS) ⊕ (Int32 × zS)) := if 9 ≤ x2 then zinr (FX8_shop_b103 k0 σ) else if x2 = 5 then FX8_shop_b96 k0 x2 (k0 + 3) (9 + x2) 3 σ else if x2 = 6 then FX8_shop_b96 k0 x2 (k0 + 3) (9 + x2) 400 σ else if x2 = 7 then FX8_shop_b96 k0 x2 (k0 + 3) (9 + x2) 1 σ else FX8_shop_b96 k0 x2 (k0 + 3) (9 + x2) 0 σ
noncomputable def FX8_shop (k0 : Nat) (x1 : Int32) (σ : zS) : Option (Int32 × zS) := zlet (zup σ k0 2 0) (fun σ_15 => if x1 < 0 then FX8_shop_b17 k0 σ_15 else if x1 ≤ (σ_15 k0 18) then zlet (zup σ_15 k0 18 0) (fun σ_16 => zlet (zup σ_16 k0 20 x1) (fun σ_17 => zlet (zup σ_17 k0 19 0) (fun σ_18 => zlet (zup σ_18 k0 25 0) (fun σ_19 => zlet (zup σ_19 k0 27 (-1)) (fun σ_20 => zlet 0 (fun x2_21 => zlp (fun q => FX8_shop_L50 k0 q.1 q.2) (x2_21, σ_20))))))) else FX8_shop_b17 k0 σ_15)
set_option maxHeartbeats 4000000 in
set_option maxRecDepth 100000 in
theorem kX8_shop (l : Launch) {V : zV} {σ : zS} {t0 : Int32 × zS} {k0 : Nat} {x1 : Int32} (hk0 : kd 1 k0 = 8) (h1 : FX8_shop k0 x1 σ = some t0) : zMi l yX8_shop cX8_shop 3 (some .int) 213 8492 1 V σ t0 [.ref (zad V k0), .int x1] := by
  refine zMi_of (by decide) (Nat.le_of_ble_eq_true rfl) ?_
  intro p e s m below meth c A C0 hr hlk hZ ls hl
  generalize ([.ref (zad V k0), .int x1] : List Value).toArray = args at C0 ⊢
  obtain ⟨Q, hQ⟩ : ∃ Q, Q = MQ below (zQi 1 V t0 A) args s 0 0 A := ⟨_, rfl⟩
  rw [← hQ]
  have hx := C0.1
  have hb := C0.2.1
  have hl : lv_has ls 3 [(0, .ref (zad V k0)), (1, .int x1)] := hl
  unfold FX8_shop at h1
  have J17 : ∀  (σ : zS) (H : Heap) (locs : List Loc) (ls : Array Slot), zZ 1 V A σ s H locs → lv_has ls 3 [(0, .ref (zad V k0))] → FX8_shop_b17 k0 σ = some t0 → W p l e (zrm 213 8492) s m args below meth c H locs 0 0 Q (F0 m 17 ls []) := by
    intro  σ H locs ls  hZ hl h1
    unfold FX8_shop_b17 at h1
    refine lv_aload_n hx hb dX8_shop_17 rfl (lv_at hl 0 rfl) ?_
    refine lv_iconst (v := 1) hx hb dX8_shop_18 (by decide) ?_
    refine z_cVi (As := [.int 1]) (rest := []) C0 hZ h1 (fun _ hf => kX8_fail l hk0 hf) mRX8_310 vX8_fail hk0 rfl rfl hl.1 (Nat.le_of_ble_eq_true rfl) ⟨Nat.le_of_ble_eq_true rfl, Nat.le_of_ble_eq_true rfl⟩ dX8_shop_19 ⟨Nat.le_of_ble_eq_true rfl, Nat.le_of_ble_eq_true rfl⟩ (fun r_2 σ_1 H locs h1 hZ => ?_)
    rw [hQ]; exact z_iret C0 hr hlk hZ h1 dX8_shop_22
  have J132 : ∀  (σ : zS) (H : Heap) (locs : List Loc) (ls : Array Slot), zZ 1 V A σ s H locs → lv_has ls 3 [(0, .ref (zad V k0))] → FX8_shop_b132 k0 σ = some t0 → W p l e (zrm 213 8492) s m args below meth c H locs 0 0 Q (F0 m 132 ls []) := by
    intro  σ H locs ls  hZ hl h1
    unfold FX8_shop_b132 at h1
    refine lv_aload_n hx hb dX8_shop_132 rfl (lv_at hl 0 rfl) ?_
    refine z_geti C0 hZ hk0 fRX8_210 rfl dX8_shop_133 ?_
    refine z_if_eq (tgt := 162) C0 h1 dX8_shop_136 (by decide) (fun h1 => ?_) (fun h1 => ?_)
    · refine lv_aload_n hx hb dX8_shop_162 rfl (lv_at hl 0 rfl) ?_
      refine z_cVv (As := []) (rest := []) C0 hZ h1 (fun _ hf => kX8_takeOver l hk0 hf) mRX8_316 vX8_takeOver hk0 rfl rfl hl.1 (Nat.le_of_ble_eq_true rfl) ⟨Nat.le_of_ble_eq_true rfl, Nat.le_of_ble_eq_true rfl⟩ dX8_shop_163 ⟨Nat.le_of_ble_eq_true rfl, Nat.le_of_ble_eq_true rfl⟩ (fun _ σ_3 H locs h1 hZ => ?_)
      refine lv_iconst (v := 0) hx hb dX8_shop_166 (by decide) ?_
      rw [hQ]; exact z_iret C0 hr hlk hZ h1 dX8_shop_167
    refine lv_aload_n hx hb dX8_shop_139 rfl (lv_at hl 0 rfl) ?_
    refine lv_aload_n hx hb dX8_shop_140 rfl (lv_at hl 0 rfl) ?_
    refine z_geti C0 hZ hk0 fRX8_213 rfl dX8_shop_141 ?_
    refine z_puti C0 hZ h1 hk0 fRX8_84 rfl tyX8_ok nmX8 rfl rfl rfl dX8_shop_144 (fun σ_5 H locs h1 hZ => ?_)
    refine lv_aload_n hx hb dX8_shop_147 rfl (lv_at hl 0 rfl) ?_
    refine z_getr C0 hZ hk0 fRX8_78 rfl dX8_shop_148 ?_
    refine lv_iconst (v := 0) hx hb dX8_shop_151 (by decide) ?_
    refine lv_dup2_11 hx hb dX8_shop_152 rfl rfl ?_
    refine z_iald C0 hZ h1 (zkt8_16 hk0) dX8_shop_153 (fun h1 => ?_)
    refine lv_iconst (v := 1) hx hb dX8_shop_154 (by decide) ?_
    refine lv_iadd hx hb dX8_shop_155 ?_
    refine z_iast C0 hZ h1 (zkt8_16 hk0) dX8_shop_156 (fun σ_6 H locs h1 hZ => ?_)
    refine lv_aload_n hx hb dX8_shop_157 rfl (lv_at hl 0 rfl) ?_
    refine z_geti C0 hZ hk0 fRX8_210 rfl dX8_shop_158 ?_
    rw [hQ]; exact z_iret C0 hr hlk hZ h1 dX8_shop_161
  have J109 : ∀ (n : Nat) (x2 : Int32) (σ : zS) (H : Heap) (locs : List Loc) (ls : Array Slot), zZ 1 V A σ s H locs → lv_has ls 3 [(0, .ref (zad V k0)), (2, .int x2)] → zit (fun q => FX8_shop_L109 k0 q.1 q.2) n (x2, σ) = some t0 → W p l e (zrm 213 8492) s m args below meth c H locs 0 0 Q (F0 m 109 ls []) := by
    intro n
    induction n with
    | zero => intro x2 σ H locs ls  _ _ h1; cases h1
    | succ n ih109 =>
      intro x2 σ H locs ls  hZ hl h1
      obtain ⟨t1, h1, hz1⟩ := zit_1 h1
      replace h1 : FX8_shop_L109 k0 x2 σ = some t1 := h1
      unfold FX8_shop_L109 at h1
      refine lv_aload_n hx hb dX8_shop_109 rfl (lv_at hl 0 rfl) ?_
      refine z_geti C0 hZ hk0 fRX8_210 rfl dX8_shop_110 ?_
      refine z_if_ne (tgt := 132) C0 h1 dX8_shop_113 (by decide) (fun h1 => ?_) (fun h1 => ?_)
      · have h1 := zout h1 hz1
        exact J132  _ _ _ _  hZ (lv_sub hl [0] rfl) h1
      refine lv_aload_n hx hb dX8_shop_116 rfl (lv_at hl 0 rfl) ?_
      refine z_geti C0 hZ hk0 fRX8_184 rfl dX8_shop_117 ?_
      refine z_if_eq (tgt := 132) C0 h1 dX8_shop_120 (by decide) (fun h1 => ?_) (fun h1 => ?_)
      · have h1 := zout h1 hz1
        exact J132  _ _ _ _  hZ (lv_sub hl [0] rfl) h1
      refine lv_aload_n hx hb dX8_shop_123 rfl (lv_at hl 0 rfl) ?_
      refine lv_iload_n hx hb dX8_shop_124 rfl (lv_at hl 1 rfl) ?_
      refine z_cVi (As := [.int x2]) (rest := []) C0 hZ h1 (fun _ hf => kX8_readLine l hk0 hf) mRX8_313 vX8_readLine hk0 rfl rfl hl.1 (Nat.le_of_ble_eq_true rfl) ⟨Nat.le_of_ble_eq_true rfl, Nat.le_of_ble_eq_true rfl⟩ dX8_shop_125 ⟨Nat.le_of_ble_eq_true rfl, Nat.le_of_ble_eq_true rfl⟩ (fun r_8 σ_7 H locs h1 hZ => ?_)
      refine z_istore_n C0 h1 hl (fun x2_9 => [(2, .int x2_9), (0, .ref (zad V k0))]) dX8_shop_128 rfl (by decide) (fun _ => rfl) (fun x2_9 ls h1 hl => ?_)
      refine lv_goto (tgt := 109) hx hb dX8_shop_129 (by decide) ?_
      exact ih109 x2_9 _ _ _ _  hZ (lv_sub hl [1, 0] rfl) (zback h1 hz1)
  have J103 : ∀  (σ : zS) (H : Heap) (locs : List Loc) (ls : Array Slot), zZ 1 V A σ s H locs → lv_has ls 3 [(0, .ref (zad V k0))] → FX8_shop_b103 k0 σ = some t0 → W p l e (zrm 213 8492) s m args below meth c H locs 0 0 Q (F0 m 103 ls []) := by
    intro  σ H locs ls  hZ hl h1
    unfold FX8_shop_b103 at h1
    refine lv_aload_n hx hb dX8_shop_103 rfl (lv_at hl 0 rfl) ?_
    refine z_cVv (As := []) (rest := []) C0 hZ h1 (fun _ hf => kX8_stepOn l hk0 hf) mRX8_235 vX8_stepOn hk0 rfl rfl hl.1 (Nat.le_of_ble_eq_true rfl) ⟨Nat.le_of_ble_eq_true rfl, Nat.le_of_ble_eq_true rfl⟩ dX8_shop_104 ⟨Nat.le_of_ble_eq_true rfl, Nat.le_of_ble_eq_true rfl⟩ (fun _ σ_10 H locs h1 hZ => ?_)
    refine lv_iconst (v := 0) hx hb dX8_shop_107 (by decide) ?_
    refine z_istore_n C0 h1 hl (fun x2_12 => [(2, .int x2_12), (0, .ref (zad V k0))]) dX8_shop_108 rfl (by decide) (fun _ => rfl) (fun x2_12 ls h1 hl => ?_)
    obtain ⟨n, h1⟩ := zlp_iff.mp h1
    exact J109 n x2_12 _ _ _ _  hZ (lv_sub hl [1, 0] rfl) h1
  have J50 : ∀ (n : Nat) (x2 : Int32) (σ : zS) (H : Heap) (locs : List Loc) (ls : Array Slot), zZ 1 V A σ s H locs → lv_has ls 3 [(0, .ref (zad V k0)), (2, .int x2)] → zit (fun q => FX8_shop_L50 k0 q.1 q.2) n (x2, σ) = some t0 → W p l e (zrm 213 8492) s m args below meth c H locs 0 0 Q (F0 m 50 ls []) := by
    intro n
    induction n with
    | zero => intro x2 σ H locs ls  _ _ h1; cases h1
    | succ n ih50 =>
      intro x2 σ H locs ls  hZ hl h1
      obtain ⟨t1, h1, hz1⟩ := zit_1 h1
      have J96 : ∀ (x2 : Int32) (q0 : Nat) (y1 : Int32) (y2 : Int32) (σ : zS) (H : Heap) (locs : List Loc) (ls : Array Slot), kd 1 q0 = 100 → zZ 1 V A σ s H locs → lv_has ls 3 [(0, .ref (zad V k0)), (2, .int x2)] → FX8_shop_b96 k0 x2 q0 y1 y2 σ = some t1 → W p l e (zrm 213 8492) s m args below meth c H locs 0 0 Q (F0 m 96 ls [.int y2, .int y1, .ref (zad V q0)]) := by
        intro x2 q0 y1 y2 σ H locs ls hq0 hZ hl h1
        unfold FX8_shop_b96 at h1
        refine z_iast C0 hZ h1 hq0 dX8_shop_96 (fun σ_13 H locs h1 hZ => ?_)
        refine z_iinc (v := 1) C0 h1 hl (fun x2_14 => [(2, .int x2_14), (0, .ref (zad V k0))]) dX8_shop_97 (k := 1) rfl (by decide) (by decide) (fun _ => rfl) (fun x2_14 ls h1 hl => ?_)
        refine lv_goto (tgt := 50) hx hb dX8_shop_100 (by decide) ?_
        exact ih50 x2_14 _ _ _ _  hZ (lv_sub hl [1, 0] rfl) (zback h1 hz1)
      replace h1 : FX8_shop_L50 k0 x2 σ = some t1 := h1
      unfold FX8_shop_L50 at h1
      refine lv_iload_n hx hb dX8_shop_50 rfl (lv_at hl 1 rfl) ?_
      refine lv_bipush (v := 9) hx hb dX8_shop_51 (by decide) ?_
      refine z_ic_ge (tgt := 103) C0 h1 dX8_shop_53 (by decide) (fun h1 => ?_) (fun h1 => ?_)
      · have h1 := zout h1 hz1
        exact J103  _ _ _ _  hZ (lv_sub hl [0] rfl) h1
      refine lv_aload_n hx hb dX8_shop_56 rfl (lv_at hl 0 rfl) ?_
      refine z_getr C0 hZ hk0 fRX8_40 rfl dX8_shop_57 ?_
      refine lv_bipush (v := 9) hx hb dX8_shop_60 (by decide) ?_
      refine lv_iload_n hx hb dX8_shop_62 rfl (lv_at hl 1 rfl) ?_
      refine lv_iadd hx hb dX8_shop_63 ?_
      refine lv_iload_n hx hb dX8_shop_64 rfl (lv_at hl 1 rfl) ?_
      refine lv_iconst (v := 5) hx hb dX8_shop_65 (by decide) ?_
      refine z_ic_ne (tgt := 73) C0 h1 dX8_shop_66 (by decide) (fun h1 => ?_) (fun h1 => ?_)
      · refine lv_iload_n hx hb dX8_shop_73 rfl (lv_at hl 1 rfl) ?_
        refine lv_bipush (v := 6) hx hb dX8_shop_74 (by decide) ?_
        refine z_ic_ne (tgt := 85) C0 h1 dX8_shop_76 (by decide) (fun h1 => ?_) (fun h1 => ?_)
        · refine lv_iload_n hx hb dX8_shop_85 rfl (lv_at hl 1 rfl) ?_
          refine lv_bipush (v := 7) hx hb dX8_shop_86 (by decide) ?_
          refine z_ic_ne (tgt := 95) C0 h1 dX8_shop_88 (by decide) (fun h1 => ?_) (fun h1 => ?_)
          · refine lv_iconst (v := 0) hx hb dX8_shop_95 (by decide) ?_
            exact J96 x2 (k0 + 3) (9 + x2) 0 _ _ _ _ (zkt8_3 hk0) hZ (lv_sub hl [0, 1] rfl) h1
          refine lv_iconst (v := 1) hx hb dX8_shop_91 (by decide) ?_
          refine lv_goto (tgt := 96) hx hb dX8_shop_92 (by decide) ?_
          exact J96 x2 (k0 + 3) (9 + x2) 1 _ _ _ _ (zkt8_3 hk0) hZ (lv_sub hl [0, 1] rfl) h1
        refine lv_sipush (v := 400) hx hb dX8_shop_79 (by decide) ?_
        refine lv_goto (tgt := 96) hx hb dX8_shop_82 (by decide) ?_
        exact J96 x2 (k0 + 3) (9 + x2) 400 _ _ _ _ (zkt8_3 hk0) hZ (lv_sub hl [0, 1] rfl) h1
      refine lv_iconst (v := 3) hx hb dX8_shop_69 (by decide) ?_
      refine lv_goto (tgt := 96) hx hb dX8_shop_70 (by decide) ?_
      exact J96 x2 (k0 + 3) (9 + x2) 3 _ _ _ _ (zkt8_3 hk0) hZ (lv_sub hl [0, 1] rfl) h1
  refine lv_aload_n hx hb dX8_shop_0 rfl (lv_at hl 0 rfl) ?_
  refine lv_iconst (v := 0) hx hb dX8_shop_1 (by decide) ?_
  refine z_puti C0 hZ h1 hk0 fRX8_159 rfl tyX8_ok nmX8 rfl rfl rfl dX8_shop_2 (fun σ_15 H locs h1 hZ => ?_)
  refine lv_iload_n hx hb dX8_shop_5 rfl (lv_at hl 1 rfl) ?_
  refine z_if_lt (tgt := 17) C0 h1 dX8_shop_6 (by decide) (fun h1 => ?_) (fun h1 => ?_)
  · exact J17  _ _ _ _  hZ (lv_sub hl [0] rfl) h1
  refine lv_iload_n hx hb dX8_shop_9 rfl (lv_at hl 1 rfl) ?_
  refine lv_aload_n hx hb dX8_shop_10 rfl (lv_at hl 0 rfl) ?_
  refine z_geti C0 hZ hk0 fRX8_168 rfl dX8_shop_11 ?_
  refine z_ic_le (tgt := 23) C0 h1 dX8_shop_14 (by decide) (fun h1 => ?_) (fun h1 => ?_)
  · refine lv_aload_n hx hb dX8_shop_23 rfl (lv_at hl 0 rfl) ?_
    refine lv_iconst (v := 0) hx hb dX8_shop_24 (by decide) ?_
    refine z_puti C0 hZ h1 hk0 fRX8_168 rfl tyX8_ok nmX8 rfl rfl rfl dX8_shop_25 (fun σ_16 H locs h1 hZ => ?_)
    refine lv_aload_n hx hb dX8_shop_28 rfl (lv_at hl 0 rfl) ?_
    refine lv_iload_n hx hb dX8_shop_29 rfl (lv_at hl 1 rfl) ?_
    refine z_puti C0 hZ h1 hk0 fRX8_171 rfl tyX8_ok nmX8 rfl rfl rfl dX8_shop_30 (fun σ_17 H locs h1 hZ => ?_)
    refine lv_aload_n hx hb dX8_shop_33 rfl (lv_at hl 0 rfl) ?_
    refine lv_iconst (v := 0) hx hb dX8_shop_34 (by decide) ?_
    refine z_puti C0 hZ h1 hk0 fRX8_174 rfl tyX8_ok nmX8 rfl rfl rfl dX8_shop_35 (fun σ_18 H locs h1 hZ => ?_)
    refine lv_aload_n hx hb dX8_shop_38 rfl (lv_at hl 0 rfl) ?_
    refine lv_iconst (v := 0) hx hb dX8_shop_39 (by decide) ?_
    refine z_puti C0 hZ h1 hk0 fRX8_210 rfl tyX8_ok nmX8 rfl rfl rfl dX8_shop_40 (fun σ_19 H locs h1 hZ => ?_)
    refine lv_aload_n hx hb dX8_shop_43 rfl (lv_at hl 0 rfl) ?_
    refine lv_iconst (v := (-1)) hx hb dX8_shop_44 (by decide) ?_
    refine z_puti C0 hZ h1 hk0 fRX8_84 rfl tyX8_ok nmX8 rfl rfl rfl dX8_shop_45 (fun σ_20 H locs h1 hZ => ?_)
    refine lv_iconst (v := 0) hx hb dX8_shop_48 (by decide) ?_
    refine z_istore_n C0 h1 hl (fun x2_21 => [(2, .int x2_21), (0, .ref (zad V k0)), (1, .int x1)]) dX8_shop_49 rfl (by decide) (fun _ => rfl) (fun x2_21 ls h1 hl => ?_)
    obtain ⟨n, h1⟩ := zlp_iff.mp h1
    exact J50 n x2_21 _ _ _ _  hZ (lv_sub hl [1, 0] rfl) h1
  exact J17  _ _ _ _  hZ (lv_sub hl [0] rfl) h1
noncomputable def FX8_fault (k0 : Nat) (σ : zS) : Option (Int32 × zS) := zlet (zup σ k0 2 0) (fun σ_1 => some ((σ_1 k0 27), σ_1))
set_option maxHeartbeats 4000000 in
set_option maxRecDepth 100000 in
theorem kX8_fault (l : Launch) {V : zV} {σ : zS} {t0 : Int32 × zS} {k0 : Nat} (hk0 : kd 1 k0 = 8) (h1 : FX8_fault k0 σ = some t0) : zMi l yX8_fault cX8_fault 1 (some .int) 0 0 1 V σ t0 [.ref (zad V k0)] := by
  refine zMi_of (by decide) (Nat.le_of_ble_eq_true rfl) ?_
  intro p e s m below meth c A C0 hr hlk hZ ls hl
  generalize ([.ref (zad V k0)] : List Value).toArray = args at C0 ⊢
  obtain ⟨Q, hQ⟩ : ∃ Q, Q = MQ below (zQi 1 V t0 A) args s 0 0 A := ⟨_, rfl⟩
  rw [← hQ]
  have hx := C0.1
  have hb := C0.2.1
  have hl : lv_has ls 1 [(0, .ref (zad V k0))] := hl
  unfold FX8_fault at h1
  refine lv_aload_n hx hb dX8_fault_0 rfl (lv_at hl 0 rfl) ?_
  refine lv_iconst (v := 0) hx hb dX8_fault_1 (by decide) ?_
  refine z_puti C0 hZ h1 hk0 fRX8_159 rfl tyX8_ok nmX8 rfl rfl rfl dX8_fault_2 (fun σ_1 H locs h1 hZ => ?_)
  refine lv_aload_n hx hb dX8_fault_5 rfl (lv_at hl 0 rfl) ?_
  refine z_geti C0 hZ hk0 fRX8_84 rfl dX8_fault_6 ?_
  rw [hQ]; exact z_iret C0 hr hlk hZ h1 dX8_fault_9
noncomputable def FX8_far_b40 (y0 : Int32) (σ : zS) : Option (Int32 × zS) := some (y0, σ)
noncomputable def FX8_far_b35 (k0 : Nat) (σ : zS) : Option (Int32 × zS) := zbd (FX8_fail k0 1 σ) (fun r_2 σ_1 => FX8_far_b40 r_2 σ_1)
noncomputable def FX8_far (k0 : Nat) (x1 : Int32) (x2 : Int32) (σ : zS) : Option (Int32 × zS) := zlet (zup σ k0 2 0) (fun σ_3 => zbd (FX8_isAisle k0 x1 σ_3) (fun r_5 σ_4 => if r_5 = 0 then FX8_far_b35 k0 σ_4 else zbd (FX8_isAisle k0 x2 σ_4) (fun r_7 σ_6 => if r_7 = 0 then FX8_far_b35 k0 σ_6 else zin (ln 1 (k0 + 18)) ((10 * x1) + x2) (FX8_far_b40 (σ_6 (k0 + 18) (Int32.toNatClampNeg ((10 * x1) + x2))) σ_6))))
set_option maxHeartbeats 4000000 in
set_option maxRecDepth 100000 in
theorem kX8_far (l : Launch) {V : zV} {σ : zS} {t0 : Int32 × zS} {k0 : Nat} {x1 : Int32} {x2 : Int32} (hk0 : kd 1 k0 = 8) (h1 : FX8_far k0 x1 x2 σ = some t0) : zMi l yX8_far cX8_far 3 (some .int) 2 46 1 V σ t0 [.ref (zad V k0), .int x1, .int x2] := by
  refine zMi_of (by decide) (Nat.le_of_ble_eq_true rfl) ?_
  intro p e s m below meth c A C0 hr hlk hZ ls hl
  generalize ([.ref (zad V k0), .int x1, .int x2] : List Value).toArray = args at C0 ⊢
  obtain ⟨Q, hQ⟩ : ∃ Q, Q = MQ below (zQi 1 V t0 A) args s 0 0 A := ⟨_, rfl⟩
  rw [← hQ]
  have hx := C0.1
  have hb := C0.2.1
  have hl : lv_has ls 3 [(0, .ref (zad V k0)), (1, .int x1), (2, .int x2)] := hl
  unfold FX8_far at h1
  have J40 : ∀ (y0 : Int32) (σ : zS) (H : Heap) (locs : List Loc) (ls : Array Slot), zZ 1 V A σ s H locs → lv_has ls 3 [] → FX8_far_b40 y0 σ = some t0 → W p l e (zrm 2 46) s m args below meth c H locs 0 0 Q (F0 m 40 ls [.int y0]) := by
    intro y0 σ H locs ls  hZ hl h1
    unfold FX8_far_b40 at h1
    rw [hQ]; exact z_iret C0 hr hlk hZ h1 dX8_far_40
  have J35 : ∀  (σ : zS) (H : Heap) (locs : List Loc) (ls : Array Slot), zZ 1 V A σ s H locs → lv_has ls 3 [(0, .ref (zad V k0))] → FX8_far_b35 k0 σ = some t0 → W p l e (zrm 2 46) s m args below meth c H locs 0 0 Q (F0 m 35 ls []) := by
    intro  σ H locs ls  hZ hl h1
    unfold FX8_far_b35 at h1
    refine lv_aload_n hx hb dX8_far_35 rfl (lv_at hl 0 rfl) ?_
    refine lv_iconst (v := 1) hx hb dX8_far_36 (by decide) ?_
    refine z_cVi (As := [.int 1]) (rest := []) C0 hZ h1 (fun _ hf => kX8_fail l hk0 hf) mRX8_310 vX8_fail hk0 rfl rfl hl.1 (Nat.le_of_ble_eq_true rfl) ⟨Nat.le_of_ble_eq_true rfl, Nat.le_of_ble_eq_true rfl⟩ dX8_far_37 ⟨Nat.le_of_ble_eq_true rfl, Nat.le_of_ble_eq_true rfl⟩ (fun r_2 σ_1 H locs h1 hZ => ?_)
    exact J40 r_2 _ _ _ _  hZ (lv_sub hl [] rfl) h1
  refine lv_aload_n hx hb dX8_far_0 rfl (lv_at hl 0 rfl) ?_
  refine lv_iconst (v := 0) hx hb dX8_far_1 (by decide) ?_
  refine z_puti C0 hZ h1 hk0 fRX8_159 rfl tyX8_ok nmX8 rfl rfl rfl dX8_far_2 (fun σ_3 H locs h1 hZ => ?_)
  refine lv_aload_n hx hb dX8_far_5 rfl (lv_at hl 0 rfl) ?_
  refine lv_iload_n hx hb dX8_far_6 rfl (lv_at hl 1 rfl) ?_
  refine z_cVi (As := [.int x1]) (rest := []) C0 hZ h1 (fun _ hf => kX8_isAisle l hk0 hf) mRX8_357 vX8_isAisle hk0 rfl rfl hl.1 (Nat.le_of_ble_eq_true rfl) ⟨Nat.le_of_ble_eq_true rfl, Nat.le_of_ble_eq_true rfl⟩ dX8_far_7 ⟨Nat.le_of_ble_eq_true rfl, Nat.le_of_ble_eq_true rfl⟩ (fun r_5 σ_4 H locs h1 hZ => ?_)
  refine z_if_eq (tgt := 35) C0 h1 dX8_far_10 (by decide) (fun h1 => ?_) (fun h1 => ?_)
  · exact J35  _ _ _ _  hZ (lv_sub hl [0] rfl) h1
  refine lv_aload_n hx hb dX8_far_13 rfl (lv_at hl 0 rfl) ?_
  refine lv_iload_n hx hb dX8_far_14 rfl (lv_at hl 2 rfl) ?_
  refine z_cVi (As := [.int x2]) (rest := []) C0 hZ h1 (fun _ hf => kX8_isAisle l hk0 hf) mRX8_357 vX8_isAisle hk0 rfl rfl hl.1 (Nat.le_of_ble_eq_true rfl) ⟨Nat.le_of_ble_eq_true rfl, Nat.le_of_ble_eq_true rfl⟩ dX8_far_15 ⟨Nat.le_of_ble_eq_true rfl, Nat.le_of_ble_eq_true rfl⟩ (fun r_7 σ_6 H locs h1 hZ => ?_)
  refine z_if_eq (tgt := 35) C0 h1 dX8_far_18 (by decide) (fun h1 => ?_) (fun h1 => ?_)
  · exact J35  _ _ _ _  hZ (lv_sub hl [0] rfl) h1
  refine lv_aload_n hx hb dX8_far_21 rfl (lv_at hl 0 rfl) ?_
  refine z_getr C0 hZ hk0 fRX8_88 rfl dX8_far_22 ?_
  refine lv_bipush (v := 10) hx hb dX8_far_25 (by decide) ?_
  refine lv_iload_n hx hb dX8_far_27 rfl (lv_at hl 1 rfl) ?_
  refine lv_imul hx hb dX8_far_28 ?_
  refine lv_iload_n hx hb dX8_far_29 rfl (lv_at hl 2 rfl) ?_
  refine lv_iadd hx hb dX8_far_30 ?_
  refine z_iald C0 hZ h1 (zkt8_28 hk0) dX8_far_31 (fun h1 => ?_)
  refine lv_goto (tgt := 40) hx hb dX8_far_32 (by decide) ?_
  exact J40 (σ_6 (k0 + 18) (Int32.toNatClampNeg ((10 * x1) + x2))) _ _ _ _  hZ (lv_sub hl [] rfl) h1
noncomputable def FX8_pack_b97  (σ : zS) : Option (Int32 × zS) := some (0, σ)
noncomputable def FX8_pack_L54 (k0 : Nat) (k1 : Nat) (x2 : Int32) (x3 : Int32) (σ : zS) : Option ((Int32 × zS) ⊕ (Int32 × zS)) := if 10 ≤ x3 then zinr (FX8_pack_b97  σ) else zin (ln 1 (k0 + 7)) x3 (zin (ln 1 k1) ((x2 + 6) + x3) (zlet (zup σ k1 (Int32.toNatClampNeg ((x2 + 6) + x3)) (σ (k0 + 7) (Int32.toNatClampNeg x3))) (fun σ_1 => zin (ln 1 (k0 + 5)) x3 (zin (ln 1 k1) (((x2 + 6) + 10) + x3) (zlet (zup σ_1 k1 (Int32.toNatClampNeg (((x2 + 6) + 10) + x3)) (σ_1 (k0 + 5) (Int32.toNatClampNeg x3))) (fun σ_2 => zlet (x3 + 1) (fun x3_3 => some (.inl (x3_3, σ_2)))))))))
noncomputable def FX8_pack (k0 : Nat) (k1 : Nat) (x2 : Int32) (σ : zS) : Option (Int32 × zS) := zin (ln 1 k1) x2 (zlet (zup σ k1 (Int32.toNatClampNeg x2) (σ k0 29)) (fun σ_4 => zin (ln 1 k1) (x2 + 1) (zlet (zup σ_4 k1 (Int32.toNatClampNeg (x2 + 1)) (σ_4 k0 30)) (fun σ_5 => zin (ln 1 k1) (x2 + 2) (zlet (zup σ_5 k1 (Int32.toNatClampNeg (x2 + 2)) (σ_5 k0 31)) (fun σ_6 => zin (ln 1 k1) (x2 + 3) (zlet (zup σ_6 k1 (Int32.toNatClampNeg (x2 + 3)) (σ_6 k0 32)) (fun σ_7 => zin (ln 1 k1) (x2 + 4) (zlet (zup σ_7 k1 (Int32.toNatClampNeg (x2 + 4)) (σ_7 k0 33)) (fun σ_8 => zin (ln 1 k1) (x2 + 5) (zlet (zup σ_8 k1 (Int32.toNatClampNeg (x2 + 5)) (σ_8 k0 34)) (fun σ_9 => zlet 0 (fun x3_10 => zlp (fun q => FX8_pack_L54 k0 k1 x2 q.1 q.2) (x3_10, σ_9))))))))))))))
set_option maxHeartbeats 4000000 in
set_option maxRecDepth 100000 in
theorem kX8_pack (l : Launch) {V : zV} {σ : zS} {t0 : Int32 × zS} {k0 : Nat} {k1 : Nat} {x2 : Int32} (hk0 : kd 1 k0 = 8) (hk1 : kd 1 k1 = 100) (h1 : FX8_pack k0 k1 x2 σ = some t0) : zMv l yX8_pack cX8_pack 4 0 0 1 V σ t0 [.ref (zad V k0), .ref (zad V k1), .int x2] := by
  refine zMv_of (by decide) (Nat.le_of_ble_eq_true rfl) ?_
  intro p e s m below meth c A C0 hr hlk hZ ls hl
  generalize ([.ref (zad V k0), .ref (zad V k1), .int x2] : List Value).toArray = args at C0 ⊢
  obtain ⟨Q, hQ⟩ : ∃ Q, Q = MQ below (zQv 1 V t0 A) args s 0 0 A := ⟨_, rfl⟩
  rw [← hQ]
  have hx := C0.1
  have hb := C0.2.1
  have hl : lv_has ls 4 [(0, .ref (zad V k0)), (1, .ref (zad V k1)), (2, .int x2)] := hl
  unfold FX8_pack at h1
  have J97 : ∀  (σ : zS) (H : Heap) (locs : List Loc) (ls : Array Slot), zZ 1 V A σ s H locs → lv_has ls 4 [] → FX8_pack_b97  σ = some t0 → W p l e (zrm 0 0) s m args below meth c H locs 0 0 Q (F0 m 97 ls []) := by
    intro  σ H locs ls  hZ hl h1
    unfold FX8_pack_b97 at h1
    rw [hQ]; exact z_vret C0 hr hlk hZ h1 dX8_pack_97
  have J54 : ∀ (n : Nat) (x3 : Int32) (σ : zS) (H : Heap) (locs : List Loc) (ls : Array Slot), zZ 1 V A σ s H locs → lv_has ls 4 [(0, .ref (zad V k0)), (1, .ref (zad V k1)), (2, .int x2), (3, .int x3)] → zit (fun q => FX8_pack_L54 k0 k1 x2 q.1 q.2) n (x3, σ) = some t0 → W p l e (zrm 0 0) s m args below meth c H locs 0 0 Q (F0 m 54 ls []) := by
    intro n
    induction n with
    | zero => intro x3 σ H locs ls  _ _ h1; cases h1
    | succ n ih54 =>
      intro x3 σ H locs ls  hZ hl h1
      obtain ⟨t1, h1, hz1⟩ := zit_1 h1
      replace h1 : FX8_pack_L54 k0 k1 x2 x3 σ = some t1 := h1
      unfold FX8_pack_L54 at h1
      refine lv_iload_n hx hb dX8_pack_54 rfl (lv_at hl 3 rfl) ?_
      refine lv_bipush (v := 10) hx hb dX8_pack_55 (by decide) ?_
      refine z_ic_ge (tgt := 97) C0 h1 dX8_pack_57 (by decide) (fun h1 => ?_) (fun h1 => ?_)
      · have h1 := zout h1 hz1
        exact J97  _ _ _ _  hZ (lv_sub hl [] rfl) h1
      refine lv_aload_n hx hb dX8_pack_60 rfl (lv_at hl 1 rfl) ?_
      refine lv_iload_n hx hb dX8_pack_61 rfl (lv_at hl 2 rfl) ?_
      refine lv_bipush (v := 6) hx hb dX8_pack_62 (by decide) ?_
      refine lv_iadd hx hb dX8_pack_64 ?_
      refine lv_iload_n hx hb dX8_pack_65 rfl (lv_at hl 3 rfl) ?_
      refine lv_iadd hx hb dX8_pack_66 ?_
      refine lv_aload_n hx hb dX8_pack_67 rfl (lv_at hl 0 rfl) ?_
      refine z_getr C0 hZ hk0 fRX8_52 rfl dX8_pack_68 ?_
      refine lv_iload_n hx hb dX8_pack_71 rfl (lv_at hl 3 rfl) ?_
      refine z_iald C0 hZ h1 (zkt8_7 hk0) dX8_pack_72 (fun h1 => ?_)
      refine z_iast C0 hZ h1 hk1 dX8_pack_73 (fun σ_1 H locs h1 hZ => ?_)
      refine lv_aload_n hx hb dX8_pack_74 rfl (lv_at hl 1 rfl) ?_
      refine lv_iload_n hx hb dX8_pack_75 rfl (lv_at hl 2 rfl) ?_
      refine lv_bipush (v := 6) hx hb dX8_pack_76 (by decide) ?_
      refine lv_iadd hx hb dX8_pack_78 ?_
      refine lv_bipush (v := 10) hx hb dX8_pack_79 (by decide) ?_
      refine lv_iadd hx hb dX8_pack_81 ?_
      refine lv_iload_n hx hb dX8_pack_82 rfl (lv_at hl 3 rfl) ?_
      refine lv_iadd hx hb dX8_pack_83 ?_
      refine lv_aload_n hx hb dX8_pack_84 rfl (lv_at hl 0 rfl) ?_
      refine z_getr C0 hZ hk0 fRX8_46 rfl dX8_pack_85 ?_
      refine lv_iload_n hx hb dX8_pack_88 rfl (lv_at hl 3 rfl) ?_
      refine z_iald C0 hZ h1 (zkt8_5 hk0) dX8_pack_89 (fun h1 => ?_)
      refine z_iast C0 hZ h1 hk1 dX8_pack_90 (fun σ_2 H locs h1 hZ => ?_)
      refine z_iinc (v := 1) C0 h1 hl (fun x3_3 => [(3, .int x3_3), (0, .ref (zad V k0)), (1, .ref (zad V k1)), (2, .int x2)]) dX8_pack_91 (k := 3) rfl (by decide) (by decide) (fun _ => rfl) (fun x3_3 ls h1 hl => ?_)
      refine lv_goto (tgt := 54) hx hb dX8_pack_94 (by decide) ?_
      exact ih54 x3_3 _ _ _ _  hZ (lv_sub hl [1, 2, 3, 0] rfl) (zback h1 hz1)
  refine lv_aload_n hx hb dX8_pack_0 rfl (lv_at hl 1 rfl) ?_
  refine lv_iload_n hx hb dX8_pack_1 rfl (lv_at hl 2 rfl) ?_
  refine lv_aload_n hx hb dX8_pack_2 rfl (lv_at hl 0 rfl) ?_
  refine z_geti C0 hZ hk0 fRX8_323 rfl dX8_pack_3 ?_
  refine z_iast C0 hZ h1 hk1 dX8_pack_6 (fun σ_4 H locs h1 hZ => ?_)
  refine lv_aload_n hx hb dX8_pack_7 rfl (lv_at hl 1 rfl) ?_
  refine lv_iload_n hx hb dX8_pack_8 rfl (lv_at hl 2 rfl) ?_
  refine lv_iconst (v := 1) hx hb dX8_pack_9 (by decide) ?_
  refine lv_iadd hx hb dX8_pack_10 ?_
  refine lv_aload_n hx hb dX8_pack_11 rfl (lv_at hl 0 rfl) ?_
  refine z_geti C0 hZ hk0 fRX8_326 rfl dX8_pack_12 ?_
  refine z_iast C0 hZ h1 hk1 dX8_pack_15 (fun σ_5 H locs h1 hZ => ?_)
  refine lv_aload_n hx hb dX8_pack_16 rfl (lv_at hl 1 rfl) ?_
  refine lv_iload_n hx hb dX8_pack_17 rfl (lv_at hl 2 rfl) ?_
  refine lv_iconst (v := 2) hx hb dX8_pack_18 (by decide) ?_
  refine lv_iadd hx hb dX8_pack_19 ?_
  refine lv_aload_n hx hb dX8_pack_20 rfl (lv_at hl 0 rfl) ?_
  refine z_geti C0 hZ hk0 fRX8_329 rfl dX8_pack_21 ?_
  refine z_iast C0 hZ h1 hk1 dX8_pack_24 (fun σ_6 H locs h1 hZ => ?_)
  refine lv_aload_n hx hb dX8_pack_25 rfl (lv_at hl 1 rfl) ?_
  refine lv_iload_n hx hb dX8_pack_26 rfl (lv_at hl 2 rfl) ?_
  refine lv_iconst (v := 3) hx hb dX8_pack_27 (by decide) ?_
  refine lv_iadd hx hb dX8_pack_28 ?_
  refine lv_aload_n hx hb dX8_pack_29 rfl (lv_at hl 0 rfl) ?_
  refine z_geti C0 hZ hk0 fRX8_90 rfl dX8_pack_30 ?_
  refine z_iast C0 hZ h1 hk1 dX8_pack_33 (fun σ_7 H locs h1 hZ => ?_)
  refine lv_aload_n hx hb dX8_pack_34 rfl (lv_at hl 1 rfl) ?_
  refine lv_iload_n hx hb dX8_pack_35 rfl (lv_at hl 2 rfl) ?_
  refine lv_iconst (v := 4) hx hb dX8_pack_36 (by decide) ?_
  refine lv_iadd hx hb dX8_pack_37 ?_
  refine lv_aload_n hx hb dX8_pack_38 rfl (lv_at hl 0 rfl) ?_
  refine z_geti C0 hZ hk0 fRX8_332 rfl dX8_pack_39 ?_
  refine z_iast C0 hZ h1 hk1 dX8_pack_42 (fun σ_8 H locs h1 hZ => ?_)
  refine lv_aload_n hx hb dX8_pack_43 rfl (lv_at hl 1 rfl) ?_
  refine lv_iload_n hx hb dX8_pack_44 rfl (lv_at hl 2 rfl) ?_
  refine lv_iconst (v := 5) hx hb dX8_pack_45 (by decide) ?_
  refine lv_iadd hx hb dX8_pack_46 ?_
  refine lv_aload_n hx hb dX8_pack_47 rfl (lv_at hl 0 rfl) ?_
  refine z_geti C0 hZ hk0 fRX8_335 rfl dX8_pack_48 ?_
  refine z_iast C0 hZ h1 hk1 dX8_pack_51 (fun σ_9 H locs h1 hZ => ?_)
  refine lv_iconst (v := 0) hx hb dX8_pack_52 (by decide) ?_
  refine z_istore_n C0 h1 hl (fun x3_10 => [(3, .int x3_10), (0, .ref (zad V k0)), (1, .ref (zad V k1)), (2, .int x2)]) dX8_pack_53 rfl (by decide) (fun _ => rfl) (fun x3_10 ls h1 hl => ?_)
  obtain ⟨n, h1⟩ := zlp_iff.mp h1
  exact J54 n x3_10 _ _ _ _  hZ (lv_sub hl [1, 2, 3, 0] rfl) h1
noncomputable def FX8_unpack_b97  (σ : zS) : Option (Int32 × zS) := some (0, σ)
noncomputable def FX8_unpack_L54 (k0 : Nat) (k1 : Nat) (x2 : Int32) (x3 : Int32) (σ : zS) : Option ((Int32 × zS) ⊕ (Int32 × zS)) := if 10 ≤ x3 then zinr (FX8_unpack_b97  σ) else zin (ln 1 k1) ((x2 + 6) + x3) (zin (ln 1 (k0 + 7)) x3 (zlet (zup σ (k0 + 7) (Int32.toNatClampNeg x3) (σ k1 (Int32.toNatClampNeg ((x2 + 6) + x3)))) (fun σ_1 => zin (ln 1 k1) (((x2 + 6) + 10) + x3) (zin (ln 1 (k0 + 5)) x3 (zlet (zup σ_1 (k0 + 5) (Int32.toNatClampNeg x3) (σ_1 k1 (Int32.toNatClampNeg (((x2 + 6) + 10) + x3)))) (fun σ_2 => zlet (x3 + 1) (fun x3_3 => some (.inl (x3_3, σ_2)))))))))
noncomputable def FX8_unpack (k0 : Nat) (k1 : Nat) (x2 : Int32) (σ : zS) : Option (Int32 × zS) := zin (ln 1 k1) x2 (zlet (zup σ k0 29 (σ k1 (Int32.toNatClampNeg x2))) (fun σ_4 => zin (ln 1 k1) (x2 + 1) (zlet (zup σ_4 k0 30 (σ_4 k1 (Int32.toNatClampNeg (x2 + 1)))) (fun σ_5 => zin (ln 1 k1) (x2 + 2) (zlet (zup σ_5 k0 31 (σ_5 k1 (Int32.toNatClampNeg (x2 + 2)))) (fun σ_6 => zin (ln 1 k1) (x2 + 3) (zlet (zup σ_6 k0 32 (σ_6 k1 (Int32.toNatClampNeg (x2 + 3)))) (fun σ_7 => zin (ln 1 k1) (x2 + 4) (zlet (zup σ_7 k0 33 (σ_7 k1 (Int32.toNatClampNeg (x2 + 4)))) (fun σ_8 => zin (ln 1 k1) (x2 + 5) (zlet (zup σ_8 k0 34 (σ_8 k1 (Int32.toNatClampNeg (x2 + 5)))) (fun σ_9 => zlet 0 (fun x3_10 => zlp (fun q => FX8_unpack_L54 k0 k1 x2 q.1 q.2) (x3_10, σ_9))))))))))))))
set_option maxHeartbeats 4000000 in
set_option maxRecDepth 100000 in
theorem kX8_unpack (l : Launch) {V : zV} {σ : zS} {t0 : Int32 × zS} {k0 : Nat} {k1 : Nat} {x2 : Int32} (hk0 : kd 1 k0 = 8) (hk1 : kd 1 k1 = 100) (h1 : FX8_unpack k0 k1 x2 σ = some t0) : zMv l yX8_unpack cX8_unpack 4 0 0 1 V σ t0 [.ref (zad V k0), .ref (zad V k1), .int x2] := by
  refine zMv_of (by decide) (Nat.le_of_ble_eq_true rfl) ?_
  intro p e s m below meth c A C0 hr hlk hZ ls hl
  generalize ([.ref (zad V k0), .ref (zad V k1), .int x2] : List Value).toArray = args at C0 ⊢
  obtain ⟨Q, hQ⟩ : ∃ Q, Q = MQ below (zQv 1 V t0 A) args s 0 0 A := ⟨_, rfl⟩
  rw [← hQ]
  have hx := C0.1
  have hb := C0.2.1
  have hl : lv_has ls 4 [(0, .ref (zad V k0)), (1, .ref (zad V k1)), (2, .int x2)] := hl
  unfold FX8_unpack at h1
  have J97 : ∀  (σ : zS) (H : Heap) (locs : List Loc) (ls : Array Slot), zZ 1 V A σ s H locs → lv_has ls 4 [] → FX8_unpack_b97  σ = some t0 → W p l e (zrm 0 0) s m args below meth c H locs 0 0 Q (F0 m 97 ls []) := by
    intro  σ H locs ls  hZ hl h1
    unfold FX8_unpack_b97 at h1
    rw [hQ]; exact z_vret C0 hr hlk hZ h1 dX8_unpack_97
  have J54 : ∀ (n : Nat) (x3 : Int32) (σ : zS) (H : Heap) (locs : List Loc) (ls : Array Slot), zZ 1 V A σ s H locs → lv_has ls 4 [(0, .ref (zad V k0)), (1, .ref (zad V k1)), (2, .int x2), (3, .int x3)] → zit (fun q => FX8_unpack_L54 k0 k1 x2 q.1 q.2) n (x3, σ) = some t0 → W p l e (zrm 0 0) s m args below meth c H locs 0 0 Q (F0 m 54 ls []) := by
    intro n
    induction n with
    | zero => intro x3 σ H locs ls  _ _ h1; cases h1
    | succ n ih54 =>
      intro x3 σ H locs ls  hZ hl h1
      obtain ⟨t1, h1, hz1⟩ := zit_1 h1
      replace h1 : FX8_unpack_L54 k0 k1 x2 x3 σ = some t1 := h1
      unfold FX8_unpack_L54 at h1
      refine lv_iload_n hx hb dX8_unpack_54 rfl (lv_at hl 3 rfl) ?_
      refine lv_bipush (v := 10) hx hb dX8_unpack_55 (by decide) ?_
      refine z_ic_ge (tgt := 97) C0 h1 dX8_unpack_57 (by decide) (fun h1 => ?_) (fun h1 => ?_)
      · have h1 := zout h1 hz1
        exact J97  _ _ _ _  hZ (lv_sub hl [] rfl) h1
      refine lv_aload_n hx hb dX8_unpack_60 rfl (lv_at hl 0 rfl) ?_
      refine z_getr C0 hZ hk0 fRX8_52 rfl dX8_unpack_61 ?_
      refine lv_iload_n hx hb dX8_unpack_64 rfl (lv_at hl 3 rfl) ?_
      refine lv_aload_n hx hb dX8_unpack_65 rfl (lv_at hl 1 rfl) ?_
      refine lv_iload_n hx hb dX8_unpack_66 rfl (lv_at hl 2 rfl) ?_
      refine lv_bipush (v := 6) hx hb dX8_unpack_67 (by decide) ?_
      refine lv_iadd hx hb dX8_unpack_69 ?_
      refine lv_iload_n hx hb dX8_unpack_70 rfl (lv_at hl 3 rfl) ?_
      refine lv_iadd hx hb dX8_unpack_71 ?_
      refine z_iald C0 hZ h1 hk1 dX8_unpack_72 (fun h1 => ?_)
      refine z_iast C0 hZ h1 (zkt8_7 hk0) dX8_unpack_73 (fun σ_1 H locs h1 hZ => ?_)
      refine lv_aload_n hx hb dX8_unpack_74 rfl (lv_at hl 0 rfl) ?_
      refine z_getr C0 hZ hk0 fRX8_46 rfl dX8_unpack_75 ?_
      refine lv_iload_n hx hb dX8_unpack_78 rfl (lv_at hl 3 rfl) ?_
      refine lv_aload_n hx hb dX8_unpack_79 rfl (lv_at hl 1 rfl) ?_
      refine lv_iload_n hx hb dX8_unpack_80 rfl (lv_at hl 2 rfl) ?_
      refine lv_bipush (v := 6) hx hb dX8_unpack_81 (by decide) ?_
      refine lv_iadd hx hb dX8_unpack_83 ?_
      refine lv_bipush (v := 10) hx hb dX8_unpack_84 (by decide) ?_
      refine lv_iadd hx hb dX8_unpack_86 ?_
      refine lv_iload_n hx hb dX8_unpack_87 rfl (lv_at hl 3 rfl) ?_
      refine lv_iadd hx hb dX8_unpack_88 ?_
      refine z_iald C0 hZ h1 hk1 dX8_unpack_89 (fun h1 => ?_)
      refine z_iast C0 hZ h1 (zkt8_5 hk0) dX8_unpack_90 (fun σ_2 H locs h1 hZ => ?_)
      refine z_iinc (v := 1) C0 h1 hl (fun x3_3 => [(3, .int x3_3), (0, .ref (zad V k0)), (1, .ref (zad V k1)), (2, .int x2)]) dX8_unpack_91 (k := 3) rfl (by decide) (by decide) (fun _ => rfl) (fun x3_3 ls h1 hl => ?_)
      refine lv_goto (tgt := 54) hx hb dX8_unpack_94 (by decide) ?_
      exact ih54 x3_3 _ _ _ _  hZ (lv_sub hl [1, 2, 3, 0] rfl) (zback h1 hz1)
  refine lv_aload_n hx hb dX8_unpack_0 rfl (lv_at hl 0 rfl) ?_
  refine lv_aload_n hx hb dX8_unpack_1 rfl (lv_at hl 1 rfl) ?_
  refine lv_iload_n hx hb dX8_unpack_2 rfl (lv_at hl 2 rfl) ?_
  refine z_iald C0 hZ h1 hk1 dX8_unpack_3 (fun h1 => ?_)
  refine z_puti C0 hZ h1 hk0 fRX8_323 rfl tyX8_ok nmX8 rfl rfl rfl dX8_unpack_4 (fun σ_4 H locs h1 hZ => ?_)
  refine lv_aload_n hx hb dX8_unpack_7 rfl (lv_at hl 0 rfl) ?_
  refine lv_aload_n hx hb dX8_unpack_8 rfl (lv_at hl 1 rfl) ?_
  refine lv_iload_n hx hb dX8_unpack_9 rfl (lv_at hl 2 rfl) ?_
  refine lv_iconst (v := 1) hx hb dX8_unpack_10 (by decide) ?_
  refine lv_iadd hx hb dX8_unpack_11 ?_
  refine z_iald C0 hZ h1 hk1 dX8_unpack_12 (fun h1 => ?_)
  refine z_puti C0 hZ h1 hk0 fRX8_326 rfl tyX8_ok nmX8 rfl rfl rfl dX8_unpack_13 (fun σ_5 H locs h1 hZ => ?_)
  refine lv_aload_n hx hb dX8_unpack_16 rfl (lv_at hl 0 rfl) ?_
  refine lv_aload_n hx hb dX8_unpack_17 rfl (lv_at hl 1 rfl) ?_
  refine lv_iload_n hx hb dX8_unpack_18 rfl (lv_at hl 2 rfl) ?_
  refine lv_iconst (v := 2) hx hb dX8_unpack_19 (by decide) ?_
  refine lv_iadd hx hb dX8_unpack_20 ?_
  refine z_iald C0 hZ h1 hk1 dX8_unpack_21 (fun h1 => ?_)
  refine z_puti C0 hZ h1 hk0 fRX8_329 rfl tyX8_ok nmX8 rfl rfl rfl dX8_unpack_22 (fun σ_6 H locs h1 hZ => ?_)
  refine lv_aload_n hx hb dX8_unpack_25 rfl (lv_at hl 0 rfl) ?_
  refine lv_aload_n hx hb dX8_unpack_26 rfl (lv_at hl 1 rfl) ?_
  refine lv_iload_n hx hb dX8_unpack_27 rfl (lv_at hl 2 rfl) ?_
  refine lv_iconst (v := 3) hx hb dX8_unpack_28 (by decide) ?_
  refine lv_iadd hx hb dX8_unpack_29 ?_
  refine z_iald C0 hZ h1 hk1 dX8_unpack_30 (fun h1 => ?_)
  refine z_puti C0 hZ h1 hk0 fRX8_90 rfl tyX8_ok nmX8 rfl rfl rfl dX8_unpack_31 (fun σ_7 H locs h1 hZ => ?_)
  refine lv_aload_n hx hb dX8_unpack_34 rfl (lv_at hl 0 rfl) ?_
  refine lv_aload_n hx hb dX8_unpack_35 rfl (lv_at hl 1 rfl) ?_
  refine lv_iload_n hx hb dX8_unpack_36 rfl (lv_at hl 2 rfl) ?_
  refine lv_iconst (v := 4) hx hb dX8_unpack_37 (by decide) ?_
  refine lv_iadd hx hb dX8_unpack_38 ?_
  refine z_iald C0 hZ h1 hk1 dX8_unpack_39 (fun h1 => ?_)
  refine z_puti C0 hZ h1 hk0 fRX8_332 rfl tyX8_ok nmX8 rfl rfl rfl dX8_unpack_40 (fun σ_8 H locs h1 hZ => ?_)
  refine lv_aload_n hx hb dX8_unpack_43 rfl (lv_at hl 0 rfl) ?_
  refine lv_aload_n hx hb dX8_unpack_44 rfl (lv_at hl 1 rfl) ?_
  refine lv_iload_n hx hb dX8_unpack_45 rfl (lv_at hl 2 rfl) ?_
  refine lv_iconst (v := 5) hx hb dX8_unpack_46 (by decide) ?_
  refine lv_iadd hx hb dX8_unpack_47 ?_
  refine z_iald C0 hZ h1 hk1 dX8_unpack_48 (fun h1 => ?_)
  refine z_puti C0 hZ h1 hk0 fRX8_335 rfl tyX8_ok nmX8 rfl rfl rfl dX8_unpack_49 (fun σ_9 H locs h1 hZ => ?_)
  refine lv_iconst (v := 0) hx hb dX8_unpack_52 (by decide) ?_
  refine z_istore_n C0 h1 hl (fun x3_10 => [(3, .int x3_10), (0, .ref (zad V k0)), (1, .ref (zad V k1)), (2, .int x2)]) dX8_unpack_53 rfl (by decide) (fun _ => rfl) (fun x3_10 ls h1 hl => ?_)
  obtain ⟨n, h1⟩ := zlp_iff.mp h1
  exact J54 n x3_10 _ _ _ _  hZ (lv_sub hl [1, 2, 3, 0] rfl) h1
noncomputable def FX8_reckon_b103 (y0 : Int32) (σ : zS) : Option (Int32 × zS) := some (y0, σ)
noncomputable def FX8_reckon_b102  (σ : zS) : Option (Int32 × zS) := FX8_reckon_b103 0 σ
noncomputable def FX8_reckon_b89 (y0 : Int32) (σ : zS) : Option (Int32 × zS) := some (y0, σ)
noncomputable def FX8_reckon_b78 (y0 : Int32) (σ : zS) : Option (Int32 × zS) := some (y0, σ)
noncomputable def FX8_reckon_b67 (y0 : Int32) (σ : zS) : Option (Int32 × zS) := some (y0, σ)
noncomputable def FX8_reckon_b117 (y0 : Int32) (σ : zS) : Option (Int32 × zS) := some (y0, σ)
noncomputable def FX8_reckon_b112  (σ : zS) : Option (Int32 × zS) := FX8_reckon_b117 1 σ
noncomputable def FX8_reckon (x0 : Int32) (x1 : Int32) (x2 : Int32) (σ : zS) : Option (Int32 × zS) := if x0 = (-26) then if x1 = 0 then FX8_reckon_b102  σ else if x2 = 0 then FX8_reckon_b102  σ else FX8_reckon_b103 1 σ else if x0 = (-25) then if x1 = x2 then FX8_reckon_b89 1 σ else FX8_reckon_b89 0 σ else if x0 = (-24) then if x2 ≤ x1 then FX8_reckon_b78 0 σ else FX8_reckon_b78 1 σ else if x0 = (-23) then if x2 = 0 then FX8_reckon_b67 0 σ else zgd (x2 != 0) (FX8_reckon_b67 (x1 / x2) σ) else if x0 = (-22) then some ((x1 * x2), σ) else if x0 = (-21) then some ((x1 - x2), σ) else if x0 = (-20) then some ((x1 + x2), σ) else if x1 = 0 then if x2 = 0 then FX8_reckon_b117 0 σ else FX8_reckon_b112  σ else FX8_reckon_b112  σ
set_option maxHeartbeats 4000000 in
set_option maxRecDepth 100000 in
theorem kX8_reckon (l : Launch) {V : zV} {σ : zS} {t0 : Int32 × zS} {x0 : Int32} {x1 : Int32} {x2 : Int32}  (h1 : FX8_reckon x0 x1 x2 σ = some t0) : zMi l yX8_reckon cX8_reckon 3 (some .int) 0 0 1 V σ t0 [.int x0, .int x1, .int x2] := by
  refine zMi_of (by decide) (Nat.le_of_ble_eq_true rfl) ?_
  intro p e s m below meth c A C0 hr hlk hZ ls hl
  generalize ([.int x0, .int x1, .int x2] : List Value).toArray = args at C0 ⊢
  obtain ⟨Q, hQ⟩ : ∃ Q, Q = MQ below (zQi 1 V t0 A) args s 0 0 A := ⟨_, rfl⟩
  rw [← hQ]
  have hx := C0.1
  have hb := C0.2.1
  have hl : lv_has ls 3 [(0, .int x0), (1, .int x1), (2, .int x2)] := hl
  unfold FX8_reckon at h1
  have J103 : ∀ (y0 : Int32) (σ : zS) (H : Heap) (locs : List Loc) (ls : Array Slot), zZ 1 V A σ s H locs → lv_has ls 3 [] → FX8_reckon_b103 y0 σ = some t0 → W p l e (zrm 0 0) s m args below meth c H locs 0 0 Q (F0 m 103 ls [.int y0]) := by
    intro y0 σ H locs ls  hZ hl h1
    unfold FX8_reckon_b103 at h1
    rw [hQ]; exact z_iret C0 hr hlk hZ h1 dX8_reckon_103
  have J102 : ∀  (σ : zS) (H : Heap) (locs : List Loc) (ls : Array Slot), zZ 1 V A σ s H locs → lv_has ls 3 [] → FX8_reckon_b102  σ = some t0 → W p l e (zrm 0 0) s m args below meth c H locs 0 0 Q (F0 m 102 ls []) := by
    intro  σ H locs ls  hZ hl h1
    unfold FX8_reckon_b102 at h1
    refine lv_iconst (v := 0) hx hb dX8_reckon_102 (by decide) ?_
    exact J103 0 _ _ _ _  hZ (lv_sub hl [] rfl) h1
  have J89 : ∀ (y0 : Int32) (σ : zS) (H : Heap) (locs : List Loc) (ls : Array Slot), zZ 1 V A σ s H locs → lv_has ls 3 [] → FX8_reckon_b89 y0 σ = some t0 → W p l e (zrm 0 0) s m args below meth c H locs 0 0 Q (F0 m 89 ls [.int y0]) := by
    intro y0 σ H locs ls  hZ hl h1
    unfold FX8_reckon_b89 at h1
    rw [hQ]; exact z_iret C0 hr hlk hZ h1 dX8_reckon_89
  have J78 : ∀ (y0 : Int32) (σ : zS) (H : Heap) (locs : List Loc) (ls : Array Slot), zZ 1 V A σ s H locs → lv_has ls 3 [] → FX8_reckon_b78 y0 σ = some t0 → W p l e (zrm 0 0) s m args below meth c H locs 0 0 Q (F0 m 78 ls [.int y0]) := by
    intro y0 σ H locs ls  hZ hl h1
    unfold FX8_reckon_b78 at h1
    rw [hQ]; exact z_iret C0 hr hlk hZ h1 dX8_reckon_78
  have J67 : ∀ (y0 : Int32) (σ : zS) (H : Heap) (locs : List Loc) (ls : Array Slot), zZ 1 V A σ s H locs → lv_has ls 3 [] → FX8_reckon_b67 y0 σ = some t0 → W p l e (zrm 0 0) s m args below meth c H locs 0 0 Q (F0 m 67 ls [.int y0]) := by
    intro y0 σ H locs ls  hZ hl h1
    unfold FX8_reckon_b67 at h1
    rw [hQ]; exact z_iret C0 hr hlk hZ h1 dX8_reckon_67
  have J117 : ∀ (y0 : Int32) (σ : zS) (H : Heap) (locs : List Loc) (ls : Array Slot), zZ 1 V A σ s H locs → lv_has ls 3 [] → FX8_reckon_b117 y0 σ = some t0 → W p l e (zrm 0 0) s m args below meth c H locs 0 0 Q (F0 m 117 ls [.int y0]) := by
    intro y0 σ H locs ls  hZ hl h1
    unfold FX8_reckon_b117 at h1
    rw [hQ]; exact z_iret C0 hr hlk hZ h1 dX8_reckon_117
  have J112 : ∀  (σ : zS) (H : Heap) (locs : List Loc) (ls : Array Slot), zZ 1 V A σ s H locs → lv_has ls 3 [] → FX8_reckon_b112  σ = some t0 → W p l e (zrm 0 0) s m args below meth c H locs 0 0 Q (F0 m 112 ls []) := by
    intro  σ H locs ls  hZ hl h1
    unfold FX8_reckon_b112 at h1
    refine lv_iconst (v := 1) hx hb dX8_reckon_112 (by decide) ?_
    refine lv_goto (tgt := 117) hx hb dX8_reckon_113 (by decide) ?_
    exact J117 1 _ _ _ _  hZ (lv_sub hl [] rfl) h1
  refine lv_iload_n hx hb dX8_reckon_0 rfl (lv_at hl 0 rfl) ?_
  refine z_case h1 (fun hv h1 => ?_) (fun e1_0 h1 => ?_)
  · refine lv_tableIn (tgt := 90) hx hb dX8_reckon_1 (by rw [hv]; decide) (by rw [hv]; decide) (by rw [hv]; rfl) (by decide) ?_
    refine lv_iload_n hx hb dX8_reckon_90 rfl (lv_at hl 1 rfl) ?_
    refine z_if_eq (tgt := 102) C0 h1 dX8_reckon_91 (by decide) (fun h1 => ?_) (fun h1 => ?_)
    · exact J102  _ _ _ _  hZ (lv_sub hl [] rfl) h1
    refine lv_iload_n hx hb dX8_reckon_94 rfl (lv_at hl 2 rfl) ?_
    refine z_if_eq (tgt := 102) C0 h1 dX8_reckon_95 (by decide) (fun h1 => ?_) (fun h1 => ?_)
    · exact J102  _ _ _ _  hZ (lv_sub hl [] rfl) h1
    refine lv_iconst (v := 1) hx hb dX8_reckon_98 (by decide) ?_
    refine lv_goto (tgt := 103) hx hb dX8_reckon_99 (by decide) ?_
    exact J103 1 _ _ _ _  hZ (lv_sub hl [] rfl) h1
  refine z_case h1 (fun hv h1 => ?_) (fun e1_1 h1 => ?_)
  · refine lv_tableIn (tgt := 79) hx hb dX8_reckon_1 (by rw [hv]; decide) (by rw [hv]; decide) (by rw [hv]; rfl) (by decide) ?_
    refine lv_iload_n hx hb dX8_reckon_79 rfl (lv_at hl 1 rfl) ?_
    refine lv_iload_n hx hb dX8_reckon_80 rfl (lv_at hl 2 rfl) ?_
    refine z_ic_ne (tgt := 88) C0 h1 dX8_reckon_81 (by decide) (fun h1 => ?_) (fun h1 => ?_)
    · refine lv_iconst (v := 0) hx hb dX8_reckon_88 (by decide) ?_
      exact J89 0 _ _ _ _  hZ (lv_sub hl [] rfl) h1
    refine lv_iconst (v := 1) hx hb dX8_reckon_84 (by decide) ?_
    refine lv_goto (tgt := 89) hx hb dX8_reckon_85 (by decide) ?_
    exact J89 1 _ _ _ _  hZ (lv_sub hl [] rfl) h1
  refine z_case h1 (fun hv h1 => ?_) (fun e1_2 h1 => ?_)
  · refine lv_tableIn (tgt := 68) hx hb dX8_reckon_1 (by rw [hv]; decide) (by rw [hv]; decide) (by rw [hv]; rfl) (by decide) ?_
    refine lv_iload_n hx hb dX8_reckon_68 rfl (lv_at hl 1 rfl) ?_
    refine lv_iload_n hx hb dX8_reckon_69 rfl (lv_at hl 2 rfl) ?_
    refine z_ic_ge (tgt := 77) C0 h1 dX8_reckon_70 (by decide) (fun h1 => ?_) (fun h1 => ?_)
    · refine lv_iconst (v := 0) hx hb dX8_reckon_77 (by decide) ?_
      exact J78 0 _ _ _ _  hZ (lv_sub hl [] rfl) h1
    refine lv_iconst (v := 1) hx hb dX8_reckon_73 (by decide) ?_
    refine lv_goto (tgt := 78) hx hb dX8_reckon_74 (by decide) ?_
    exact J78 1 _ _ _ _  hZ (lv_sub hl [] rfl) h1
  refine z_case h1 (fun hv h1 => ?_) (fun e1_3 h1 => ?_)
  · refine lv_tableIn (tgt := 56) hx hb dX8_reckon_1 (by rw [hv]; decide) (by rw [hv]; decide) (by rw [hv]; rfl) (by decide) ?_
    refine lv_iload_n hx hb dX8_reckon_56 rfl (lv_at hl 2 rfl) ?_
    refine z_if_ne (tgt := 64) C0 h1 dX8_reckon_57 (by decide) (fun h1 => ?_) (fun h1 => ?_)
    · refine lv_iload_n hx hb dX8_reckon_64 rfl (lv_at hl 1 rfl) ?_
      refine lv_iload_n hx hb dX8_reckon_65 rfl (lv_at hl 2 rfl) ?_
      refine z_idiv C0 h1 dX8_reckon_66 (fun h1 => ?_)
      exact J67 (x1 / x2) _ _ _ _  hZ (lv_sub hl [] rfl) h1
    refine lv_iconst (v := 0) hx hb dX8_reckon_60 (by decide) ?_
    refine lv_goto (tgt := 67) hx hb dX8_reckon_61 (by decide) ?_
    exact J67 0 _ _ _ _  hZ (lv_sub hl [] rfl) h1
  refine z_case h1 (fun hv h1 => ?_) (fun e1_4 h1 => ?_)
  · refine lv_tableIn (tgt := 52) hx hb dX8_reckon_1 (by rw [hv]; decide) (by rw [hv]; decide) (by rw [hv]; rfl) (by decide) ?_
    refine lv_iload_n hx hb dX8_reckon_52 rfl (lv_at hl 1 rfl) ?_
    refine lv_iload_n hx hb dX8_reckon_53 rfl (lv_at hl 2 rfl) ?_
    refine lv_imul hx hb dX8_reckon_54 ?_
    rw [hQ]; exact z_iret C0 hr hlk hZ h1 dX8_reckon_55
  refine z_case h1 (fun hv h1 => ?_) (fun e1_5 h1 => ?_)
  · refine lv_tableIn (tgt := 48) hx hb dX8_reckon_1 (by rw [hv]; decide) (by rw [hv]; decide) (by rw [hv]; rfl) (by decide) ?_
    refine lv_iload_n hx hb dX8_reckon_48 rfl (lv_at hl 1 rfl) ?_
    refine lv_iload_n hx hb dX8_reckon_49 rfl (lv_at hl 2 rfl) ?_
    refine lv_isub hx hb dX8_reckon_50 ?_
    rw [hQ]; exact z_iret C0 hr hlk hZ h1 dX8_reckon_51
  refine z_case h1 (fun hv h1 => ?_) (fun e1_6 h1 => ?_)
  · refine lv_tableIn (tgt := 44) hx hb dX8_reckon_1 (by rw [hv]; decide) (by rw [hv]; decide) (by rw [hv]; rfl) (by decide) ?_
    refine lv_iload_n hx hb dX8_reckon_44 rfl (lv_at hl 1 rfl) ?_
    refine lv_iload_n hx hb dX8_reckon_45 rfl (lv_at hl 2 rfl) ?_
    refine lv_iadd hx hb dX8_reckon_46 ?_
    rw [hQ]; exact z_iret C0 hr hlk hZ h1 dX8_reckon_47
  refine lv_tableOut (tgt := 104) hx hb dX8_reckon_1 (z_tout [(-26), (-25), (-24), (-23), (-22), (-21), (-20)] (by decide) (by decide) (List.forall_mem_cons.mpr ⟨e1_0, List.forall_mem_cons.mpr ⟨e1_1, List.forall_mem_cons.mpr ⟨e1_2, List.forall_mem_cons.mpr ⟨e1_3, List.forall_mem_cons.mpr ⟨e1_4, List.forall_mem_cons.mpr ⟨e1_5, List.forall_mem_cons.mpr ⟨e1_6, fun _ h => absurd h List.not_mem_nil⟩⟩⟩⟩⟩⟩⟩)) (by decide) ?_
  refine lv_iload_n hx hb dX8_reckon_104 rfl (lv_at hl 1 rfl) ?_
  refine z_if_ne (tgt := 112) C0 h1 dX8_reckon_105 (by decide) (fun h1 => ?_) (fun h1 => ?_)
  · exact J112  _ _ _ _  hZ (lv_sub hl [] rfl) h1
  refine lv_iload_n hx hb dX8_reckon_108 rfl (lv_at hl 2 rfl) ?_
  refine z_if_eq (tgt := 116) C0 h1 dX8_reckon_109 (by decide) (fun h1 => ?_) (fun h1 => ?_)
  · refine lv_iconst (v := 0) hx hb dX8_reckon_116 (by decide) ?_
    exact J117 0 _ _ _ _  hZ (lv_sub hl [] rfl) h1
  exact J112  _ _ _ _  hZ (lv_sub hl [] rfl) h1
