noncomputable def FX8_readLine_b228 (k0 : Nat) (x1 : Int32) (x2 : Int32) (σ : zS) : Option (Int32 × zS) := zbd (FX8_mark k0 59 σ) (fun _ σ_1 => some ((x1 ||| x2), σ_1))
noncomputable def FX8_readLine_b79 (k0 : Nat) (x1 : Int32) (x2 : Int32) (σ : zS) : Option (Int32 × zS) := if x2 = 1 then zbd (FX8_readNumber k0 1 9 σ) (fun r_10 σ_9 => zin (ln 1 (k0 + 3)) 14 (zlet (zup σ_9 (k0 + 3) (Int32.toNatClampNeg 14) r_10) (fun σ_11 => FX8_readLine_b228 k0 x1 x2 σ_11))) else if x2 = 2 then zbd (FX8_readNumber k0 0 999 σ) (fun r_7 σ_6 => zin (ln 1 (k0 + 3)) 15 (zlet (zup σ_6 (k0 + 3) (Int32.toNatClampNeg 15) r_7) (fun σ_8 => FX8_readLine_b228 k0 x1 x2 σ_8))) else zbd (FX8_readNumber k0 0 2 σ) (fun r_4 σ_3 => zin (ln 1 (k0 + 3)) 16 (zlet (zup σ_3 (k0 + 3) (Int32.toNatClampNeg 16) r_4) (fun σ_5 => FX8_readLine_b228 k0 x1 x2 σ_5)))
noncomputable def FX8_readLine_b64 (k0 : Nat) (x1 : Int32) (x2 : Int32) (x3 : Int32) (σ : zS) : Option (Int32 × zS) := if x2 ≤ 0 then if x3 = (-1) then zbd (FX8_is k0 0 σ) (fun r_13 σ_12 => if r_13 = 0 then zbd (FX8_is k0 1 σ_12) (fun r_15 σ_14 => if r_15 = 0 then zbd (FX8_is k0 2 σ_14) (fun r_17 σ_16 => if r_17 = 0 then zbd (FX8_is k0 3 σ_16) (fun r_19 σ_18 => if r_19 = 0 then zbd (FX8_wrong k0 1 σ_18) (fun _ σ_20 => FX8_readLine_b228 k0 x1 x2 σ_20) else zbd (FX8_readRule k0 σ_18) (fun _ σ_22 => FX8_readLine_b228 k0 x1 x2 σ_22)) else zbd (FX8_readTwo k0 2 σ_16) (fun _ σ_24 => FX8_readLine_b228 k0 x1 x2 σ_24)) else zbd (FX8_readTwo k0 1 σ_14) (fun _ σ_26 => FX8_readLine_b228 k0 x1 x2 σ_26)) else zbd (FX8_readAisle k0 σ_12) (fun _ σ_28 => FX8_readLine_b228 k0 x1 x2 σ_28)) else zbd (FX8_readPerson k0 x3 σ) (fun _ σ_30 => FX8_readLine_b228 k0 x1 x2 σ_30) else if (σ k0 25) = 0 then zbd (FX8_stepOn k0 σ) (fun _ σ_32 => FX8_readLine_b79 k0 x1 x2 σ_32) else FX8_readLine_b79 k0 x1 x2 σ
noncomputable def FX8_readLine_b43 (k0 : Nat) (x1 : Int32) (y0 : Int32) (σ : zS) : Option (Int32 × zS) := zlet y0 (fun x2_34 => zbd (FX8_which k0 (k0 + 1) σ) (fun r_36 σ_35 => zlet r_36 (fun x3_37 => if (x2_34 &&& x1) = 0 then FX8_readLine_b64 k0 x1 x2_34 x3_37 σ_35 else zbd (FX8_wrong k0 5 σ_35) (fun _ σ_38 => FX8_readLine_b64 k0 x1 x2_34 x3_37 σ_38))))
noncomputable def FX8_readLine (k0 : Nat) (x1 : Int32) (σ : zS) : Option (Int32 × zS) := zbd (FX8_is k0 4 σ) (fun r_41 σ_40 => if r_41 = 0 then zbd (FX8_is k0 5 σ_40) (fun r_43 σ_42 => if r_43 = 0 then zbd (FX8_is k0 6 σ_42) (fun r_45 σ_44 => if r_45 = 0 then FX8_readLine_b43 k0 x1 0 σ_44 else FX8_readLine_b43 k0 x1 4 σ_44) else FX8_readLine_b43 k0 x1 2 σ_42) else FX8_readLine_b43 k0 x1 1 σ_40)
set_option maxHeartbeats 4000000 in
set_option maxRecDepth 100000 in
theorem kX8_readLine (l : Launch) {V : zV} {σ : zS} {t0 : Int32 × zS} {k0 : Nat} {x1 : Int32} (hk0 : kd 1 k0 = 8) (h1 : FX8_readLine k0 x1 σ = some t0) : zMi l yX8_readLine cX8_readLine 4 (some .int) 212 8469 1 V σ t0 [.ref (zad V k0), .int x1] := by
  refine zMi_of (by decide) (Nat.le_of_ble_eq_true rfl) ?_
  intro p e s m below meth c A C0 hr hlk hZ ls hl
  generalize ([.ref (zad V k0), .int x1] : List Value).toArray = args at C0 ⊢
  obtain ⟨Q, hQ⟩ : ∃ Q, Q = MQ below (zQi 1 V t0 A) args s 0 0 A := ⟨_, rfl⟩
  rw [← hQ]
  have hx := C0.1
  have hb := C0.2.1
  have hl : lv_has ls 4 [(0, .ref (zad V k0)), (1, .int x1)] := hl
  unfold FX8_readLine at h1
  have J228 : ∀ (x2 : Int32) (σ : zS) (H : Heap) (locs : List Loc) (ls : Array Slot), zZ 1 V A σ s H locs → lv_has ls 4 [(0, .ref (zad V k0)), (1, .int x1), (2, .int x2)] → FX8_readLine_b228 k0 x1 x2 σ = some t0 → W p l e (zrm 212 8469) s m args below meth c H locs 0 0 Q (F0 m 228 ls []) := by
    intro x2 σ H locs ls  hZ hl h1
    unfold FX8_readLine_b228 at h1
    refine lv_aload_n hx hb dX8_readLine_228 rfl (lv_at hl 0 rfl) ?_
    refine lv_bipush (v := 59) hx hb dX8_readLine_229 (by decide) ?_
    refine z_cVv (As := [.int 59]) (rest := []) C0 hZ h1 (fun _ hf => kX8_mark l hk0 hf) mRX8_251 vX8_mark hk0 rfl rfl hl.1 (Nat.le_of_ble_eq_true rfl) ⟨Nat.le_of_ble_eq_true rfl, Nat.le_of_ble_eq_true rfl⟩ dX8_readLine_231 ⟨Nat.le_of_ble_eq_true rfl, Nat.le_of_ble_eq_true rfl⟩ (fun _ σ_1 H locs h1 hZ => ?_)
    refine lv_iload_n hx hb dX8_readLine_234 rfl (lv_at hl 1 rfl) ?_
    refine lv_iload_n hx hb dX8_readLine_235 rfl (lv_at hl 2 rfl) ?_
    refine lv_ior hx hb dX8_readLine_236 ?_
    rw [hQ]; exact z_iret C0 hr hlk hZ h1 dX8_readLine_237
  have J79 : ∀ (x2 : Int32) (σ : zS) (H : Heap) (locs : List Loc) (ls : Array Slot), zZ 1 V A σ s H locs → lv_has ls 4 [(0, .ref (zad V k0)), (1, .int x1), (2, .int x2)] → FX8_readLine_b79 k0 x1 x2 σ = some t0 → W p l e (zrm 212 8469) s m args below meth c H locs 0 0 Q (F0 m 79 ls []) := by
    intro x2 σ H locs ls  hZ hl h1
    unfold FX8_readLine_b79 at h1
    refine lv_iload_n hx hb dX8_readLine_79 rfl (lv_at hl 2 rfl) ?_
    refine lv_iconst (v := 1) hx hb dX8_readLine_80 (by decide) ?_
    refine z_ic_ne (tgt := 101) C0 h1 dX8_readLine_81 (by decide) (fun h1 => ?_) (fun h1 => ?_)
    · refine lv_iload_n hx hb dX8_readLine_101 rfl (lv_at hl 2 rfl) ?_
      refine lv_iconst (v := 2) hx hb dX8_readLine_102 (by decide) ?_
      refine z_ic_ne (tgt := 124) C0 h1 dX8_readLine_103 (by decide) (fun h1 => ?_) (fun h1 => ?_)
      · refine lv_aload_n hx hb dX8_readLine_124 rfl (lv_at hl 0 rfl) ?_
        refine z_getr C0 hZ hk0 fRX8_40 rfl dX8_readLine_125 ?_
        refine lv_bipush (v := 16) hx hb dX8_readLine_128 (by decide) ?_
        refine lv_aload_n hx hb dX8_readLine_130 rfl (lv_at hl 0 rfl) ?_
        refine lv_iconst (v := 0) hx hb dX8_readLine_131 (by decide) ?_
        refine lv_iconst (v := 2) hx hb dX8_readLine_132 (by decide) ?_
        refine z_cVi (As := [.int 0, .int 2]) (rest := [.int 16, .ref (zad V (k0 + 3))]) C0 hZ h1 (fun _ hf => kX8_readNumber l hk0 hf) mRX8_241 vX8_readNumber hk0 rfl rfl hl.1 (Nat.le_of_ble_eq_true rfl) ⟨Nat.le_of_ble_eq_true rfl, Nat.le_of_ble_eq_true rfl⟩ dX8_readLine_133 ⟨Nat.le_of_ble_eq_true rfl, Nat.le_of_ble_eq_true rfl⟩ (fun r_4 σ_3 H locs h1 hZ => ?_)
        refine z_iast C0 hZ h1 (zkt8_3 hk0) dX8_readLine_136 (fun σ_5 H locs h1 hZ => ?_)
        refine lv_goto (tgt := 228) hx hb dX8_readLine_137 (by decide) ?_
        exact J228 x2 _ _ _ _  hZ (lv_sub hl [0, 1, 2] rfl) h1
      refine lv_aload_n hx hb dX8_readLine_106 rfl (lv_at hl 0 rfl) ?_
      refine z_getr C0 hZ hk0 fRX8_40 rfl dX8_readLine_107 ?_
      refine lv_bipush (v := 15) hx hb dX8_readLine_110 (by decide) ?_
      refine lv_aload_n hx hb dX8_readLine_112 rfl (lv_at hl 0 rfl) ?_
      refine lv_iconst (v := 0) hx hb dX8_readLine_113 (by decide) ?_
      refine lv_sipush (v := 999) hx hb dX8_readLine_114 (by decide) ?_
      refine z_cVi (As := [.int 0, .int 999]) (rest := [.int 15, .ref (zad V (k0 + 3))]) C0 hZ h1 (fun _ hf => kX8_readNumber l hk0 hf) mRX8_241 vX8_readNumber hk0 rfl rfl hl.1 (Nat.le_of_ble_eq_true rfl) ⟨Nat.le_of_ble_eq_true rfl, Nat.le_of_ble_eq_true rfl⟩ dX8_readLine_117 ⟨Nat.le_of_ble_eq_true rfl, Nat.le_of_ble_eq_true rfl⟩ (fun r_7 σ_6 H locs h1 hZ => ?_)
      refine z_iast C0 hZ h1 (zkt8_3 hk0) dX8_readLine_120 (fun σ_8 H locs h1 hZ => ?_)
      refine lv_goto (tgt := 228) hx hb dX8_readLine_121 (by decide) ?_
      exact J228 x2 _ _ _ _  hZ (lv_sub hl [0, 1, 2] rfl) h1
    refine lv_aload_n hx hb dX8_readLine_84 rfl (lv_at hl 0 rfl) ?_
    refine z_getr C0 hZ hk0 fRX8_40 rfl dX8_readLine_85 ?_
    refine lv_bipush (v := 14) hx hb dX8_readLine_88 (by decide) ?_
    refine lv_aload_n hx hb dX8_readLine_90 rfl (lv_at hl 0 rfl) ?_
    refine lv_iconst (v := 1) hx hb dX8_readLine_91 (by decide) ?_
    refine lv_bipush (v := 9) hx hb dX8_readLine_92 (by decide) ?_
    refine z_cVi (As := [.int 1, .int 9]) (rest := [.int 14, .ref (zad V (k0 + 3))]) C0 hZ h1 (fun _ hf => kX8_readNumber l hk0 hf) mRX8_241 vX8_readNumber hk0 rfl rfl hl.1 (Nat.le_of_ble_eq_true rfl) ⟨Nat.le_of_ble_eq_true rfl, Nat.le_of_ble_eq_true rfl⟩ dX8_readLine_94 ⟨Nat.le_of_ble_eq_true rfl, Nat.le_of_ble_eq_true rfl⟩ (fun r_10 σ_9 H locs h1 hZ => ?_)
    refine z_iast C0 hZ h1 (zkt8_3 hk0) dX8_readLine_97 (fun σ_11 H locs h1 hZ => ?_)
    refine lv_goto (tgt := 228) hx hb dX8_readLine_98 (by decide) ?_
    exact J228 x2 _ _ _ _  hZ (lv_sub hl [0, 1, 2] rfl) h1
  have J64 : ∀ (x2 : Int32) (x3 : Int32) (σ : zS) (H : Heap) (locs : List Loc) (ls : Array Slot), zZ 1 V A σ s H locs → lv_has ls 4 [(0, .ref (zad V k0)), (1, .int x1), (2, .int x2), (3, .int x3)] → FX8_readLine_b64 k0 x1 x2 x3 σ = some t0 → W p l e (zrm 212 8469) s m args below meth c H locs 0 0 Q (F0 m 64 ls []) := by
    intro x2 x3 σ H locs ls  hZ hl h1
    unfold FX8_readLine_b64 at h1
    refine lv_iload_n hx hb dX8_readLine_64 rfl (lv_at hl 2 rfl) ?_
    refine z_if_le (tgt := 140) C0 h1 dX8_readLine_65 (by decide) (fun h1 => ?_) (fun h1 => ?_)
    · refine lv_iload_n hx hb dX8_readLine_140 rfl (lv_at hl 3 rfl) ?_
      refine lv_iconst (v := (-1)) hx hb dX8_readLine_141 (by decide) ?_
      refine z_ic_eq (tgt := 153) C0 h1 dX8_readLine_142 (by decide) (fun h1 => ?_) (fun h1 => ?_)
      · refine lv_aload_n hx hb dX8_readLine_153 rfl (lv_at hl 0 rfl) ?_
        refine z_ldcSw (i := 0) (tx := "aisle") C0 hZ (by decide +kernel) dX8_readLine_154 ?_
        refine z_cVi (As := [.ref (V.2.2.2.1 0)]) (rest := []) C0 hZ h1 (fun _ hf => kX8_is l hk0 (by decide) hf) mRX8_224 vX8_is hk0 rfl rfl hl.1 (Nat.le_of_ble_eq_true rfl) ⟨Nat.le_of_ble_eq_true rfl, Nat.le_of_ble_eq_true rfl⟩ dX8_readLine_157 ⟨Nat.le_of_ble_eq_true rfl, Nat.le_of_ble_eq_true rfl⟩ (fun r_13 σ_12 H locs h1 hZ => ?_)
        refine z_if_eq (tgt := 170) C0 h1 dX8_readLine_160 (by decide) (fun h1 => ?_) (fun h1 => ?_)
        · refine lv_aload_n hx hb dX8_readLine_170 rfl (lv_at hl 0 rfl) ?_
          refine z_ldcSw (i := 1) (tx := "way") C0 hZ (by decide +kernel) dX8_readLine_171 ?_
          refine z_cVi (As := [.ref (V.2.2.2.1 1)]) (rest := []) C0 hZ h1 (fun _ hf => kX8_is l hk0 (by decide) hf) mRX8_224 vX8_is hk0 rfl rfl hl.1 (Nat.le_of_ble_eq_true rfl) ⟨Nat.le_of_ble_eq_true rfl, Nat.le_of_ble_eq_true rfl⟩ dX8_readLine_174 ⟨Nat.le_of_ble_eq_true rfl, Nat.le_of_ble_eq_true rfl⟩ (fun r_15 σ_14 H locs h1 hZ => ?_)
          refine z_if_eq (tgt := 188) C0 h1 dX8_readLine_177 (by decide) (fun h1 => ?_) (fun h1 => ?_)
          · refine lv_aload_n hx hb dX8_readLine_188 rfl (lv_at hl 0 rfl) ?_
            refine z_ldcSw (i := 2) (tx := "mirror") C0 hZ (by decide +kernel) dX8_readLine_189 ?_
            refine z_cVi (As := [.ref (V.2.2.2.1 2)]) (rest := []) C0 hZ h1 (fun _ hf => kX8_is l hk0 (by decide) hf) mRX8_224 vX8_is hk0 rfl rfl hl.1 (Nat.le_of_ble_eq_true rfl) ⟨Nat.le_of_ble_eq_true rfl, Nat.le_of_ble_eq_true rfl⟩ dX8_readLine_192 ⟨Nat.le_of_ble_eq_true rfl, Nat.le_of_ble_eq_true rfl⟩ (fun r_17 σ_16 H locs h1 hZ => ?_)
            refine z_if_eq (tgt := 206) C0 h1 dX8_readLine_195 (by decide) (fun h1 => ?_) (fun h1 => ?_)
            · refine lv_aload_n hx hb dX8_readLine_206 rfl (lv_at hl 0 rfl) ?_
              refine z_ldcSw (i := 3) (tx := "rule") C0 hZ (by decide +kernel) dX8_readLine_207 ?_
              refine z_cVi (As := [.ref (V.2.2.2.1 3)]) (rest := []) C0 hZ h1 (fun _ hf => kX8_is l hk0 (by decide) hf) mRX8_224 vX8_is hk0 rfl rfl hl.1 (Nat.le_of_ble_eq_true rfl) ⟨Nat.le_of_ble_eq_true rfl, Nat.le_of_ble_eq_true rfl⟩ dX8_readLine_210 ⟨Nat.le_of_ble_eq_true rfl, Nat.le_of_ble_eq_true rfl⟩ (fun r_19 σ_18 H locs h1 hZ => ?_)
              refine z_if_eq (tgt := 223) C0 h1 dX8_readLine_213 (by decide) (fun h1 => ?_) (fun h1 => ?_)
              · refine lv_aload_n hx hb dX8_readLine_223 rfl (lv_at hl 0 rfl) ?_
                refine lv_iconst (v := 1) hx hb dX8_readLine_224 (by decide) ?_
                refine z_cVv (As := [.int 1]) (rest := []) C0 hZ h1 (fun _ hf => kX8_wrong l hk0 hf) mRX8_231 vX8_wrong hk0 rfl rfl hl.1 (Nat.le_of_ble_eq_true rfl) ⟨Nat.le_of_ble_eq_true rfl, Nat.le_of_ble_eq_true rfl⟩ dX8_readLine_225 ⟨Nat.le_of_ble_eq_true rfl, Nat.le_of_ble_eq_true rfl⟩ (fun _ σ_20 H locs h1 hZ => ?_)
                exact J228 x2 _ _ _ _  hZ (lv_sub hl [0, 1, 2] rfl) h1
              refine lv_aload_n hx hb dX8_readLine_216 rfl (lv_at hl 0 rfl) ?_
              refine z_cVv (As := []) (rest := []) C0 hZ h1 (fun _ hf => kX8_readRule l hk0 hf) mRX8_307 vX8_readRule hk0 rfl rfl hl.1 (Nat.le_of_ble_eq_true rfl) ⟨Nat.le_of_ble_eq_true rfl, Nat.le_of_ble_eq_true rfl⟩ dX8_readLine_217 ⟨Nat.le_of_ble_eq_true rfl, Nat.le_of_ble_eq_true rfl⟩ (fun _ σ_22 H locs h1 hZ => ?_)
              refine lv_goto (tgt := 228) hx hb dX8_readLine_220 (by decide) ?_
              exact J228 x2 _ _ _ _  hZ (lv_sub hl [0, 1, 2] rfl) h1
            refine lv_aload_n hx hb dX8_readLine_198 rfl (lv_at hl 0 rfl) ?_
            refine lv_iconst (v := 2) hx hb dX8_readLine_199 (by decide) ?_
            refine z_cVv (As := [.int 2]) (rest := []) C0 hZ h1 (fun _ hf => kX8_readTwo l hk0 hf) mRX8_300 vX8_readTwo hk0 rfl rfl hl.1 (Nat.le_of_ble_eq_true rfl) ⟨Nat.le_of_ble_eq_true rfl, Nat.le_of_ble_eq_true rfl⟩ dX8_readLine_200 ⟨Nat.le_of_ble_eq_true rfl, Nat.le_of_ble_eq_true rfl⟩ (fun _ σ_24 H locs h1 hZ => ?_)
            refine lv_goto (tgt := 228) hx hb dX8_readLine_203 (by decide) ?_
            exact J228 x2 _ _ _ _  hZ (lv_sub hl [0, 1, 2] rfl) h1
          refine lv_aload_n hx hb dX8_readLine_180 rfl (lv_at hl 0 rfl) ?_
          refine lv_iconst (v := 1) hx hb dX8_readLine_181 (by decide) ?_
          refine z_cVv (As := [.int 1]) (rest := []) C0 hZ h1 (fun _ hf => kX8_readTwo l hk0 hf) mRX8_300 vX8_readTwo hk0 rfl rfl hl.1 (Nat.le_of_ble_eq_true rfl) ⟨Nat.le_of_ble_eq_true rfl, Nat.le_of_ble_eq_true rfl⟩ dX8_readLine_182 ⟨Nat.le_of_ble_eq_true rfl, Nat.le_of_ble_eq_true rfl⟩ (fun _ σ_26 H locs h1 hZ => ?_)
          refine lv_goto (tgt := 228) hx hb dX8_readLine_185 (by decide) ?_
          exact J228 x2 _ _ _ _  hZ (lv_sub hl [0, 1, 2] rfl) h1
        refine lv_aload_n hx hb dX8_readLine_163 rfl (lv_at hl 0 rfl) ?_
        refine z_cVv (As := []) (rest := []) C0 hZ h1 (fun _ hf => kX8_readAisle l hk0 hf) mRX8_295 vX8_readAisle hk0 rfl rfl hl.1 (Nat.le_of_ble_eq_true rfl) ⟨Nat.le_of_ble_eq_true rfl, Nat.le_of_ble_eq_true rfl⟩ dX8_readLine_164 ⟨Nat.le_of_ble_eq_true rfl, Nat.le_of_ble_eq_true rfl⟩ (fun _ σ_28 H locs h1 hZ => ?_)
        refine lv_goto (tgt := 228) hx hb dX8_readLine_167 (by decide) ?_
        exact J228 x2 _ _ _ _  hZ (lv_sub hl [0, 1, 2] rfl) h1
      refine lv_aload_n hx hb dX8_readLine_145 rfl (lv_at hl 0 rfl) ?_
      refine lv_iload_n hx hb dX8_readLine_146 rfl (lv_at hl 3 rfl) ?_
      refine z_cVv (As := [.int x3]) (rest := []) C0 hZ h1 (fun _ hf => kX8_readPerson l hk0 hf) mRX8_290 vX8_readPerson hk0 rfl rfl hl.1 (Nat.le_of_ble_eq_true rfl) ⟨Nat.le_of_ble_eq_true rfl, Nat.le_of_ble_eq_true rfl⟩ dX8_readLine_147 ⟨Nat.le_of_ble_eq_true rfl, Nat.le_of_ble_eq_true rfl⟩ (fun _ σ_30 H locs h1 hZ => ?_)
      refine lv_goto (tgt := 228) hx hb dX8_readLine_150 (by decide) ?_
      exact J228 x2 _ _ _ _  hZ (lv_sub hl [0, 1, 2] rfl) h1
    refine lv_aload_n hx hb dX8_readLine_68 rfl (lv_at hl 0 rfl) ?_
    refine z_geti C0 hZ hk0 fRX8_210 rfl dX8_readLine_69 ?_
    refine z_if_ne (tgt := 79) C0 h1 dX8_readLine_72 (by decide) (fun h1 => ?_) (fun h1 => ?_)
    · exact J79 x2 _ _ _ _  hZ (lv_sub hl [0, 1, 2] rfl) h1
    refine lv_aload_n hx hb dX8_readLine_75 rfl (lv_at hl 0 rfl) ?_
    refine z_cVv (As := []) (rest := []) C0 hZ h1 (fun _ hf => kX8_stepOn l hk0 hf) mRX8_235 vX8_stepOn hk0 rfl rfl hl.1 (Nat.le_of_ble_eq_true rfl) ⟨Nat.le_of_ble_eq_true rfl, Nat.le_of_ble_eq_true rfl⟩ dX8_readLine_76 ⟨Nat.le_of_ble_eq_true rfl, Nat.le_of_ble_eq_true rfl⟩ (fun _ σ_32 H locs h1 hZ => ?_)
    exact J79 x2 _ _ _ _  hZ (lv_sub hl [0, 1, 2] rfl) h1
  have J43 : ∀ (y0 : Int32) (σ : zS) (H : Heap) (locs : List Loc) (ls : Array Slot), zZ 1 V A σ s H locs → lv_has ls 4 [(0, .ref (zad V k0)), (1, .int x1)] → FX8_readLine_b43 k0 x1 y0 σ = some t0 → W p l e (zrm 212 8469) s m args below meth c H locs 0 0 Q (F0 m 43 ls [.int y0]) := by
    intro y0 σ H locs ls  hZ hl h1
    unfold FX8_readLine_b43 at h1
    refine z_istore_n C0 h1 hl (fun x2_34 => [(2, .int x2_34), (0, .ref (zad V k0)), (1, .int x1)]) dX8_readLine_43 rfl (by decide) (fun _ => rfl) (fun x2_34 ls h1 hl => ?_)
    refine lv_aload_n hx hb dX8_readLine_44 rfl (lv_at hl 1 rfl) ?_
    refine lv_aload_n hx hb dX8_readLine_45 rfl (lv_at hl 1 rfl) ?_
    refine z_getr C0 hZ hk0 fRX8_19 rfl dX8_readLine_46 ?_
    refine z_cVi (As := [.ref (zad V (k0 + 1))]) (rest := []) C0 hZ h1 (fun _ hf => kX8_which l hk0 (zkt8_0 hk0) hf) mRX8_247 vX8_which hk0 rfl rfl hl.1 (Nat.le_of_ble_eq_true rfl) ⟨Nat.le_of_ble_eq_true rfl, Nat.le_of_ble_eq_true rfl⟩ dX8_readLine_49 ⟨Nat.le_of_ble_eq_true rfl, Nat.le_of_ble_eq_true rfl⟩ (fun r_36 σ_35 H locs h1 hZ => ?_)
    refine z_istore_n C0 h1 hl (fun x3_37 => [(3, .int x3_37), (2, .int x2_34), (0, .ref (zad V k0)), (1, .int x1)]) dX8_readLine_52 rfl (by decide) (fun _ => rfl) (fun x3_37 ls h1 hl => ?_)
    refine lv_iload_n hx hb dX8_readLine_53 rfl (lv_at hl 1 rfl) ?_
    refine lv_iload_n hx hb dX8_readLine_54 rfl (lv_at hl 3 rfl) ?_
    refine lv_iand hx hb dX8_readLine_55 ?_
    refine z_if_eq (tgt := 64) C0 h1 dX8_readLine_56 (by decide) (fun h1 => ?_) (fun h1 => ?_)
    · exact J64 x2_34 x3_37 _ _ _ _  hZ (lv_sub hl [2, 3, 1, 0] rfl) h1
    refine lv_aload_n hx hb dX8_readLine_59 rfl (lv_at hl 2 rfl) ?_
    refine lv_iconst (v := 5) hx hb dX8_readLine_60 (by decide) ?_
    refine z_cVv (As := [.int 5]) (rest := []) C0 hZ h1 (fun _ hf => kX8_wrong l hk0 hf) mRX8_231 vX8_wrong hk0 rfl rfl hl.1 (Nat.le_of_ble_eq_true rfl) ⟨Nat.le_of_ble_eq_true rfl, Nat.le_of_ble_eq_true rfl⟩ dX8_readLine_61 ⟨Nat.le_of_ble_eq_true rfl, Nat.le_of_ble_eq_true rfl⟩ (fun _ σ_38 H locs h1 hZ => ?_)
    exact J64 x2_34 x3_37 _ _ _ _  hZ (lv_sub hl [2, 3, 1, 0] rfl) h1
  refine lv_aload_n hx hb dX8_readLine_0 rfl (lv_at hl 0 rfl) ?_
  refine z_ldcSw (i := 4) (tx := "notice") C0 hZ (by decide +kernel) dX8_readLine_1 ?_
  refine z_cVi (As := [.ref (V.2.2.2.1 4)]) (rest := []) C0 hZ h1 (fun _ hf => kX8_is l hk0 (by decide) hf) mRX8_224 vX8_is hk0 rfl rfl hl.1 (Nat.le_of_ble_eq_true rfl) ⟨Nat.le_of_ble_eq_true rfl, Nat.le_of_ble_eq_true rfl⟩ dX8_readLine_4 ⟨Nat.le_of_ble_eq_true rfl, Nat.le_of_ble_eq_true rfl⟩ (fun r_41 σ_40 H locs h1 hZ => ?_)
  refine z_if_eq (tgt := 14) C0 h1 dX8_readLine_7 (by decide) (fun h1 => ?_) (fun h1 => ?_)
  · refine lv_aload_n hx hb dX8_readLine_14 rfl (lv_at hl 0 rfl) ?_
    refine z_ldcSw (i := 5) (tx := "false") C0 hZ (by decide +kernel) dX8_readLine_15 ?_
    refine z_cVi (As := [.ref (V.2.2.2.1 5)]) (rest := []) C0 hZ h1 (fun _ hf => kX8_is l hk0 (by decide) hf) mRX8_224 vX8_is hk0 rfl rfl hl.1 (Nat.le_of_ble_eq_true rfl) ⟨Nat.le_of_ble_eq_true rfl, Nat.le_of_ble_eq_true rfl⟩ dX8_readLine_18 ⟨Nat.le_of_ble_eq_true rfl, Nat.le_of_ble_eq_true rfl⟩ (fun r_43 σ_42 H locs h1 hZ => ?_)
    refine z_if_eq (tgt := 28) C0 h1 dX8_readLine_21 (by decide) (fun h1 => ?_) (fun h1 => ?_)
    · refine lv_aload_n hx hb dX8_readLine_28 rfl (lv_at hl 0 rfl) ?_
      refine z_ldcSw (i := 6) (tx := "stops") C0 hZ (by decide +kernel) dX8_readLine_29 ?_
      refine z_cVi (As := [.ref (V.2.2.2.1 6)]) (rest := []) C0 hZ h1 (fun _ hf => kX8_is l hk0 (by decide) hf) mRX8_224 vX8_is hk0 rfl rfl hl.1 (Nat.le_of_ble_eq_true rfl) ⟨Nat.le_of_ble_eq_true rfl, Nat.le_of_ble_eq_true rfl⟩ dX8_readLine_32 ⟨Nat.le_of_ble_eq_true rfl, Nat.le_of_ble_eq_true rfl⟩ (fun r_45 σ_44 H locs h1 hZ => ?_)
      refine z_if_eq (tgt := 42) C0 h1 dX8_readLine_35 (by decide) (fun h1 => ?_) (fun h1 => ?_)
      · refine lv_iconst (v := 0) hx hb dX8_readLine_42 (by decide) ?_
        exact J43 0 _ _ _ _  hZ (lv_sub hl [0, 1] rfl) h1
      refine lv_iconst (v := 4) hx hb dX8_readLine_38 (by decide) ?_
      refine lv_goto (tgt := 43) hx hb dX8_readLine_39 (by decide) ?_
      exact J43 4 _ _ _ _  hZ (lv_sub hl [0, 1] rfl) h1
    refine lv_iconst (v := 2) hx hb dX8_readLine_24 (by decide) ?_
    refine lv_goto (tgt := 43) hx hb dX8_readLine_25 (by decide) ?_
    exact J43 2 _ _ _ _  hZ (lv_sub hl [0, 1] rfl) h1
  refine lv_iconst (v := 1) hx hb dX8_readLine_10 (by decide) ?_
  refine lv_goto (tgt := 43) hx hb dX8_readLine_11 (by decide) ?_
  exact J43 1 _ _ _ _  hZ (lv_sub hl [0, 1] rfl) h1
noncomputable def FX8_takeHalf_b27  (σ : zS) : Option (Int32 × zS) := some (0, σ)
noncomputable def FX8_takeHalf_L2 (k0 : Nat) (x1 : Int32) (σ : zS) : Option ((Int32 × zS) ⊕ (Int32 × zS)) := zgd (2 != 0) (if ((nI (ln 1 k0)) / 2) ≤ x1 then zinr (FX8_takeHalf_b27  σ) else zgd (2 != 0) (zin (ln 1 k0) (((nI (ln 1 k0)) / 2) + x1) (zin (ln 1 k0) x1 (zlet (zup σ k0 (Int32.toNatClampNeg x1) (σ k0 (Int32.toNatClampNeg (((nI (ln 1 k0)) / 2) + x1)))) (fun σ_1 => zlet (x1 + 1) (fun x1_2 => some (.inl (x1_2, σ_1))))))))
noncomputable def FX8_takeHalf (k0 : Nat) (σ : zS) : Option (Int32 × zS) := zlet 0 (fun x1_3 => zlp (fun q => FX8_takeHalf_L2 k0 q.1 q.2) (x1_3, σ))
set_option maxHeartbeats 4000000 in
set_option maxRecDepth 100000 in
theorem kX8_takeHalf (l : Launch) {V : zV} {σ : zS} {t0 : Int32 × zS} {k0 : Nat} (hk0 : kd 1 k0 = 100) (h1 : FX8_takeHalf k0 σ = some t0) : zMv l yX8_takeHalf cX8_takeHalf 2 0 0 1 V σ t0 [.ref (zad V k0)] := by
  refine zMv_of (by decide) (Nat.le_of_ble_eq_true rfl) ?_
  intro p e s m below meth c A C0 hr hlk hZ ls hl
  generalize ([.ref (zad V k0)] : List Value).toArray = args at C0 ⊢
  obtain ⟨Q, hQ⟩ : ∃ Q, Q = MQ below (zQv 1 V t0 A) args s 0 0 A := ⟨_, rfl⟩
  rw [← hQ]
  have hx := C0.1
  have hb := C0.2.1
  have hl : lv_has ls 2 [(0, .ref (zad V k0))] := hl
  unfold FX8_takeHalf at h1
  have J27 : ∀  (σ : zS) (H : Heap) (locs : List Loc) (ls : Array Slot), zZ 1 V A σ s H locs → lv_has ls 2 [] → FX8_takeHalf_b27  σ = some t0 → W p l e (zrm 0 0) s m args below meth c H locs 0 0 Q (F0 m 27 ls []) := by
    intro  σ H locs ls  hZ hl h1
    unfold FX8_takeHalf_b27 at h1
    rw [hQ]; exact z_vret C0 hr hlk hZ h1 dX8_takeHalf_27
  have J2 : ∀ (n : Nat) (x1 : Int32) (σ : zS) (H : Heap) (locs : List Loc) (ls : Array Slot), zZ 1 V A σ s H locs → lv_has ls 2 [(0, .ref (zad V k0)), (1, .int x1)] → zit (fun q => FX8_takeHalf_L2 k0 q.1 q.2) n (x1, σ) = some t0 → W p l e (zrm 0 0) s m args below meth c H locs 0 0 Q (F0 m 2 ls []) := by
    intro n
    induction n with
    | zero => intro x1 σ H locs ls  _ _ h1; cases h1
    | succ n ih2 =>
      intro x1 σ H locs ls  hZ hl h1
      obtain ⟨t1, h1, hz1⟩ := zit_1 h1
      replace h1 : FX8_takeHalf_L2 k0 x1 σ = some t1 := h1
      unfold FX8_takeHalf_L2 at h1
      refine lv_iload_n hx hb dX8_takeHalf_2 rfl (lv_at hl 1 rfl) ?_
      refine lv_aload_n hx hb dX8_takeHalf_3 rfl (lv_at hl 0 rfl) ?_
      refine z_alen C0 hZ hk0 dX8_takeHalf_4 ?_
      refine lv_iconst (v := 2) hx hb dX8_takeHalf_5 (by decide) ?_
      refine z_idiv C0 h1 dX8_takeHalf_6 (fun h1 => ?_)
      refine z_ic_ge (tgt := 27) C0 h1 dX8_takeHalf_7 (by decide) (fun h1 => ?_) (fun h1 => ?_)
      · have h1 := zout h1 hz1
        exact J27  _ _ _ _  hZ (lv_sub hl [] rfl) h1
      refine lv_aload_n hx hb dX8_takeHalf_10 rfl (lv_at hl 0 rfl) ?_
      refine lv_iload_n hx hb dX8_takeHalf_11 rfl (lv_at hl 1 rfl) ?_
      refine lv_aload_n hx hb dX8_takeHalf_12 rfl (lv_at hl 0 rfl) ?_
      refine lv_aload_n hx hb dX8_takeHalf_13 rfl (lv_at hl 0 rfl) ?_
      refine z_alen C0 hZ hk0 dX8_takeHalf_14 ?_
      refine lv_iconst (v := 2) hx hb dX8_takeHalf_15 (by decide) ?_
      refine z_idiv C0 h1 dX8_takeHalf_16 (fun h1 => ?_)
      refine lv_iload_n hx hb dX8_takeHalf_17 rfl (lv_at hl 1 rfl) ?_
      refine lv_iadd hx hb dX8_takeHalf_18 ?_
      refine z_iald C0 hZ h1 hk0 dX8_takeHalf_19 (fun h1 => ?_)
      refine z_iast C0 hZ h1 hk0 dX8_takeHalf_20 (fun σ_1 H locs h1 hZ => ?_)
      refine z_iinc (v := 1) C0 h1 hl (fun x1_2 => [(1, .int x1_2), (0, .ref (zad V k0))]) dX8_takeHalf_21 (k := 1) rfl (by decide) (by decide) (fun _ => rfl) (fun x1_2 ls h1 hl => ?_)
      refine lv_goto (tgt := 2) hx hb dX8_takeHalf_24 (by decide) ?_
      exact ih2 x1_2 _ _ _ _  hZ (lv_sub hl [1, 0] rfl) (zback h1 hz1)
  refine lv_iconst (v := 0) hx hb dX8_takeHalf_0 (by decide) ?_
  refine z_istore_n C0 h1 hl (fun x1_3 => [(1, .int x1_3), (0, .ref (zad V k0))]) dX8_takeHalf_1 rfl (by decide) (fun _ => rfl) (fun x1_3 ls h1 hl => ?_)
  obtain ⟨n, h1⟩ := zlp_iff.mp h1
  exact J2 n x1_3 _ _ _ _  hZ (lv_sub hl [1, 0] rfl) h1
noncomputable def FX8_tellFar_b177  (σ : zS) : Option (Int32 × zS) := some (0, σ)
noncomputable def FX8_tellFar_b171 (k0 : Nat) (x1 : Int32) (σ : zS) : Option ((Int32 × zS) ⊕ (Int32 × zS)) := zlet (x1 + 1) (fun x1_1 => some (.inl (x1_1, σ)))
noncomputable def FX8_tellFar_b165 (k0 : Nat) (x1 : Int32) (x2 : Int32) (σ : zS) : Option ((Int32 × zS) ⊕ ((Int32 × zS) ⊕ (Int32 × zS))) := zlet (x2 + 1) (fun x2_2 => some (.inl (x2_2, σ)))
noncomputable def FX8_tellFar_b159 (k0 : Nat) (x1 : Int32) (x2 : Int32) (x3 : Int32) (σ : zS) : Option ((Int32 × zS) ⊕ ((Int32 × zS) ⊕ ((Int32 × zS) ⊕ (Int32 × zS)))) := zlet (x3 + 1) (fun x3_3 => some (.inl (x3_3, σ)))
noncomputable def FX8_tellFar_b153 (k0 : Nat) (x1 : Int32) (x2 : Int32) (x3 : Int32) (x4 : Int32) (σ : zS) : Option ((Int32 × zS) ⊕ ((Int32 × zS) ⊕ ((Int32 × zS) ⊕ ((Int32 × zS) ⊕ (Int32 × zS))))) := zlet (x4 + 1) (fun x4_4 => some (.inl (x4_4, σ)))
noncomputable def FX8_tellFar_L96 (k0 : Nat) (x1 : Int32) (x2 : Int32) (x3 : Int32) (x4 : Int32) (σ : zS) : Option ((Int32 × zS) ⊕ ((Int32 × zS) ⊕ ((Int32 × zS) ⊕ ((Int32 × zS) ⊕ (Int32 × zS))))) := zin (ln 1 (k0 + 3)) 0 (if (σ (k0 + 3) (Int32.toNatClampNeg 0)) ≤ x4 then zinr (FX8_tellFar_b159 k0 x1 x2 x3 σ) else zin (ln 1 (k0 + 18)) ((10 * x1) + x4) (if (σ (k0 + 18) (Int32.toNatClampNeg ((10 * x1) + x4))) = (-1) then zin (ln 1 (k0 + 6)) x3 (if (((σ (k0 + 6) (Int32.toNatClampNeg x3)) >>> (x4 &&& 31)) &&& 1) = 1 then zin (ln 1 (k0 + 18)) ((10 * x1) + x4) (zlet (zup σ (k0 + 18) (Int32.toNatClampNeg ((10 * x1) + x4)) (x2 + 1)) (fun σ_5 => FX8_tellFar_b153 k0 x1 x2 x3 x4 σ_5)) else FX8_tellFar_b153 k0 x1 x2 x3 x4 σ) else FX8_tellFar_b153 k0 x1 x2 x3 x4 σ))
noncomputable def FX8_tellFar_L65 (k0 : Nat) (x1 : Int32) (x2 : Int32) (x3 : Int32) (σ : zS) : Option ((Int32 × zS) ⊕ ((Int32 × zS) ⊕ ((Int32 × zS) ⊕ (Int32 × zS)))) := zin (ln 1 (k0 + 3)) 0 (if (σ (k0 + 3) (Int32.toNatClampNeg 0)) ≤ x3 then zinr (FX8_tellFar_b165 k0 x1 x2 σ) else zin (ln 1 (k0 + 18)) ((10 * x1) + x3) (if (σ (k0 + 18) (Int32.toNatClampNeg ((10 * x1) + x3))) = x2 then zlet 0 (fun x4_6 => zlp (fun q => FX8_tellFar_L96 k0 x1 x2 x3 q.1 q.2) (x4_6, σ)) else FX8_tellFar_b159 k0 x1 x2 x3 σ))
noncomputable def FX8_tellFar_L53 (k0 : Nat) (x1 : Int32) (x2 : Int32) (σ : zS) : Option ((Int32 × zS) ⊕ ((Int32 × zS) ⊕ (Int32 × zS))) := zin (ln 1 (k0 + 3)) 0 (if (σ (k0 + 3) (Int32.toNatClampNeg 0)) ≤ x2 then zinr (FX8_tellFar_b171 k0 x1 σ) else zlet 0 (fun x3_7 => zlp (fun q => FX8_tellFar_L65 k0 x1 x2 q.1 q.2) (x3_7, σ)))
noncomputable def FX8_tellFar_b51 (k0 : Nat) (x1 : Int32) (σ : zS) : Option ((Int32 × zS) ⊕ (Int32 × zS)) := zlet 0 (fun x2_8 => zlp (fun q => FX8_tellFar_L53 k0 x1 q.1 q.2) (x2_8, σ))
noncomputable def FX8_tellFar_b44 (k0 : Nat) (x1 : Int32) (x2 : Int32) (q0 : Nat) (y1 : Int32) (y2 : Int32) (σ : zS) : Option ((Int32 × zS) ⊕ ((Int32 × zS) ⊕ (Int32 × zS))) := zin (ln 1 q0) y1 (zlet (zup σ q0 (Int32.toNatClampNeg y1) y2) (fun σ_9 => zlet (x2 + 1) (fun x2_10 => some (.inl (x2_10, σ_9)))))
noncomputable def FX8_tellFar_L14 (k0 : Nat) (x1 : Int32) (x2 : Int32) (σ : zS) : Option ((Int32 × zS) ⊕ ((Int32 × zS) ⊕ (Int32 × zS))) := zin (ln 1 (k0 + 3)) 0 (if (σ (k0 + 3) (Int32.toNatClampNeg 0)) ≤ x2 then zinr (FX8_tellFar_b51 k0 x1 σ) else if x1 = x2 then FX8_tellFar_b44 k0 x1 x2 (k0 + 18) ((10 * x1) + x2) 0 σ else FX8_tellFar_b44 k0 x1 x2 (k0 + 18) ((10 * x1) + x2) (-1) σ)
noncomputable def FX8_tellFar_L2 (k0 : Nat) (x1 : Int32) (σ : zS) : Option ((Int32 × zS) ⊕ (Int32 × zS)) := zin (ln 1 (k0 + 3)) 0 (if (σ (k0 + 3) (Int32.toNatClampNeg 0)) ≤ x1 then zinr (FX8_tellFar_b177  σ) else zlet 0 (fun x2_11 => zlp (fun q => FX8_tellFar_L14 k0 x1 q.1 q.2) (x2_11, σ)))
noncomputable def FX8_tellFar (k0 : Nat) (σ : zS) : Option (Int32 × zS) := zlet 0 (fun x1_12 => zlp (fun q => FX8_tellFar_L2 k0 q.1 q.2) (x1_12, σ))
set_option maxHeartbeats 4000000 in
set_option maxRecDepth 100000 in
theorem kX8_tellFar (l : Launch) {V : zV} {σ : zS} {t0 : Int32 × zS} {k0 : Nat} (hk0 : kd 1 k0 = 8) (h1 : FX8_tellFar k0 σ = some t0) : zMv l yX8_tellFar cX8_tellFar 5 0 0 1 V σ t0 [.ref (zad V k0)] := by
  refine zMv_of (by decide) (Nat.le_of_ble_eq_true rfl) ?_
  intro p e s m below meth c A C0 hr hlk hZ ls hl
  generalize ([.ref (zad V k0)] : List Value).toArray = args at C0 ⊢
  obtain ⟨Q, hQ⟩ : ∃ Q, Q = MQ below (zQv 1 V t0 A) args s 0 0 A := ⟨_, rfl⟩
  rw [← hQ]
  have hx := C0.1
  have hb := C0.2.1
  have hl : lv_has ls 5 [(0, .ref (zad V k0))] := hl
  unfold FX8_tellFar at h1
  have J177 : ∀  (σ : zS) (H : Heap) (locs : List Loc) (ls : Array Slot), zZ 1 V A σ s H locs → lv_has ls 5 [] → FX8_tellFar_b177  σ = some t0 → W p l e (zrm 0 0) s m args below meth c H locs 0 0 Q (F0 m 177 ls []) := by
    intro  σ H locs ls  hZ hl h1
    unfold FX8_tellFar_b177 at h1
    rw [hQ]; exact z_vret C0 hr hlk hZ h1 dX8_tellFar_177
  have J2 : ∀ (n : Nat) (x1 : Int32) (σ : zS) (H : Heap) (locs : List Loc) (ls : Array Slot), zZ 1 V A σ s H locs → lv_has ls 5 [(0, .ref (zad V k0)), (1, .int x1)] → zit (fun q => FX8_tellFar_L2 k0 q.1 q.2) n (x1, σ) = some t0 → W p l e (zrm 0 0) s m args below meth c H locs 0 0 Q (F0 m 2 ls []) := by
    intro n
    induction n with
    | zero => intro x1 σ H locs ls  _ _ h1; cases h1
    | succ n ih2 =>
      intro x1 σ H locs ls  hZ hl h1
      obtain ⟨t1, h1, hz1⟩ := zit_1 h1
      have J171 : ∀ (x1 : Int32) (σ : zS) (H : Heap) (locs : List Loc) (ls : Array Slot), zZ 1 V A σ s H locs → lv_has ls 5 [(0, .ref (zad V k0)), (1, .int x1)] → FX8_tellFar_b171 k0 x1 σ = some t1 → W p l e (zrm 0 0) s m args below meth c H locs 0 0 Q (F0 m 171 ls []) := by
        intro x1 σ H locs ls  hZ hl h1
        unfold FX8_tellFar_b171 at h1
        refine z_iinc (v := 1) C0 h1 hl (fun x1_1 => [(1, .int x1_1), (0, .ref (zad V k0))]) dX8_tellFar_171 (k := 1) rfl (by decide) (by decide) (fun _ => rfl) (fun x1_1 ls h1 hl => ?_)
        refine lv_goto (tgt := 2) hx hb dX8_tellFar_174 (by decide) ?_
        exact ih2 x1_1 _ _ _ _  hZ (lv_sub hl [1, 0] rfl) (zback h1 hz1)
      have J53 : ∀ (n : Nat) (x1 : Int32) (x2 : Int32) (σ : zS) (H : Heap) (locs : List Loc) (ls : Array Slot), zZ 1 V A σ s H locs → lv_has ls 5 [(0, .ref (zad V k0)), (1, .int x1), (2, .int x2)] → zit (fun q => FX8_tellFar_L53 k0 x1 q.1 q.2) n (x2, σ) = some t1 → W p l e (zrm 0 0) s m args below meth c H locs 0 0 Q (F0 m 53 ls []) := by
        intro n
        induction n with
        | zero => intro x1 x2 σ H locs ls  _ _ h1; cases h1
        | succ n ih53 =>
          intro x1 x2 σ H locs ls  hZ hl h1
          obtain ⟨t2, h1, hz2⟩ := zit_1 h1
          have J165 : ∀ (x2 : Int32) (σ : zS) (H : Heap) (locs : List Loc) (ls : Array Slot), zZ 1 V A σ s H locs → lv_has ls 5 [(0, .ref (zad V k0)), (1, .int x1), (2, .int x2)] → FX8_tellFar_b165 k0 x1 x2 σ = some t2 → W p l e (zrm 0 0) s m args below meth c H locs 0 0 Q (F0 m 165 ls []) := by
            intro x2 σ H locs ls  hZ hl h1
            unfold FX8_tellFar_b165 at h1
            refine z_iinc (v := 1) C0 h1 hl (fun x2_2 => [(2, .int x2_2), (0, .ref (zad V k0)), (1, .int x1)]) dX8_tellFar_165 (k := 2) rfl (by decide) (by decide) (fun _ => rfl) (fun x2_2 ls h1 hl => ?_)
            refine lv_goto (tgt := 53) hx hb dX8_tellFar_168 (by decide) ?_
            exact ih53 x1 x2_2 _ _ _ _  hZ (lv_sub hl [1, 2, 0] rfl) (zback h1 hz2)
          have J65 : ∀ (n : Nat) (x2 : Int32) (x3 : Int32) (σ : zS) (H : Heap) (locs : List Loc) (ls : Array Slot), zZ 1 V A σ s H locs → lv_has ls 5 [(0, .ref (zad V k0)), (1, .int x1), (2, .int x2), (3, .int x3)] → zit (fun q => FX8_tellFar_L65 k0 x1 x2 q.1 q.2) n (x3, σ) = some t2 → W p l e (zrm 0 0) s m args below meth c H locs 0 0 Q (F0 m 65 ls []) := by
            intro n
            induction n with
            | zero => intro x2 x3 σ H locs ls  _ _ h1; cases h1
            | succ n ih65 =>
              intro x2 x3 σ H locs ls  hZ hl h1
              obtain ⟨t3, h1, hz3⟩ := zit_1 h1
              have J159 : ∀ (x3 : Int32) (σ : zS) (H : Heap) (locs : List Loc) (ls : Array Slot), zZ 1 V A σ s H locs → lv_has ls 5 [(0, .ref (zad V k0)), (1, .int x1), (2, .int x2), (3, .int x3)] → FX8_tellFar_b159 k0 x1 x2 x3 σ = some t3 → W p l e (zrm 0 0) s m args below meth c H locs 0 0 Q (F0 m 159 ls []) := by
                intro x3 σ H locs ls  hZ hl h1
                unfold FX8_tellFar_b159 at h1
                refine z_iinc (v := 1) C0 h1 hl (fun x3_3 => [(3, .int x3_3), (0, .ref (zad V k0)), (1, .int x1), (2, .int x2)]) dX8_tellFar_159 (k := 3) rfl (by decide) (by decide) (fun _ => rfl) (fun x3_3 ls h1 hl => ?_)
                refine lv_goto (tgt := 65) hx hb dX8_tellFar_162 (by decide) ?_
                exact ih65 x2 x3_3 _ _ _ _  hZ (lv_sub hl [1, 2, 3, 0] rfl) (zback h1 hz3)
              have J96 : ∀ (n : Nat) (x3 : Int32) (x4 : Int32) (σ : zS) (H : Heap) (locs : List Loc) (ls : Array Slot), zZ 1 V A σ s H locs → lv_has ls 5 [(0, .ref (zad V k0)), (1, .int x1), (2, .int x2), (3, .int x3), (4, .int x4)] → zit (fun q => FX8_tellFar_L96 k0 x1 x2 x3 q.1 q.2) n (x4, σ) = some t3 → W p l e (zrm 0 0) s m args below meth c H locs 0 0 Q (F0 m 96 ls []) := by
                intro n
                induction n with
                | zero => intro x3 x4 σ H locs ls  _ _ h1; cases h1
                | succ n ih96 =>
                  intro x3 x4 σ H locs ls  hZ hl h1
                  obtain ⟨t4, h1, hz4⟩ := zit_1 h1
                  have J153 : ∀ (x4 : Int32) (σ : zS) (H : Heap) (locs : List Loc) (ls : Array Slot), zZ 1 V A σ s H locs → lv_has ls 5 [(0, .ref (zad V k0)), (1, .int x1), (2, .int x2), (3, .int x3), (4, .int x4)] → FX8_tellFar_b153 k0 x1 x2 x3 x4 σ = some t4 → W p l e (zrm 0 0) s m args below meth c H locs 0 0 Q (F0 m 153 ls []) := by
                    intro x4 σ H locs ls  hZ hl h1
                    unfold FX8_tellFar_b153 at h1
                    refine z_iinc (v := 1) C0 h1 hl (fun x4_4 => [(4, .int x4_4), (0, .ref (zad V k0)), (1, .int x1), (2, .int x2), (3, .int x3)]) dX8_tellFar_153 (k := 4) rfl (by decide) (by decide) (fun _ => rfl) (fun x4_4 ls h1 hl => ?_)
                    refine lv_goto (tgt := 96) hx hb dX8_tellFar_156 (by decide) ?_
                    exact ih96 x3 x4_4 _ _ _ _  hZ (lv_sub hl [1, 2, 3, 4, 0] rfl) (zback h1 hz4)
                  replace h1 : FX8_tellFar_L96 k0 x1 x2 x3 x4 σ = some t4 := h1
                  unfold FX8_tellFar_L96 at h1
                  refine lv_iload hx hb dX8_tellFar_96 (lv_at hl 4 rfl) ?_
                  refine lv_aload_n hx hb dX8_tellFar_98 rfl (lv_at hl 0 rfl) ?_
                  refine z_getr C0 hZ hk0 fRX8_40 rfl dX8_tellFar_99 ?_
                  refine lv_iconst (v := 0) hx hb dX8_tellFar_102 (by decide) ?_
                  refine z_iald C0 hZ h1 (zkt8_3 hk0) dX8_tellFar_103 (fun h1 => ?_)
                  refine z_ic_ge (tgt := 159) C0 h1 dX8_tellFar_104 (by decide) (fun h1 => ?_) (fun h1 => ?_)
                  · have h1 := zout h1 hz4
                    exact J159 x3 _ _ _ _  hZ (lv_sub hl [0, 1, 2, 3] rfl) h1
                  refine lv_aload_n hx hb dX8_tellFar_107 rfl (lv_at hl 0 rfl) ?_
                  refine z_getr C0 hZ hk0 fRX8_88 rfl dX8_tellFar_108 ?_
                  refine lv_bipush (v := 10) hx hb dX8_tellFar_111 (by decide) ?_
                  refine lv_iload_n hx hb dX8_tellFar_113 rfl (lv_at hl 1 rfl) ?_
                  refine lv_imul hx hb dX8_tellFar_114 ?_
                  refine lv_iload hx hb dX8_tellFar_115 (lv_at hl 4 rfl) ?_
                  refine lv_iadd hx hb dX8_tellFar_117 ?_
                  refine z_iald C0 hZ h1 (zkt8_28 hk0) dX8_tellFar_118 (fun h1 => ?_)
                  refine lv_iconst (v := (-1)) hx hb dX8_tellFar_119 (by decide) ?_
                  refine z_ic_ne (tgt := 153) C0 h1 dX8_tellFar_120 (by decide) (fun h1 => ?_) (fun h1 => ?_)
                  · exact J153 x4 _ _ _ _  hZ (lv_sub hl [0, 1, 2, 3, 4] rfl) h1
                  refine lv_aload_n hx hb dX8_tellFar_123 rfl (lv_at hl 0 rfl) ?_
                  refine z_getr C0 hZ hk0 fRX8_49 rfl dX8_tellFar_124 ?_
                  refine lv_iload_n hx hb dX8_tellFar_127 rfl (lv_at hl 3 rfl) ?_
                  refine z_iald C0 hZ h1 (zkt8_6 hk0) dX8_tellFar_128 (fun h1 => ?_)
                  refine lv_iload hx hb dX8_tellFar_129 (lv_at hl 4 rfl) ?_
                  refine lv_ishr hx hb dX8_tellFar_131 ?_
                  refine lv_iconst (v := 1) hx hb dX8_tellFar_132 (by decide) ?_
                  refine lv_iand hx hb dX8_tellFar_133 ?_
                  refine lv_iconst (v := 1) hx hb dX8_tellFar_134 (by decide) ?_
                  refine z_ic_ne (tgt := 153) C0 h1 dX8_tellFar_135 (by decide) (fun h1 => ?_) (fun h1 => ?_)
                  · exact J153 x4 _ _ _ _  hZ (lv_sub hl [0, 1, 2, 3, 4] rfl) h1
                  refine lv_aload_n hx hb dX8_tellFar_138 rfl (lv_at hl 0 rfl) ?_
                  refine z_getr C0 hZ hk0 fRX8_88 rfl dX8_tellFar_139 ?_
                  refine lv_bipush (v := 10) hx hb dX8_tellFar_142 (by decide) ?_
                  refine lv_iload_n hx hb dX8_tellFar_144 rfl (lv_at hl 1 rfl) ?_
                  refine lv_imul hx hb dX8_tellFar_145 ?_
                  refine lv_iload hx hb dX8_tellFar_146 (lv_at hl 4 rfl) ?_
                  refine lv_iadd hx hb dX8_tellFar_148 ?_
                  refine lv_iload_n hx hb dX8_tellFar_149 rfl (lv_at hl 2 rfl) ?_
                  refine lv_iconst (v := 1) hx hb dX8_tellFar_150 (by decide) ?_
                  refine lv_iadd hx hb dX8_tellFar_151 ?_
                  refine z_iast C0 hZ h1 (zkt8_28 hk0) dX8_tellFar_152 (fun σ_5 H locs h1 hZ => ?_)
                  exact J153 x4 _ _ _ _  hZ (lv_sub hl [0, 1, 2, 3, 4] rfl) h1
              replace h1 : FX8_tellFar_L65 k0 x1 x2 x3 σ = some t3 := h1
              unfold FX8_tellFar_L65 at h1
              refine lv_iload_n hx hb dX8_tellFar_65 rfl (lv_at hl 3 rfl) ?_
              refine lv_aload_n hx hb dX8_tellFar_66 rfl (lv_at hl 0 rfl) ?_
              refine z_getr C0 hZ hk0 fRX8_40 rfl dX8_tellFar_67 ?_
              refine lv_iconst (v := 0) hx hb dX8_tellFar_70 (by decide) ?_
              refine z_iald C0 hZ h1 (zkt8_3 hk0) dX8_tellFar_71 (fun h1 => ?_)
              refine z_ic_ge (tgt := 165) C0 h1 dX8_tellFar_72 (by decide) (fun h1 => ?_) (fun h1 => ?_)
              · have h1 := zout h1 hz3
                exact J165 x2 _ _ _ _  hZ (lv_sub hl [0, 1, 2] rfl) h1
              refine lv_aload_n hx hb dX8_tellFar_75 rfl (lv_at hl 0 rfl) ?_
              refine z_getr C0 hZ hk0 fRX8_88 rfl dX8_tellFar_76 ?_
              refine lv_bipush (v := 10) hx hb dX8_tellFar_79 (by decide) ?_
              refine lv_iload_n hx hb dX8_tellFar_81 rfl (lv_at hl 1 rfl) ?_
              refine lv_imul hx hb dX8_tellFar_82 ?_
              refine lv_iload_n hx hb dX8_tellFar_83 rfl (lv_at hl 3 rfl) ?_
              refine lv_iadd hx hb dX8_tellFar_84 ?_
              refine z_iald C0 hZ h1 (zkt8_28 hk0) dX8_tellFar_85 (fun h1 => ?_)
              refine lv_iload_n hx hb dX8_tellFar_86 rfl (lv_at hl 2 rfl) ?_
              refine z_ic_eq (tgt := 93) C0 h1 dX8_tellFar_87 (by decide) (fun h1 => ?_) (fun h1 => ?_)
              · refine lv_iconst (v := 0) hx hb dX8_tellFar_93 (by decide) ?_
                refine z_istore C0 h1 hl (fun x4_6 => [(4, .int x4_6), (0, .ref (zad V k0)), (1, .int x1), (2, .int x2), (3, .int x3)]) dX8_tellFar_94 (by decide) (fun _ => rfl) (fun x4_6 ls h1 hl => ?_)
                obtain ⟨n, h1⟩ := zlp_iff.mp h1
                exact J96 n x3 x4_6 _ _ _ _  hZ (lv_sub hl [1, 2, 3, 4, 0] rfl) h1
              refine lv_goto (tgt := 159) hx hb dX8_tellFar_90 (by decide) ?_
              exact J159 x3 _ _ _ _  hZ (lv_sub hl [0, 1, 2, 3] rfl) h1
          replace h1 : FX8_tellFar_L53 k0 x1 x2 σ = some t2 := h1
          unfold FX8_tellFar_L53 at h1
          refine lv_iload_n hx hb dX8_tellFar_53 rfl (lv_at hl 2 rfl) ?_
          refine lv_aload_n hx hb dX8_tellFar_54 rfl (lv_at hl 0 rfl) ?_
          refine z_getr C0 hZ hk0 fRX8_40 rfl dX8_tellFar_55 ?_
          refine lv_iconst (v := 0) hx hb dX8_tellFar_58 (by decide) ?_
          refine z_iald C0 hZ h1 (zkt8_3 hk0) dX8_tellFar_59 (fun h1 => ?_)
          refine z_ic_ge (tgt := 171) C0 h1 dX8_tellFar_60 (by decide) (fun h1 => ?_) (fun h1 => ?_)
          · have h1 := zout h1 hz2
            exact J171 x1 _ _ _ _  hZ (lv_sub hl [0, 1] rfl) h1
          refine lv_iconst (v := 0) hx hb dX8_tellFar_63 (by decide) ?_
          refine z_istore_n C0 h1 hl (fun x3_7 => [(3, .int x3_7), (0, .ref (zad V k0)), (1, .int x1), (2, .int x2)]) dX8_tellFar_64 rfl (by decide) (fun _ => rfl) (fun x3_7 ls h1 hl => ?_)
          obtain ⟨n, h1⟩ := zlp_iff.mp h1
          exact J65 n x2 x3_7 _ _ _ _  hZ (lv_sub hl [1, 2, 3, 0] rfl) h1
      have J51 : ∀ (x1 : Int32) (σ : zS) (H : Heap) (locs : List Loc) (ls : Array Slot), zZ 1 V A σ s H locs → lv_has ls 5 [(0, .ref (zad V k0)), (1, .int x1)] → FX8_tellFar_b51 k0 x1 σ = some t1 → W p l e (zrm 0 0) s m args below meth c H locs 0 0 Q (F0 m 51 ls []) := by
        intro x1 σ H locs ls  hZ hl h1
        unfold FX8_tellFar_b51 at h1
        refine lv_iconst (v := 0) hx hb dX8_tellFar_51 (by decide) ?_
        refine z_istore_n C0 h1 hl (fun x2_8 => [(2, .int x2_8), (0, .ref (zad V k0)), (1, .int x1)]) dX8_tellFar_52 rfl (by decide) (fun _ => rfl) (fun x2_8 ls h1 hl => ?_)
        obtain ⟨n, h1⟩ := zlp_iff.mp h1
        exact J53 n x1 x2_8 _ _ _ _  hZ (lv_sub hl [1, 2, 0] rfl) h1
      have J14 : ∀ (n : Nat) (x1 : Int32) (x2 : Int32) (σ : zS) (H : Heap) (locs : List Loc) (ls : Array Slot), zZ 1 V A σ s H locs → lv_has ls 5 [(0, .ref (zad V k0)), (1, .int x1), (2, .int x2)] → zit (fun q => FX8_tellFar_L14 k0 x1 q.1 q.2) n (x2, σ) = some t1 → W p l e (zrm 0 0) s m args below meth c H locs 0 0 Q (F0 m 14 ls []) := by
        intro n
        induction n with
        | zero => intro x1 x2 σ H locs ls  _ _ h1; cases h1
        | succ n ih14 =>
          intro x1 x2 σ H locs ls  hZ hl h1
          obtain ⟨t2, h1, hz2⟩ := zit_1 h1
          have J44 : ∀ (x2 : Int32) (q0 : Nat) (y1 : Int32) (y2 : Int32) (σ : zS) (H : Heap) (locs : List Loc) (ls : Array Slot), kd 1 q0 = 100 → zZ 1 V A σ s H locs → lv_has ls 5 [(0, .ref (zad V k0)), (1, .int x1), (2, .int x2)] → FX8_tellFar_b44 k0 x1 x2 q0 y1 y2 σ = some t2 → W p l e (zrm 0 0) s m args below meth c H locs 0 0 Q (F0 m 44 ls [.int y2, .int y1, .ref (zad V q0)]) := by
            intro x2 q0 y1 y2 σ H locs ls hq0 hZ hl h1
            unfold FX8_tellFar_b44 at h1
            refine z_iast C0 hZ h1 hq0 dX8_tellFar_44 (fun σ_9 H locs h1 hZ => ?_)
            refine z_iinc (v := 1) C0 h1 hl (fun x2_10 => [(2, .int x2_10), (0, .ref (zad V k0)), (1, .int x1)]) dX8_tellFar_45 (k := 2) rfl (by decide) (by decide) (fun _ => rfl) (fun x2_10 ls h1 hl => ?_)
            refine lv_goto (tgt := 14) hx hb dX8_tellFar_48 (by decide) ?_
            exact ih14 x1 x2_10 _ _ _ _  hZ (lv_sub hl [1, 2, 0] rfl) (zback h1 hz2)
          replace h1 : FX8_tellFar_L14 k0 x1 x2 σ = some t2 := h1
          unfold FX8_tellFar_L14 at h1
          refine lv_iload_n hx hb dX8_tellFar_14 rfl (lv_at hl 2 rfl) ?_
          refine lv_aload_n hx hb dX8_tellFar_15 rfl (lv_at hl 0 rfl) ?_
          refine z_getr C0 hZ hk0 fRX8_40 rfl dX8_tellFar_16 ?_
          refine lv_iconst (v := 0) hx hb dX8_tellFar_19 (by decide) ?_
          refine z_iald C0 hZ h1 (zkt8_3 hk0) dX8_tellFar_20 (fun h1 => ?_)
          refine z_ic_ge (tgt := 51) C0 h1 dX8_tellFar_21 (by decide) (fun h1 => ?_) (fun h1 => ?_)
          · have h1 := zout h1 hz2
            exact J51 x1 _ _ _ _  hZ (lv_sub hl [0, 1] rfl) h1
          refine lv_aload_n hx hb dX8_tellFar_24 rfl (lv_at hl 0 rfl) ?_
          refine z_getr C0 hZ hk0 fRX8_88 rfl dX8_tellFar_25 ?_
          refine lv_bipush (v := 10) hx hb dX8_tellFar_28 (by decide) ?_
          refine lv_iload_n hx hb dX8_tellFar_30 rfl (lv_at hl 1 rfl) ?_
          refine lv_imul hx hb dX8_tellFar_31 ?_
          refine lv_iload_n hx hb dX8_tellFar_32 rfl (lv_at hl 2 rfl) ?_
          refine lv_iadd hx hb dX8_tellFar_33 ?_
          refine lv_iload_n hx hb dX8_tellFar_34 rfl (lv_at hl 1 rfl) ?_
          refine lv_iload_n hx hb dX8_tellFar_35 rfl (lv_at hl 2 rfl) ?_
          refine z_ic_ne (tgt := 43) C0 h1 dX8_tellFar_36 (by decide) (fun h1 => ?_) (fun h1 => ?_)
          · refine lv_iconst (v := (-1)) hx hb dX8_tellFar_43 (by decide) ?_
            exact J44 x2 (k0 + 18) ((10 * x1) + x2) (-1) _ _ _ _ (zkt8_28 hk0) hZ (lv_sub hl [0, 1, 2] rfl) h1
          refine lv_iconst (v := 0) hx hb dX8_tellFar_39 (by decide) ?_
          refine lv_goto (tgt := 44) hx hb dX8_tellFar_40 (by decide) ?_
          exact J44 x2 (k0 + 18) ((10 * x1) + x2) 0 _ _ _ _ (zkt8_28 hk0) hZ (lv_sub hl [0, 1, 2] rfl) h1
      replace h1 : FX8_tellFar_L2 k0 x1 σ = some t1 := h1
      unfold FX8_tellFar_L2 at h1
      refine lv_iload_n hx hb dX8_tellFar_2 rfl (lv_at hl 1 rfl) ?_
      refine lv_aload_n hx hb dX8_tellFar_3 rfl (lv_at hl 0 rfl) ?_
      refine z_getr C0 hZ hk0 fRX8_40 rfl dX8_tellFar_4 ?_
      refine lv_iconst (v := 0) hx hb dX8_tellFar_7 (by decide) ?_
      refine z_iald C0 hZ h1 (zkt8_3 hk0) dX8_tellFar_8 (fun h1 => ?_)
      refine z_ic_ge (tgt := 177) C0 h1 dX8_tellFar_9 (by decide) (fun h1 => ?_) (fun h1 => ?_)
      · have h1 := zout h1 hz1
        exact J177  _ _ _ _  hZ (lv_sub hl [] rfl) h1
      refine lv_iconst (v := 0) hx hb dX8_tellFar_12 (by decide) ?_
      refine z_istore_n C0 h1 hl (fun x2_11 => [(2, .int x2_11), (0, .ref (zad V k0)), (1, .int x1)]) dX8_tellFar_13 rfl (by decide) (fun _ => rfl) (fun x2_11 ls h1 hl => ?_)
      obtain ⟨n, h1⟩ := zlp_iff.mp h1
      exact J14 n x1 x2_11 _ _ _ _  hZ (lv_sub hl [1, 2, 0] rfl) h1
  refine lv_iconst (v := 0) hx hb dX8_tellFar_0 (by decide) ?_
  refine z_istore_n C0 h1 hl (fun x1_12 => [(1, .int x1_12), (0, .ref (zad V k0))]) dX8_tellFar_1 rfl (by decide) (fun _ => rfl) (fun x1_12 ls h1 hl => ?_)
  obtain ⟨n, h1⟩ := zlp_iff.mp h1
  exact J2 n x1_12 _ _ _ _  hZ (lv_sub hl [1, 0] rfl) h1
noncomputable def FX8_takeOver_b106 (k0 : Nat) (q0 : Nat) (y1 : Int32) (σ : zS) : Option (Int32 × zS) := zlet (zup σ q0 29 y1) (fun σ_1 => zlet (zup σ_1 k0 30 0) (fun σ_2 => zlet (zup σ_2 k0 31 0) (fun σ_3 => zin (ln 1 (k0 + 3)) 7 (zlet (zup σ_3 k0 32 (σ_3 (k0 + 3) (Int32.toNatClampNeg 7))) (fun σ_4 => zin (ln 1 (k0 + 3)) 2 (zlet (zup σ_4 k0 33 (σ_4 (k0 + 3) (Int32.toNatClampNeg 2))) (fun σ_5 => zlet (zup σ_5 k0 34 0) (fun σ_6 => zlet (zup σ_6 k0 35 0) (fun σ_7 => zlet (zup σ_7 k0 36 0) (fun σ_8 => zlet (zup σ_8 k0 37 0) (fun σ_9 => zlet (zup σ_9 k0 65 0) (fun σ_10 => zlet (zup σ_10 k0 72 0) (fun σ_11 => zbd (FX8_tellFar k0 σ_11) (fun _ σ_12 => some (0, σ_12)))))))))))))))
noncomputable def FX8_takeOver (k0 : Nat) (σ : zS) : Option (Int32 × zS) := zbd (FX8_takeHalf (k0 + 3) σ) (fun _ σ_14 => zbd (FX8_takeHalf (k0 + 4) σ_14) (fun _ σ_16 => zbd (FX8_takeHalf (k0 + 5) σ_16) (fun _ σ_18 => zbd (FX8_takeHalf (k0 + 6) σ_18) (fun _ σ_20 => zbd (FX8_takeHalf (k0 + 7) σ_20) (fun _ σ_22 => zbd (FX8_takeHalf (k0 + 8) σ_22) (fun _ σ_24 => zbd (FX8_takeHalf (k0 + 9) σ_24) (fun _ σ_26 => zbd (FX8_takeHalf (k0 + 10) σ_26) (fun _ σ_28 => zbd (FX8_takeHalf (k0 + 11) σ_28) (fun _ σ_30 => zbd (FX8_takeHalf (k0 + 12) σ_30) (fun _ σ_32 => zbd (FX8_takeHalf (k0 + 13) σ_32) (fun _ σ_34 => zbd (FX8_takeHalf (k0 + 14) σ_34) (fun _ σ_36 => zbd (FX8_takeHalf (k0 + 15) σ_36) (fun _ σ_38 => zin (ln 1 (k0 + 3)) 4 (if (σ_38 (k0 + 3) (Int32.toNatClampNeg 4)) ≤ 0 then FX8_takeOver_b106 k0 k0 0 σ_38 else FX8_takeOver_b106 k0 k0 1 σ_38))))))))))))))
set_option maxHeartbeats 4000000 in
set_option maxRecDepth 100000 in
theorem kX8_takeOver (l : Launch) {V : zV} {σ : zS} {t0 : Int32 × zS} {k0 : Nat} (hk0 : kd 1 k0 = 8) (h1 : FX8_takeOver k0 σ = some t0) : zMv l yX8_takeOver cX8_takeOver 1 1 24 1 V σ t0 [.ref (zad V k0)] := by
  refine zMv_of (by decide) (Nat.le_of_ble_eq_true rfl) ?_
  intro p e s m below meth c A C0 hr hlk hZ ls hl
  generalize ([.ref (zad V k0)] : List Value).toArray = args at C0 ⊢
  obtain ⟨Q, hQ⟩ : ∃ Q, Q = MQ below (zQv 1 V t0 A) args s 0 0 A := ⟨_, rfl⟩
  rw [← hQ]
  have hx := C0.1
  have hb := C0.2.1
  have hl : lv_has ls 1 [(0, .ref (zad V k0))] := hl
  unfold FX8_takeOver at h1
  have J106 : ∀ (q0 : Nat) (y1 : Int32) (σ : zS) (H : Heap) (locs : List Loc) (ls : Array Slot), kd 1 q0 = 8 → zZ 1 V A σ s H locs → lv_has ls 1 [(0, .ref (zad V k0))] → FX8_takeOver_b106 k0 q0 y1 σ = some t0 → W p l e (zrm 1 24) s m args below meth c H locs 0 0 Q (F0 m 106 ls [.int y1, .ref (zad V q0)]) := by
    intro q0 y1 σ H locs ls hq0 hZ hl h1
    unfold FX8_takeOver_b106 at h1
    refine z_puti C0 hZ h1 hq0 fRX8_323 rfl tyX8_ok nmX8 rfl rfl rfl dX8_takeOver_106 (fun σ_1 H locs h1 hZ => ?_)
    refine lv_aload_n hx hb dX8_takeOver_109 rfl (lv_at hl 0 rfl) ?_
    refine lv_iconst (v := 0) hx hb dX8_takeOver_110 (by decide) ?_
    refine z_puti C0 hZ h1 hk0 fRX8_326 rfl tyX8_ok nmX8 rfl rfl rfl dX8_takeOver_111 (fun σ_2 H locs h1 hZ => ?_)
    refine lv_aload_n hx hb dX8_takeOver_114 rfl (lv_at hl 0 rfl) ?_
    refine lv_iconst (v := 0) hx hb dX8_takeOver_115 (by decide) ?_
    refine z_puti C0 hZ h1 hk0 fRX8_329 rfl tyX8_ok nmX8 rfl rfl rfl dX8_takeOver_116 (fun σ_3 H locs h1 hZ => ?_)
    refine lv_aload_n hx hb dX8_takeOver_119 rfl (lv_at hl 0 rfl) ?_
    refine lv_aload_n hx hb dX8_takeOver_120 rfl (lv_at hl 0 rfl) ?_
    refine z_getr C0 hZ hk0 fRX8_40 rfl dX8_takeOver_121 ?_
    refine lv_bipush (v := 7) hx hb dX8_takeOver_124 (by decide) ?_
    refine z_iald C0 hZ h1 (zkt8_3 hk0) dX8_takeOver_126 (fun h1 => ?_)
    refine z_puti C0 hZ h1 hk0 fRX8_90 rfl tyX8_ok nmX8 rfl rfl rfl dX8_takeOver_127 (fun σ_4 H locs h1 hZ => ?_)
    refine lv_aload_n hx hb dX8_takeOver_130 rfl (lv_at hl 0 rfl) ?_
    refine lv_aload_n hx hb dX8_takeOver_131 rfl (lv_at hl 0 rfl) ?_
    refine z_getr C0 hZ hk0 fRX8_40 rfl dX8_takeOver_132 ?_
    refine lv_iconst (v := 2) hx hb dX8_takeOver_135 (by decide) ?_
    refine z_iald C0 hZ h1 (zkt8_3 hk0) dX8_takeOver_136 (fun h1 => ?_)
    refine z_puti C0 hZ h1 hk0 fRX8_332 rfl tyX8_ok nmX8 rfl rfl rfl dX8_takeOver_137 (fun σ_5 H locs h1 hZ => ?_)
    refine lv_aload_n hx hb dX8_takeOver_140 rfl (lv_at hl 0 rfl) ?_
    refine lv_iconst (v := 0) hx hb dX8_takeOver_141 (by decide) ?_
    refine z_puti C0 hZ h1 hk0 fRX8_335 rfl tyX8_ok nmX8 rfl rfl rfl dX8_takeOver_142 (fun σ_6 H locs h1 hZ => ?_)
    refine lv_aload_n hx hb dX8_takeOver_145 rfl (lv_at hl 0 rfl) ?_
    refine lv_iconst (v := 0) hx hb dX8_takeOver_146 (by decide) ?_
    refine z_puti C0 hZ h1 hk0 fRX8_338 rfl tyX8_ok nmX8 rfl rfl rfl dX8_takeOver_147 (fun σ_7 H locs h1 hZ => ?_)
    refine lv_aload_n hx hb dX8_takeOver_150 rfl (lv_at hl 0 rfl) ?_
    refine lv_iconst (v := 0) hx hb dX8_takeOver_151 (by decide) ?_
    refine z_puti C0 hZ h1 hk0 fRX8_341 rfl tyX8_ok nmX8 rfl rfl rfl dX8_takeOver_152 (fun σ_8 H locs h1 hZ => ?_)
    refine lv_aload_n hx hb dX8_takeOver_155 rfl (lv_at hl 0 rfl) ?_
    refine lv_iconst (v := 0) hx hb dX8_takeOver_156 (by decide) ?_
    refine z_puti C0 hZ h1 hk0 fRX8_344 rfl tyX8_ok nmX8 rfl rfl rfl dX8_takeOver_157 (fun σ_9 H locs h1 hZ => ?_)
    refine lv_aload_n hx hb dX8_takeOver_160 rfl (lv_at hl 0 rfl) ?_
    refine lv_iconst (v := 0) hx hb dX8_takeOver_161 (by decide) ?_
    refine z_puti C0 hZ h1 hk0 fRX8_347 rfl tyX8_ok nmX8 rfl rfl rfl dX8_takeOver_162 (fun σ_10 H locs h1 hZ => ?_)
    refine lv_aload_n hx hb dX8_takeOver_165 rfl (lv_at hl 0 rfl) ?_
    refine lv_iconst (v := 0) hx hb dX8_takeOver_166 (by decide) ?_
    refine z_puti C0 hZ h1 hk0 fRX8_351 rfl tyX8_ok nmX8 rfl rfl rfl dX8_takeOver_167 (fun σ_11 H locs h1 hZ => ?_)
    refine lv_aload_n hx hb dX8_takeOver_170 rfl (lv_at hl 0 rfl) ?_
    refine z_cVv (As := []) (rest := []) C0 hZ h1 (fun _ hf => kX8_tellFar l hk0 hf) mRX8_354 vX8_tellFar hk0 rfl rfl hl.1 (Nat.le_of_ble_eq_true rfl) ⟨Nat.le_of_ble_eq_true rfl, Nat.le_of_ble_eq_true rfl⟩ dX8_takeOver_171 ⟨Nat.le_of_ble_eq_true rfl, Nat.le_of_ble_eq_true rfl⟩ (fun _ σ_12 H locs h1 hZ => ?_)
    rw [hQ]; exact z_vret C0 hr hlk hZ h1 dX8_takeOver_174
  refine lv_aload_n hx hb dX8_takeOver_0 rfl (lv_at hl 0 rfl) ?_
  refine z_getr C0 hZ hk0 fRX8_40 rfl dX8_takeOver_1 ?_
  refine z_cSv (As := [.ref (zad V (k0 + 3))]) (rest := []) C0 hZ h1 (fun _ hf => kX8_takeHalf l (zkt8_3 hk0) hf) mRX8_319 sX8_takeHalf rfl rfl hl.1 (Nat.le_of_ble_eq_true rfl) ⟨Nat.le_of_ble_eq_true rfl, Nat.le_of_ble_eq_true rfl⟩ dX8_takeOver_4 ⟨Nat.le_of_ble_eq_true rfl, Nat.le_of_ble_eq_true rfl⟩ (fun _ σ_14 H locs h1 hZ => ?_)
  refine lv_aload_n hx hb dX8_takeOver_7 rfl (lv_at hl 0 rfl) ?_
  refine z_getr C0 hZ hk0 fRX8_44 rfl dX8_takeOver_8 ?_
  refine z_cSv (As := [.ref (zad V (k0 + 4))]) (rest := []) C0 hZ h1 (fun _ hf => kX8_takeHalf l (zkt8_4 hk0) hf) mRX8_319 sX8_takeHalf rfl rfl hl.1 (Nat.le_of_ble_eq_true rfl) ⟨Nat.le_of_ble_eq_true rfl, Nat.le_of_ble_eq_true rfl⟩ dX8_takeOver_11 ⟨Nat.le_of_ble_eq_true rfl, Nat.le_of_ble_eq_true rfl⟩ (fun _ σ_16 H locs h1 hZ => ?_)
  refine lv_aload_n hx hb dX8_takeOver_14 rfl (lv_at hl 0 rfl) ?_
  refine z_getr C0 hZ hk0 fRX8_46 rfl dX8_takeOver_15 ?_
  refine z_cSv (As := [.ref (zad V (k0 + 5))]) (rest := []) C0 hZ h1 (fun _ hf => kX8_takeHalf l (zkt8_5 hk0) hf) mRX8_319 sX8_takeHalf rfl rfl hl.1 (Nat.le_of_ble_eq_true rfl) ⟨Nat.le_of_ble_eq_true rfl, Nat.le_of_ble_eq_true rfl⟩ dX8_takeOver_18 ⟨Nat.le_of_ble_eq_true rfl, Nat.le_of_ble_eq_true rfl⟩ (fun _ σ_18 H locs h1 hZ => ?_)
  refine lv_aload_n hx hb dX8_takeOver_21 rfl (lv_at hl 0 rfl) ?_
  refine z_getr C0 hZ hk0 fRX8_49 rfl dX8_takeOver_22 ?_
  refine z_cSv (As := [.ref (zad V (k0 + 6))]) (rest := []) C0 hZ h1 (fun _ hf => kX8_takeHalf l (zkt8_6 hk0) hf) mRX8_319 sX8_takeHalf rfl rfl hl.1 (Nat.le_of_ble_eq_true rfl) ⟨Nat.le_of_ble_eq_true rfl, Nat.le_of_ble_eq_true rfl⟩ dX8_takeOver_25 ⟨Nat.le_of_ble_eq_true rfl, Nat.le_of_ble_eq_true rfl⟩ (fun _ σ_20 H locs h1 hZ => ?_)
  refine lv_aload_n hx hb dX8_takeOver_28 rfl (lv_at hl 0 rfl) ?_
  refine z_getr C0 hZ hk0 fRX8_52 rfl dX8_takeOver_29 ?_
  refine z_cSv (As := [.ref (zad V (k0 + 7))]) (rest := []) C0 hZ h1 (fun _ hf => kX8_takeHalf l (zkt8_7 hk0) hf) mRX8_319 sX8_takeHalf rfl rfl hl.1 (Nat.le_of_ble_eq_true rfl) ⟨Nat.le_of_ble_eq_true rfl, Nat.le_of_ble_eq_true rfl⟩ dX8_takeOver_32 ⟨Nat.le_of_ble_eq_true rfl, Nat.le_of_ble_eq_true rfl⟩ (fun _ σ_22 H locs h1 hZ => ?_)
  refine lv_aload_n hx hb dX8_takeOver_35 rfl (lv_at hl 0 rfl) ?_
  refine z_getr C0 hZ hk0 fRX8_55 rfl dX8_takeOver_36 ?_
  refine z_cSv (As := [.ref (zad V (k0 + 8))]) (rest := []) C0 hZ h1 (fun _ hf => kX8_takeHalf l (zkt8_8 hk0) hf) mRX8_319 sX8_takeHalf rfl rfl hl.1 (Nat.le_of_ble_eq_true rfl) ⟨Nat.le_of_ble_eq_true rfl, Nat.le_of_ble_eq_true rfl⟩ dX8_takeOver_39 ⟨Nat.le_of_ble_eq_true rfl, Nat.le_of_ble_eq_true rfl⟩ (fun _ σ_24 H locs h1 hZ => ?_)
  refine lv_aload_n hx hb dX8_takeOver_42 rfl (lv_at hl 0 rfl) ?_
  refine z_getr C0 hZ hk0 fRX8_58 rfl dX8_takeOver_43 ?_
  refine z_cSv (As := [.ref (zad V (k0 + 9))]) (rest := []) C0 hZ h1 (fun _ hf => kX8_takeHalf l (zkt8_9 hk0) hf) mRX8_319 sX8_takeHalf rfl rfl hl.1 (Nat.le_of_ble_eq_true rfl) ⟨Nat.le_of_ble_eq_true rfl, Nat.le_of_ble_eq_true rfl⟩ dX8_takeOver_46 ⟨Nat.le_of_ble_eq_true rfl, Nat.le_of_ble_eq_true rfl⟩ (fun _ σ_26 H locs h1 hZ => ?_)
  refine lv_aload_n hx hb dX8_takeOver_49 rfl (lv_at hl 0 rfl) ?_
  refine z_getr C0 hZ hk0 fRX8_61 rfl dX8_takeOver_50 ?_
  refine z_cSv (As := [.ref (zad V (k0 + 10))]) (rest := []) C0 hZ h1 (fun _ hf => kX8_takeHalf l (zkt8_10 hk0) hf) mRX8_319 sX8_takeHalf rfl rfl hl.1 (Nat.le_of_ble_eq_true rfl) ⟨Nat.le_of_ble_eq_true rfl, Nat.le_of_ble_eq_true rfl⟩ dX8_takeOver_53 ⟨Nat.le_of_ble_eq_true rfl, Nat.le_of_ble_eq_true rfl⟩ (fun _ σ_28 H locs h1 hZ => ?_)
  refine lv_aload_n hx hb dX8_takeOver_56 rfl (lv_at hl 0 rfl) ?_
  refine z_getr C0 hZ hk0 fRX8_64 rfl dX8_takeOver_57 ?_
  refine z_cSv (As := [.ref (zad V (k0 + 11))]) (rest := []) C0 hZ h1 (fun _ hf => kX8_takeHalf l (zkt8_11 hk0) hf) mRX8_319 sX8_takeHalf rfl rfl hl.1 (Nat.le_of_ble_eq_true rfl) ⟨Nat.le_of_ble_eq_true rfl, Nat.le_of_ble_eq_true rfl⟩ dX8_takeOver_60 ⟨Nat.le_of_ble_eq_true rfl, Nat.le_of_ble_eq_true rfl⟩ (fun _ σ_30 H locs h1 hZ => ?_)
  refine lv_aload_n hx hb dX8_takeOver_63 rfl (lv_at hl 0 rfl) ?_
  refine z_getr C0 hZ hk0 fRX8_66 rfl dX8_takeOver_64 ?_
  refine z_cSv (As := [.ref (zad V (k0 + 12))]) (rest := []) C0 hZ h1 (fun _ hf => kX8_takeHalf l (zkt8_12 hk0) hf) mRX8_319 sX8_takeHalf rfl rfl hl.1 (Nat.le_of_ble_eq_true rfl) ⟨Nat.le_of_ble_eq_true rfl, Nat.le_of_ble_eq_true rfl⟩ dX8_takeOver_67 ⟨Nat.le_of_ble_eq_true rfl, Nat.le_of_ble_eq_true rfl⟩ (fun _ σ_32 H locs h1 hZ => ?_)
  refine lv_aload_n hx hb dX8_takeOver_70 rfl (lv_at hl 0 rfl) ?_
  refine z_getr C0 hZ hk0 fRX8_69 rfl dX8_takeOver_71 ?_
  refine z_cSv (As := [.ref (zad V (k0 + 13))]) (rest := []) C0 hZ h1 (fun _ hf => kX8_takeHalf l (zkt8_13 hk0) hf) mRX8_319 sX8_takeHalf rfl rfl hl.1 (Nat.le_of_ble_eq_true rfl) ⟨Nat.le_of_ble_eq_true rfl, Nat.le_of_ble_eq_true rfl⟩ dX8_takeOver_74 ⟨Nat.le_of_ble_eq_true rfl, Nat.le_of_ble_eq_true rfl⟩ (fun _ σ_34 H locs h1 hZ => ?_)
  refine lv_aload_n hx hb dX8_takeOver_77 rfl (lv_at hl 0 rfl) ?_
  refine z_getr C0 hZ hk0 fRX8_72 rfl dX8_takeOver_78 ?_
  refine z_cSv (As := [.ref (zad V (k0 + 14))]) (rest := []) C0 hZ h1 (fun _ hf => kX8_takeHalf l (zkt8_14 hk0) hf) mRX8_319 sX8_takeHalf rfl rfl hl.1 (Nat.le_of_ble_eq_true rfl) ⟨Nat.le_of_ble_eq_true rfl, Nat.le_of_ble_eq_true rfl⟩ dX8_takeOver_81 ⟨Nat.le_of_ble_eq_true rfl, Nat.le_of_ble_eq_true rfl⟩ (fun _ σ_36 H locs h1 hZ => ?_)
  refine lv_aload_n hx hb dX8_takeOver_84 rfl (lv_at hl 0 rfl) ?_
  refine z_getr C0 hZ hk0 fRX8_75 rfl dX8_takeOver_85 ?_
  refine z_cSv (As := [.ref (zad V (k0 + 15))]) (rest := []) C0 hZ h1 (fun _ hf => kX8_takeHalf l (zkt8_15 hk0) hf) mRX8_319 sX8_takeHalf rfl rfl hl.1 (Nat.le_of_ble_eq_true rfl) ⟨Nat.le_of_ble_eq_true rfl, Nat.le_of_ble_eq_true rfl⟩ dX8_takeOver_88 ⟨Nat.le_of_ble_eq_true rfl, Nat.le_of_ble_eq_true rfl⟩ (fun _ σ_38 H locs h1 hZ => ?_)
  refine lv_aload_n hx hb dX8_takeOver_91 rfl (lv_at hl 0 rfl) ?_
  refine lv_aload_n hx hb dX8_takeOver_92 rfl (lv_at hl 0 rfl) ?_
  refine z_getr C0 hZ hk0 fRX8_40 rfl dX8_takeOver_93 ?_
  refine lv_iconst (v := 4) hx hb dX8_takeOver_96 (by decide) ?_
  refine z_iald C0 hZ h1 (zkt8_3 hk0) dX8_takeOver_97 (fun h1 => ?_)
  refine z_if_le (tgt := 105) C0 h1 dX8_takeOver_98 (by decide) (fun h1 => ?_) (fun h1 => ?_)
  · refine lv_iconst (v := 0) hx hb dX8_takeOver_105 (by decide) ?_
    exact J106 k0 0 _ _ _ _ hk0 hZ (lv_sub hl [0] rfl) h1
  refine lv_iconst (v := 1) hx hb dX8_takeOver_101 (by decide) ?_
  refine lv_goto (tgt := 106) hx hb dX8_takeOver_102 (by decide) ?_
  exact J106 k0 1 _ _ _ _ hk0 hZ (lv_sub hl [0] rfl) h1
