noncomputable def FX3_readToken_b200 (k0 : Nat) (x1 : Int32) (σ : zS) : Option (Int32 × zS) := zlet (zup σ k0 5 x1) (fun σ_1 => some (0, σ_1))
noncomputable def FX3_readToken_b178 (k0 : Nat) (x1 : Int32) (q0 : Nat) (y1 : Int32) (σ : zS) : Option ((Int32 × zS) ⊕ (Int32 × zS)) := zlet (zup σ q0 6 y1) (fun σ_2 => zlet (x1 + 1) (fun x1_3 => some (.inl (x1_3, σ_2))))
noncomputable def FX3_readToken_L120 (k0 : Nat) (x1 : Int32) (σ : zS) : Option ((Int32 × zS) ⊕ (Int32 × zS)) := if (σ k0 2) ≤ x1 then zinr (FX3_readToken_b200 k0 x1 σ) else zbd (FX7_at (k0 + 1) x1 σ) (fun r_5 σ_4 => zbd (FX3_isDigit r_5 σ_4) (fun r_7 σ_6 => if r_7 = 0 then zinr (FX3_readToken_b200 k0 x1 σ_6) else if 4 ≤ (x1 - (σ_6 k0 4)) then FX3_readToken_b178 k0 x1 k0 10000 σ_6 else zbd (FX7_at (k0 + 1) x1 σ_6) (fun r_9 σ_8 => FX3_readToken_b178 k0 x1 k0 ((((σ_6 k0 6) * 10) + r_9) - 48) σ_8)))
noncomputable def FX3_readToken_L80 (k0 : Nat) (x1 : Int32) (σ : zS) : Option ((Int32 × zS) ⊕ (Int32 × zS)) := if (σ k0 2) ≤ x1 then zinr (FX3_readToken_b200 k0 x1 σ) else zbd (FX7_at (k0 + 1) x1 σ) (fun r_11 σ_10 => zbd (FX3_isLetter r_11 σ_10) (fun r_13 σ_12 => if r_13 = 0 then zinr (FX3_readToken_b200 k0 x1 σ_12) else zlet (x1 + 1) (fun x1_14 => some (.inl (x1_14, σ_12)))))
noncomputable def FX3_readToken_b33 (k0 : Nat) (x1 : Int32) (σ : zS) : Option (Int32 × zS) := zlet (zup σ k0 4 x1) (fun σ_15 => zlet (zup σ_15 k0 6 0) (fun σ_16 => zbd (FX7_at (k0 + 1) x1 σ_16) (fun r_18 σ_17 => zlet r_18 (fun x2_19 => if x1 < (σ_17 k0 2) then zbd (FX3_isLetter x2_19 σ_17) (fun r_21 σ_20 => if r_21 = 0 then zbd (FX3_isDigit x2_19 σ_20) (fun r_23 σ_22 => if r_23 = 0 then zlet (zup σ_22 k0 3 3) (fun σ_24 => zlet (zup σ_24 k0 6 x2_19) (fun σ_25 => zlet (x1 + 1) (fun x1_26 => FX3_readToken_b200 k0 x1_26 σ_25))) else zlet (zup σ_22 k0 3 2) (fun σ_27 => zlp (fun q => FX3_readToken_L120 k0 q.1 q.2) (x1, σ_27))) else zlet (zup σ_20 k0 3 1) (fun σ_28 => zlp (fun q => FX3_readToken_L80 k0 q.1 q.2) (x1, σ_28))) else zlet (zup σ_17 k0 3 0) (fun σ_29 => FX3_readToken_b200 k0 x1 σ_29)))))
noncomputable def FX3_readToken_L5 (k0 : Nat) (x1 : Int32) (σ : zS) : Option ((Int32 × zS) ⊕ (Int32 × zS)) := if (σ k0 2) ≤ x1 then zinr (FX3_readToken_b33 k0 x1 σ) else zbd (FX7_at (k0 + 1) x1 σ) (fun r_31 σ_30 => zbd (FX3_isBlank r_31 σ_30) (fun r_33 σ_32 => if r_33 = 0 then zinr (FX3_readToken_b33 k0 x1 σ_32) else zlet (x1 + 1) (fun x1_34 => some (.inl (x1_34, σ_32)))))
noncomputable def FX3_readToken (k0 : Nat) (σ : zS) : Option (Int32 × zS) := zlet (σ k0 5) (fun x1_35 => zlp (fun q => FX3_readToken_L5 k0 q.1 q.2) (x1_35, σ))
set_option maxHeartbeats 4000000 in
set_option maxRecDepth 100000 in
theorem kX3_readToken (l : Launch) {V : zV} {σ : zS} {t0 : Int32 × zS} {k0 : Nat} (hk0 : kd 0 k0 = 3) (h1 : FX3_readToken k0 σ = some t0) : zMv l yX3_readToken cX3_readToken 3 1 21 0 V σ t0 [.ref (zad V k0)] := by
  refine zMv_of (by decide) (Nat.le_of_ble_eq_true rfl) ?_
  intro p e s m below meth c A C0 hr hlk hZ ls hl
  generalize ([.ref (zad V k0)] : List Value).toArray = args at C0 ⊢
  obtain ⟨Q, hQ⟩ : ∃ Q, Q = MQ below (zQv 0 V t0 A) args s 0 0 A := ⟨_, rfl⟩
  rw [← hQ]
  have hx := C0.1
  have hb := C0.2.1
  have hl : lv_has ls 3 [(0, .ref (zad V k0))] := hl
  unfold FX3_readToken at h1
  have J200 : ∀ (x1 : Int32) (σ : zS) (H : Heap) (locs : List Loc) (ls : Array Slot), zZ 0 V A σ s H locs → lv_has ls 3 [(0, .ref (zad V k0)), (1, .int x1)] → FX3_readToken_b200 k0 x1 σ = some t0 → W p l e (zrm 1 21) s m args below meth c H locs 0 0 Q (F0 m 200 ls []) := by
    intro x1 σ H locs ls  hZ hl h1
    unfold FX3_readToken_b200 at h1
    refine lv_aload_n hx hb dX3_readToken_200 rfl (lv_at hl 0 rfl) ?_
    refine lv_iload_n hx hb dX3_readToken_201 rfl (lv_at hl 1 rfl) ?_
    refine z_puti C0 hZ h1 hk0 fRX3_32 rfl tyX3_ok nmX3 rfl rfl rfl dX3_readToken_202 (fun σ_1 H locs h1 hZ => ?_)
    rw [hQ]; exact z_vret C0 hr hlk hZ h1 dX3_readToken_205
  have J120 : ∀ (n : Nat) (x1 : Int32) (σ : zS) (H : Heap) (locs : List Loc) (ls : Array Slot), zZ 0 V A σ s H locs → lv_has ls 3 [(0, .ref (zad V k0)), (1, .int x1)] → zit (fun q => FX3_readToken_L120 k0 q.1 q.2) n (x1, σ) = some t0 → W p l e (zrm 1 21) s m args below meth c H locs 0 0 Q (F0 m 120 ls []) := by
    intro n
    induction n with
    | zero => intro x1 σ H locs ls  _ _ h1; cases h1
    | succ n ih120 =>
      intro x1 σ H locs ls  hZ hl h1
      obtain ⟨t1, h1, hz1⟩ := zit_1 h1
      have J178 : ∀ (x1 : Int32) (q0 : Nat) (y1 : Int32) (σ : zS) (H : Heap) (locs : List Loc) (ls : Array Slot), kd 0 q0 = 3 → zZ 0 V A σ s H locs → lv_has ls 3 [(0, .ref (zad V k0)), (1, .int x1)] → FX3_readToken_b178 k0 x1 q0 y1 σ = some t1 → W p l e (zrm 1 21) s m args below meth c H locs 0 0 Q (F0 m 178 ls [.int y1, .ref (zad V q0)]) := by
        intro x1 q0 y1 σ H locs ls hq0 hZ hl h1
        unfold FX3_readToken_b178 at h1
        refine z_puti C0 hZ h1 hq0 fRX3_35 rfl tyX3_ok nmX3 rfl rfl rfl dX3_readToken_178 (fun σ_2 H locs h1 hZ => ?_)
        refine z_iinc (v := 1) C0 h1 hl (fun x1_3 => [(1, .int x1_3), (0, .ref (zad V k0))]) dX3_readToken_181 (k := 1) rfl (by decide) (by decide) (fun _ => rfl) (fun x1_3 ls h1 hl => ?_)
        refine lv_goto (tgt := 120) hx hb dX3_readToken_184 (by decide) ?_
        exact ih120 x1_3 _ _ _ _  hZ (lv_sub hl [1, 0] rfl) (zback h1 hz1)
      replace h1 : FX3_readToken_L120 k0 x1 σ = some t1 := h1
      unfold FX3_readToken_L120 at h1
      refine lv_iload_n hx hb dX3_readToken_120 rfl (lv_at hl 1 rfl) ?_
      refine lv_aload_n hx hb dX3_readToken_121 rfl (lv_at hl 0 rfl) ?_
      refine z_geti C0 hZ hk0 fRX3_22 rfl dX3_readToken_122 ?_
      refine z_ic_ge (tgt := 200) C0 h1 dX3_readToken_125 (by decide) (fun h1 => ?_) (fun h1 => ?_)
      · have h1 := zout h1 hz1
        exact J200 x1 _ _ _ _  hZ (lv_sub hl [0, 1] rfl) h1
      refine lv_aload_n hx hb dX3_readToken_128 rfl (lv_at hl 0 rfl) ?_
      refine z_getr C0 hZ hk0 fRX3_9 rfl dX3_readToken_129 ?_
      refine lv_iload_n hx hb dX3_readToken_132 rfl (lv_at hl 1 rfl) ?_
      refine z_cSi (As := [.ref (zad V (k0 + 1)), .int x1]) (rest := []) C0 hZ h1 (fun _ hf => kX7_at l (zkt3_0 hk0) hf) mRX3_65 sX7_at rfl rfl hl.1 (Nat.le_of_ble_eq_true rfl) ⟨Nat.le_of_ble_eq_true rfl, Nat.le_of_ble_eq_true rfl⟩ dX3_readToken_133 ⟨Nat.le_of_ble_eq_true rfl, Nat.le_of_ble_eq_true rfl⟩ (fun r_5 σ_4 H locs h1 hZ => ?_)
      refine z_cSi (As := [.int r_5]) (rest := []) C0 hZ h1 (fun _ hf => kX3_isDigit l  hf) mRX3_76 sX3_isDigit rfl rfl hl.1 (Nat.le_of_ble_eq_true rfl) ⟨Nat.le_of_ble_eq_true rfl, Nat.le_of_ble_eq_true rfl⟩ dX3_readToken_136 ⟨Nat.le_of_ble_eq_true rfl, Nat.le_of_ble_eq_true rfl⟩ (fun r_7 σ_6 H locs h1 hZ => ?_)
      refine z_if_eq (tgt := 200) C0 h1 dX3_readToken_139 (by decide) (fun h1 => ?_) (fun h1 => ?_)
      · have h1 := zout h1 hz1
        exact J200 x1 _ _ _ _  hZ (lv_sub hl [0, 1] rfl) h1
      refine lv_aload_n hx hb dX3_readToken_142 rfl (lv_at hl 0 rfl) ?_
      refine lv_iload_n hx hb dX3_readToken_143 rfl (lv_at hl 1 rfl) ?_
      refine lv_aload_n hx hb dX3_readToken_144 rfl (lv_at hl 0 rfl) ?_
      refine z_geti C0 hZ hk0 fRX3_29 rfl dX3_readToken_145 ?_
      refine lv_isub hx hb dX3_readToken_148 ?_
      refine lv_iconst (v := 4) hx hb dX3_readToken_149 (by decide) ?_
      refine z_ic_ge (tgt := 175) C0 h1 dX3_readToken_150 (by decide) (fun h1 => ?_) (fun h1 => ?_)
      · refine lv_sipush (v := 10000) hx hb dX3_readToken_175 (by decide) ?_
        exact J178 x1 k0 10000 _ _ _ _ hk0 hZ (lv_sub hl [0, 1] rfl) h1
      refine lv_aload_n hx hb dX3_readToken_153 rfl (lv_at hl 0 rfl) ?_
      refine z_geti C0 hZ hk0 fRX3_35 rfl dX3_readToken_154 ?_
      refine lv_bipush (v := 10) hx hb dX3_readToken_157 (by decide) ?_
      refine lv_imul hx hb dX3_readToken_159 ?_
      refine lv_aload_n hx hb dX3_readToken_160 rfl (lv_at hl 0 rfl) ?_
      refine z_getr C0 hZ hk0 fRX3_9 rfl dX3_readToken_161 ?_
      refine lv_iload_n hx hb dX3_readToken_164 rfl (lv_at hl 1 rfl) ?_
      refine z_cSi (As := [.ref (zad V (k0 + 1)), .int x1]) (rest := [.int ((σ_6 k0 6) * 10), .ref (zad V k0)]) C0 hZ h1 (fun _ hf => kX7_at l (zkt3_0 hk0) hf) mRX3_65 sX7_at rfl rfl hl.1 (Nat.le_of_ble_eq_true rfl) ⟨Nat.le_of_ble_eq_true rfl, Nat.le_of_ble_eq_true rfl⟩ dX3_readToken_165 ⟨Nat.le_of_ble_eq_true rfl, Nat.le_of_ble_eq_true rfl⟩ (fun r_9 σ_8 H locs h1 hZ => ?_)
      refine lv_iadd hx hb dX3_readToken_168 ?_
      refine lv_bipush (v := 48) hx hb dX3_readToken_169 (by decide) ?_
      refine lv_isub hx hb dX3_readToken_171 ?_
      refine lv_goto (tgt := 178) hx hb dX3_readToken_172 (by decide) ?_
      exact J178 x1 k0 ((((σ_6 k0 6) * 10) + r_9) - 48) _ _ _ _ hk0 hZ (lv_sub hl [0, 1] rfl) h1
  have J80 : ∀ (n : Nat) (x1 : Int32) (σ : zS) (H : Heap) (locs : List Loc) (ls : Array Slot), zZ 0 V A σ s H locs → lv_has ls 3 [(0, .ref (zad V k0)), (1, .int x1)] → zit (fun q => FX3_readToken_L80 k0 q.1 q.2) n (x1, σ) = some t0 → W p l e (zrm 1 21) s m args below meth c H locs 0 0 Q (F0 m 80 ls []) := by
    intro n
    induction n with
    | zero => intro x1 σ H locs ls  _ _ h1; cases h1
    | succ n ih80 =>
      intro x1 σ H locs ls  hZ hl h1
      obtain ⟨t1, h1, hz1⟩ := zit_1 h1
      replace h1 : FX3_readToken_L80 k0 x1 σ = some t1 := h1
      unfold FX3_readToken_L80 at h1
      refine lv_iload_n hx hb dX3_readToken_80 rfl (lv_at hl 1 rfl) ?_
      refine lv_aload_n hx hb dX3_readToken_81 rfl (lv_at hl 0 rfl) ?_
      refine z_geti C0 hZ hk0 fRX3_22 rfl dX3_readToken_82 ?_
      refine z_ic_ge (tgt := 200) C0 h1 dX3_readToken_85 (by decide) (fun h1 => ?_) (fun h1 => ?_)
      · have h1 := zout h1 hz1
        exact J200 x1 _ _ _ _  hZ (lv_sub hl [0, 1] rfl) h1
      refine lv_aload_n hx hb dX3_readToken_88 rfl (lv_at hl 0 rfl) ?_
      refine z_getr C0 hZ hk0 fRX3_9 rfl dX3_readToken_89 ?_
      refine lv_iload_n hx hb dX3_readToken_92 rfl (lv_at hl 1 rfl) ?_
      refine z_cSi (As := [.ref (zad V (k0 + 1)), .int x1]) (rest := []) C0 hZ h1 (fun _ hf => kX7_at l (zkt3_0 hk0) hf) mRX3_65 sX7_at rfl rfl hl.1 (Nat.le_of_ble_eq_true rfl) ⟨Nat.le_of_ble_eq_true rfl, Nat.le_of_ble_eq_true rfl⟩ dX3_readToken_93 ⟨Nat.le_of_ble_eq_true rfl, Nat.le_of_ble_eq_true rfl⟩ (fun r_11 σ_10 H locs h1 hZ => ?_)
      refine z_cSi (As := [.int r_11]) (rest := []) C0 hZ h1 (fun _ hf => kX3_isLetter l  hf) mRX3_73 sX3_isLetter rfl rfl hl.1 (Nat.le_of_ble_eq_true rfl) ⟨Nat.le_of_ble_eq_true rfl, Nat.le_of_ble_eq_true rfl⟩ dX3_readToken_96 ⟨Nat.le_of_ble_eq_true rfl, Nat.le_of_ble_eq_true rfl⟩ (fun r_13 σ_12 H locs h1 hZ => ?_)
      refine z_if_eq (tgt := 200) C0 h1 dX3_readToken_99 (by decide) (fun h1 => ?_) (fun h1 => ?_)
      · have h1 := zout h1 hz1
        exact J200 x1 _ _ _ _  hZ (lv_sub hl [0, 1] rfl) h1
      refine z_iinc (v := 1) C0 h1 hl (fun x1_14 => [(1, .int x1_14), (0, .ref (zad V k0))]) dX3_readToken_102 (k := 1) rfl (by decide) (by decide) (fun _ => rfl) (fun x1_14 ls h1 hl => ?_)
      refine lv_goto (tgt := 80) hx hb dX3_readToken_105 (by decide) ?_
      exact ih80 x1_14 _ _ _ _  hZ (lv_sub hl [1, 0] rfl) (zback h1 hz1)
  have J33 : ∀ (x1 : Int32) (σ : zS) (H : Heap) (locs : List Loc) (ls : Array Slot), zZ 0 V A σ s H locs → lv_has ls 3 [(0, .ref (zad V k0)), (1, .int x1)] → FX3_readToken_b33 k0 x1 σ = some t0 → W p l e (zrm 1 21) s m args below meth c H locs 0 0 Q (F0 m 33 ls []) := by
    intro x1 σ H locs ls  hZ hl h1
    unfold FX3_readToken_b33 at h1
    refine lv_aload_n hx hb dX3_readToken_33 rfl (lv_at hl 0 rfl) ?_
    refine lv_iload_n hx hb dX3_readToken_34 rfl (lv_at hl 1 rfl) ?_
    refine z_puti C0 hZ h1 hk0 fRX3_29 rfl tyX3_ok nmX3 rfl rfl rfl dX3_readToken_35 (fun σ_15 H locs h1 hZ => ?_)
    refine lv_aload_n hx hb dX3_readToken_38 rfl (lv_at hl 0 rfl) ?_
    refine lv_iconst (v := 0) hx hb dX3_readToken_39 (by decide) ?_
    refine z_puti C0 hZ h1 hk0 fRX3_35 rfl tyX3_ok nmX3 rfl rfl rfl dX3_readToken_40 (fun σ_16 H locs h1 hZ => ?_)
    refine lv_aload_n hx hb dX3_readToken_43 rfl (lv_at hl 0 rfl) ?_
    refine z_getr C0 hZ hk0 fRX3_9 rfl dX3_readToken_44 ?_
    refine lv_iload_n hx hb dX3_readToken_47 rfl (lv_at hl 1 rfl) ?_
    refine z_cSi (As := [.ref (zad V (k0 + 1)), .int x1]) (rest := []) C0 hZ h1 (fun _ hf => kX7_at l (zkt3_0 hk0) hf) mRX3_65 sX7_at rfl rfl hl.1 (Nat.le_of_ble_eq_true rfl) ⟨Nat.le_of_ble_eq_true rfl, Nat.le_of_ble_eq_true rfl⟩ dX3_readToken_48 ⟨Nat.le_of_ble_eq_true rfl, Nat.le_of_ble_eq_true rfl⟩ (fun r_18 σ_17 H locs h1 hZ => ?_)
    refine z_istore_n C0 h1 hl (fun x2_19 => [(2, .int x2_19), (0, .ref (zad V k0)), (1, .int x1)]) dX3_readToken_51 rfl (by decide) (fun _ => rfl) (fun x2_19 ls h1 hl => ?_)
    refine lv_iload_n hx hb dX3_readToken_52 rfl (lv_at hl 2 rfl) ?_
    refine lv_aload_n hx hb dX3_readToken_53 rfl (lv_at hl 1 rfl) ?_
    refine z_geti C0 hZ hk0 fRX3_22 rfl dX3_readToken_54 ?_
    refine z_ic_lt (tgt := 68) C0 h1 dX3_readToken_57 (by decide) (fun h1 => ?_) (fun h1 => ?_)
    · refine lv_iload_n hx hb dX3_readToken_68 rfl (lv_at hl 0 rfl) ?_
      refine z_cSi (As := [.int x2_19]) (rest := []) C0 hZ h1 (fun _ hf => kX3_isLetter l  hf) mRX3_73 sX3_isLetter rfl rfl hl.1 (Nat.le_of_ble_eq_true rfl) ⟨Nat.le_of_ble_eq_true rfl, Nat.le_of_ble_eq_true rfl⟩ dX3_readToken_69 ⟨Nat.le_of_ble_eq_true rfl, Nat.le_of_ble_eq_true rfl⟩ (fun r_21 σ_20 H locs h1 hZ => ?_)
      refine z_if_eq (tgt := 108) C0 h1 dX3_readToken_72 (by decide) (fun h1 => ?_) (fun h1 => ?_)
      · refine lv_iload_n hx hb dX3_readToken_108 rfl (lv_at hl 0 rfl) ?_
        refine z_cSi (As := [.int x2_19]) (rest := []) C0 hZ h1 (fun _ hf => kX3_isDigit l  hf) mRX3_76 sX3_isDigit rfl rfl hl.1 (Nat.le_of_ble_eq_true rfl) ⟨Nat.le_of_ble_eq_true rfl, Nat.le_of_ble_eq_true rfl⟩ dX3_readToken_109 ⟨Nat.le_of_ble_eq_true rfl, Nat.le_of_ble_eq_true rfl⟩ (fun r_23 σ_22 H locs h1 hZ => ?_)
        refine z_if_eq (tgt := 187) C0 h1 dX3_readToken_112 (by decide) (fun h1 => ?_) (fun h1 => ?_)
        · refine lv_aload_n hx hb dX3_readToken_187 rfl (lv_at hl 1 rfl) ?_
          refine lv_iconst (v := 3) hx hb dX3_readToken_188 (by decide) ?_
          refine z_puti C0 hZ h1 hk0 fRX3_26 rfl tyX3_ok nmX3 rfl rfl rfl dX3_readToken_189 (fun σ_24 H locs h1 hZ => ?_)
          refine lv_aload_n hx hb dX3_readToken_192 rfl (lv_at hl 1 rfl) ?_
          refine lv_iload_n hx hb dX3_readToken_193 rfl (lv_at hl 0 rfl) ?_
          refine z_puti C0 hZ h1 hk0 fRX3_35 rfl tyX3_ok nmX3 rfl rfl rfl dX3_readToken_194 (fun σ_25 H locs h1 hZ => ?_)
          refine z_iinc (v := 1) C0 h1 hl (fun x1_26 => [(1, .int x1_26), (2, .int x2_19), (0, .ref (zad V k0))]) dX3_readToken_197 (k := 2) rfl (by decide) (by decide) (fun _ => rfl) (fun x1_26 ls h1 hl => ?_)
          exact J200 x1_26 _ _ _ _  hZ (lv_sub hl [2, 0] rfl) h1
        refine lv_aload_n hx hb dX3_readToken_115 rfl (lv_at hl 1 rfl) ?_
        refine lv_iconst (v := 2) hx hb dX3_readToken_116 (by decide) ?_
        refine z_puti C0 hZ h1 hk0 fRX3_26 rfl tyX3_ok nmX3 rfl rfl rfl dX3_readToken_117 (fun σ_27 H locs h1 hZ => ?_)
        obtain ⟨n, h1⟩ := zlp_iff.mp h1
        exact J120 n x1 _ _ _ _  hZ (lv_sub hl [1, 2] rfl) h1
      refine lv_aload_n hx hb dX3_readToken_75 rfl (lv_at hl 1 rfl) ?_
      refine lv_iconst (v := 1) hx hb dX3_readToken_76 (by decide) ?_
      refine z_puti C0 hZ h1 hk0 fRX3_26 rfl tyX3_ok nmX3 rfl rfl rfl dX3_readToken_77 (fun σ_28 H locs h1 hZ => ?_)
      obtain ⟨n, h1⟩ := zlp_iff.mp h1
      exact J80 n x1 _ _ _ _  hZ (lv_sub hl [1, 2] rfl) h1
    refine lv_aload_n hx hb dX3_readToken_60 rfl (lv_at hl 1 rfl) ?_
    refine lv_iconst (v := 0) hx hb dX3_readToken_61 (by decide) ?_
    refine z_puti C0 hZ h1 hk0 fRX3_26 rfl tyX3_ok nmX3 rfl rfl rfl dX3_readToken_62 (fun σ_29 H locs h1 hZ => ?_)
    refine lv_goto (tgt := 200) hx hb dX3_readToken_65 (by decide) ?_
    exact J200 x1 _ _ _ _  hZ (lv_sub hl [1, 2] rfl) h1
  have J5 : ∀ (n : Nat) (x1 : Int32) (σ : zS) (H : Heap) (locs : List Loc) (ls : Array Slot), zZ 0 V A σ s H locs → lv_has ls 3 [(0, .ref (zad V k0)), (1, .int x1)] → zit (fun q => FX3_readToken_L5 k0 q.1 q.2) n (x1, σ) = some t0 → W p l e (zrm 1 21) s m args below meth c H locs 0 0 Q (F0 m 5 ls []) := by
    intro n
    induction n with
    | zero => intro x1 σ H locs ls  _ _ h1; cases h1
    | succ n ih5 =>
      intro x1 σ H locs ls  hZ hl h1
      obtain ⟨t1, h1, hz1⟩ := zit_1 h1
      replace h1 : FX3_readToken_L5 k0 x1 σ = some t1 := h1
      unfold FX3_readToken_L5 at h1
      refine lv_iload_n hx hb dX3_readToken_5 rfl (lv_at hl 1 rfl) ?_
      refine lv_aload_n hx hb dX3_readToken_6 rfl (lv_at hl 0 rfl) ?_
      refine z_geti C0 hZ hk0 fRX3_22 rfl dX3_readToken_7 ?_
      refine z_ic_ge (tgt := 33) C0 h1 dX3_readToken_10 (by decide) (fun h1 => ?_) (fun h1 => ?_)
      · have h1 := zout h1 hz1
        exact J33 x1 _ _ _ _  hZ (lv_sub hl [0, 1] rfl) h1
      refine lv_aload_n hx hb dX3_readToken_13 rfl (lv_at hl 0 rfl) ?_
      refine z_getr C0 hZ hk0 fRX3_9 rfl dX3_readToken_14 ?_
      refine lv_iload_n hx hb dX3_readToken_17 rfl (lv_at hl 1 rfl) ?_
      refine z_cSi (As := [.ref (zad V (k0 + 1)), .int x1]) (rest := []) C0 hZ h1 (fun _ hf => kX7_at l (zkt3_0 hk0) hf) mRX3_65 sX7_at rfl rfl hl.1 (Nat.le_of_ble_eq_true rfl) ⟨Nat.le_of_ble_eq_true rfl, Nat.le_of_ble_eq_true rfl⟩ dX3_readToken_18 ⟨Nat.le_of_ble_eq_true rfl, Nat.le_of_ble_eq_true rfl⟩ (fun r_31 σ_30 H locs h1 hZ => ?_)
      refine z_cSi (As := [.int r_31]) (rest := []) C0 hZ h1 (fun _ hf => kX3_isBlank l  hf) mRX3_69 sX3_isBlank rfl rfl hl.1 (Nat.le_of_ble_eq_true rfl) ⟨Nat.le_of_ble_eq_true rfl, Nat.le_of_ble_eq_true rfl⟩ dX3_readToken_21 ⟨Nat.le_of_ble_eq_true rfl, Nat.le_of_ble_eq_true rfl⟩ (fun r_33 σ_32 H locs h1 hZ => ?_)
      refine z_if_eq (tgt := 33) C0 h1 dX3_readToken_24 (by decide) (fun h1 => ?_) (fun h1 => ?_)
      · have h1 := zout h1 hz1
        exact J33 x1 _ _ _ _  hZ (lv_sub hl [0, 1] rfl) h1
      refine z_iinc (v := 1) C0 h1 hl (fun x1_34 => [(1, .int x1_34), (0, .ref (zad V k0))]) dX3_readToken_27 (k := 1) rfl (by decide) (by decide) (fun _ => rfl) (fun x1_34 ls h1 hl => ?_)
      refine lv_goto (tgt := 5) hx hb dX3_readToken_30 (by decide) ?_
      exact ih5 x1_34 _ _ _ _  hZ (lv_sub hl [1, 0] rfl) (zback h1 hz1)
  refine lv_aload_n hx hb dX3_readToken_0 rfl (lv_at hl 0 rfl) ?_
  refine z_geti C0 hZ hk0 fRX3_32 rfl dX3_readToken_1 ?_
  refine z_istore_n C0 h1 hl (fun x1_35 => [(1, .int x1_35), (0, .ref (zad V k0))]) dX3_readToken_4 rfl (by decide) (fun _ => rfl) (fun x1_35 ls h1 hl => ?_)
  obtain ⟨n, h1⟩ := zlp_iff.mp h1
  exact J5 n x1_35 _ _ _ _  hZ (lv_sub hl [1, 0] rfl) h1
noncomputable def FX3_isWord_b24  (σ : zS) : Option (Int32 × zS) := zgd (0 == 0 || 0 == 1) (some (0, σ))
noncomputable def FX3_isWord_b65  (σ : zS) : Option (Int32 × zS) := zgd (1 == 0 || 1 == 1) (some (1, σ))
noncomputable def FX3_isWord_b57  (σ : zS) : Option (Int32 × zS) := zgd (0 == 0 || 0 == 1) (some (0, σ))
noncomputable def FX3_isWord_L28 (k0 : Nat) (k1 : Nat) (x2 : Int32) (σ : zS) : Option ((Int32 × zS) ⊕ (Int32 × zS)) := zbd (FJ0_length_8abf5 k1 σ) (fun r_2 σ_1 => if r_2 ≤ x2 then zinr (FX3_isWord_b65  σ_1) else zbd (FX7_at (k0 + 1) ((σ_1 k0 4) + x2) σ_1) (fun r_4 σ_3 => zbd (FJ0_charAt_5068e k1 x2 σ_3) (fun r_6 σ_5 => if r_4 = r_6 then zlet (x2 + 1) (fun x2_7 => some (.inl (x2_7, σ_5))) else zinr (FX3_isWord_b57  σ_5))))
noncomputable def FX3_isWord (k0 : Nat) (k1 : Nat) (σ : zS) : Option (Int32 × zS) := if (σ k0 3) = 1 then zbd (FJ0_length_8abf5 k1 σ) (fun r_9 σ_8 => if ((σ k0 5) - (σ k0 4)) = r_9 then zlet 0 (fun x2_10 => zlp (fun q => FX3_isWord_L28 k0 k1 q.1 q.2) (x2_10, σ_8)) else FX3_isWord_b24  σ_8) else FX3_isWord_b24  σ
set_option maxHeartbeats 4000000 in
set_option maxRecDepth 100000 in
theorem kX3_isWord (l : Launch) {V : zV} {σ : zS} {t0 : Int32 × zS} {k0 : Nat} {k1 : Nat} (hk0 : kd 0 k0 = 3) (hk1 : k1 < zN) (h1 : FX3_isWord k0 k1 σ = some t0) : zMi l yX3_isWord cX3_isWord 3 (some .boolean) 4 85 0 V σ t0 [.ref (zad V k0), .ref (V.2.2.2.1 k1)] := by
  refine zMi_of (by decide) (Nat.le_of_ble_eq_true rfl) ?_
  intro p e s m below meth c A C0 hr hlk hZ ls hl
  generalize ([.ref (zad V k0), .ref (V.2.2.2.1 k1)] : List Value).toArray = args at C0 ⊢
  obtain ⟨Q, hQ⟩ : ∃ Q, Q = MQ below (zQi 0 V t0 A) args s 0 0 A := ⟨_, rfl⟩
  rw [← hQ]
  have hx := C0.1
  have hb := C0.2.1
  have hl : lv_has ls 3 [(0, .ref (zad V k0)), (1, .ref (V.2.2.2.1 k1))] := hl
  unfold FX3_isWord at h1
  have J24 : ∀  (σ : zS) (H : Heap) (locs : List Loc) (ls : Array Slot), zZ 0 V A σ s H locs → lv_has ls 3 [] → FX3_isWord_b24  σ = some t0 → W p l e (zrm 4 85) s m args below meth c H locs 0 0 Q (F0 m 24 ls []) := by
    intro  σ H locs ls  hZ hl h1
    unfold FX3_isWord_b24 at h1
    refine lv_iconst (v := 0) hx hb dX3_isWord_24 (by decide) ?_
    rw [hQ]; exact z_zret C0 hr hlk hZ h1 dX3_isWord_25
  have J65 : ∀  (σ : zS) (H : Heap) (locs : List Loc) (ls : Array Slot), zZ 0 V A σ s H locs → lv_has ls 3 [] → FX3_isWord_b65  σ = some t0 → W p l e (zrm 4 85) s m args below meth c H locs 0 0 Q (F0 m 65 ls []) := by
    intro  σ H locs ls  hZ hl h1
    unfold FX3_isWord_b65 at h1
    refine lv_iconst (v := 1) hx hb dX3_isWord_65 (by decide) ?_
    rw [hQ]; exact z_zret C0 hr hlk hZ h1 dX3_isWord_66
  have J57 : ∀  (σ : zS) (H : Heap) (locs : List Loc) (ls : Array Slot), zZ 0 V A σ s H locs → lv_has ls 3 [] → FX3_isWord_b57  σ = some t0 → W p l e (zrm 4 85) s m args below meth c H locs 0 0 Q (F0 m 57 ls []) := by
    intro  σ H locs ls  hZ hl h1
    unfold FX3_isWord_b57 at h1
    refine lv_iconst (v := 0) hx hb dX3_isWord_57 (by decide) ?_
    rw [hQ]; exact z_zret C0 hr hlk hZ h1 dX3_isWord_58
  have J28 : ∀ (n : Nat) (x2 : Int32) (σ : zS) (H : Heap) (locs : List Loc) (ls : Array Slot), zZ 0 V A σ s H locs → lv_has ls 3 [(0, .ref (zad V k0)), (1, .ref (V.2.2.2.1 k1)), (2, .int x2)] → zit (fun q => FX3_isWord_L28 k0 k1 q.1 q.2) n (x2, σ) = some t0 → W p l e (zrm 4 85) s m args below meth c H locs 0 0 Q (F0 m 28 ls []) := by
    intro n
    induction n with
    | zero => intro x2 σ H locs ls  _ _ h1; cases h1
    | succ n ih28 =>
      intro x2 σ H locs ls  hZ hl h1
      obtain ⟨t1, h1, hz1⟩ := zit_1 h1
      replace h1 : FX3_isWord_L28 k0 k1 x2 σ = some t1 := h1
      unfold FX3_isWord_L28 at h1
      refine lv_iload_n hx hb dX3_isWord_28 rfl (lv_at hl 2 rfl) ?_
      refine lv_aload_n hx hb dX3_isWord_29 rfl (lv_at hl 1 rfl) ?_
      refine z_cTi (As := []) (rest := [.int x2]) C0 hZ h1 (fun _ hf => kJ0_length_8abf5 l hf) mRX3_79 wJ0_length_8abf5 hk1 rfl rfl rfl hl.1 (Nat.le_of_ble_eq_true rfl) ⟨Nat.le_of_ble_eq_true rfl, Nat.le_of_ble_eq_true rfl⟩ dX3_isWord_30 ⟨Nat.le_of_ble_eq_true rfl, Nat.le_of_ble_eq_true rfl⟩ (fun r_2 σ_1 H locs h1 hZ => ?_)
      refine z_ic_ge (tgt := 65) C0 h1 dX3_isWord_33 (by decide) (fun h1 => ?_) (fun h1 => ?_)
      · have h1 := zout h1 hz1
        exact J65  _ _ _ _  hZ (lv_sub hl [] rfl) h1
      refine lv_aload_n hx hb dX3_isWord_36 rfl (lv_at hl 0 rfl) ?_
      refine z_getr C0 hZ hk0 fRX3_9 rfl dX3_isWord_37 ?_
      refine lv_aload_n hx hb dX3_isWord_40 rfl (lv_at hl 0 rfl) ?_
      refine z_geti C0 hZ hk0 fRX3_29 rfl dX3_isWord_41 ?_
      refine lv_iload_n hx hb dX3_isWord_44 rfl (lv_at hl 2 rfl) ?_
      refine lv_iadd hx hb dX3_isWord_45 ?_
      refine z_cSi (As := [.ref (zad V (k0 + 1)), .int ((σ_1 k0 4) + x2)]) (rest := []) C0 hZ h1 (fun _ hf => kX7_at l (zkt3_0 hk0) hf) mRX3_65 sX7_at rfl rfl hl.1 (Nat.le_of_ble_eq_true rfl) ⟨Nat.le_of_ble_eq_true rfl, Nat.le_of_ble_eq_true rfl⟩ dX3_isWord_46 ⟨Nat.le_of_ble_eq_true rfl, Nat.le_of_ble_eq_true rfl⟩ (fun r_4 σ_3 H locs h1 hZ => ?_)
      refine lv_aload_n hx hb dX3_isWord_49 rfl (lv_at hl 1 rfl) ?_
      refine lv_iload_n hx hb dX3_isWord_50 rfl (lv_at hl 2 rfl) ?_
      refine z_cTi (As := [.int x2]) (rest := [.int r_4]) C0 hZ h1 (fun _ hf => kJ0_charAt_5068e l hf) mRX3_84 wJ0_charAt_5068e hk1 rfl rfl rfl hl.1 (Nat.le_of_ble_eq_true rfl) ⟨Nat.le_of_ble_eq_true rfl, Nat.le_of_ble_eq_true rfl⟩ dX3_isWord_51 ⟨Nat.le_of_ble_eq_true rfl, Nat.le_of_ble_eq_true rfl⟩ (fun r_6 σ_5 H locs h1 hZ => ?_)
      refine z_ic_eq (tgt := 59) C0 h1 dX3_isWord_54 (by decide) (fun h1 => ?_) (fun h1 => ?_)
      · refine z_iinc (v := 1) C0 h1 hl (fun x2_7 => [(2, .int x2_7), (0, .ref (zad V k0)), (1, .ref (V.2.2.2.1 k1))]) dX3_isWord_59 (k := 2) rfl (by decide) (by decide) (fun _ => rfl) (fun x2_7 ls h1 hl => ?_)
        refine lv_goto (tgt := 28) hx hb dX3_isWord_62 (by decide) ?_
        exact ih28 x2_7 _ _ _ _  hZ (lv_sub hl [1, 2, 0] rfl) (zback h1 hz1)
      have h1 := zout h1 hz1
      exact J57  _ _ _ _  hZ (lv_sub hl [] rfl) h1
  refine lv_aload_n hx hb dX3_isWord_0 rfl (lv_at hl 0 rfl) ?_
  refine z_geti C0 hZ hk0 fRX3_26 rfl dX3_isWord_1 ?_
  refine lv_iconst (v := 1) hx hb dX3_isWord_4 (by decide) ?_
  refine z_ic_ne (tgt := 24) C0 h1 dX3_isWord_5 (by decide) (fun h1 => ?_) (fun h1 => ?_)
  · exact J24  _ _ _ _  hZ (lv_sub hl [] rfl) h1
  refine lv_aload_n hx hb dX3_isWord_8 rfl (lv_at hl 0 rfl) ?_
  refine z_geti C0 hZ hk0 fRX3_32 rfl dX3_isWord_9 ?_
  refine lv_aload_n hx hb dX3_isWord_12 rfl (lv_at hl 0 rfl) ?_
  refine z_geti C0 hZ hk0 fRX3_29 rfl dX3_isWord_13 ?_
  refine lv_isub hx hb dX3_isWord_16 ?_
  refine lv_aload_n hx hb dX3_isWord_17 rfl (lv_at hl 1 rfl) ?_
  refine z_cTi (As := []) (rest := [.int ((σ k0 5) - (σ k0 4))]) C0 hZ h1 (fun _ hf => kJ0_length_8abf5 l hf) mRX3_79 wJ0_length_8abf5 hk1 rfl rfl rfl hl.1 (Nat.le_of_ble_eq_true rfl) ⟨Nat.le_of_ble_eq_true rfl, Nat.le_of_ble_eq_true rfl⟩ dX3_isWord_18 ⟨Nat.le_of_ble_eq_true rfl, Nat.le_of_ble_eq_true rfl⟩ (fun r_9 σ_8 H locs h1 hZ => ?_)
  refine z_ic_eq (tgt := 26) C0 h1 dX3_isWord_21 (by decide) (fun h1 => ?_) (fun h1 => ?_)
  · refine lv_iconst (v := 0) hx hb dX3_isWord_26 (by decide) ?_
    refine z_istore_n C0 h1 hl (fun x2_10 => [(2, .int x2_10), (0, .ref (zad V k0)), (1, .ref (V.2.2.2.1 k1))]) dX3_isWord_27 rfl (by decide) (fun _ => rfl) (fun x2_10 ls h1 hl => ?_)
    obtain ⟨n, h1⟩ := zlp_iff.mp h1
    exact J28 n x2_10 _ _ _ _  hZ (lv_sub hl [1, 2, 0] rfl) h1
  exact J24  _ _ _ _  hZ (lv_sub hl [] rfl) h1
noncomputable def FX3_sortTold_b47 (y0 : Int32) (σ : zS) : Option (Int32 × zS) := some (y0, σ)
noncomputable def FX3_sortTold (k0 : Nat) (σ : zS) : Option (Int32 × zS) := zbd (FX3_isWord k0 7 σ) (fun r_2 σ_1 => if r_2 = 0 then zbd (FX3_isWord k0 8 σ_1) (fun r_4 σ_3 => if r_4 = 0 then zbd (FX3_isWord k0 9 σ_3) (fun r_6 σ_5 => if r_6 = 0 then zbd (FX3_isWord k0 10 σ_5) (fun r_8 σ_7 => if r_8 = 0 then FX3_sortTold_b47 (-1) σ_7 else FX3_sortTold_b47 3 σ_7) else some (2, σ_5)) else some (1, σ_3)) else some (0, σ_1))
set_option maxHeartbeats 4000000 in
set_option maxRecDepth 100000 in
theorem kX3_sortTold (l : Launch) {V : zV} {σ : zS} {t0 : Int32 × zS} {k0 : Nat} (hk0 : kd 0 k0 = 3) (h1 : FX3_sortTold k0 σ = some t0) : zMi l yX3_sortTold cX3_sortTold 1 (some .int) 5 107 0 V σ t0 [.ref (zad V k0)] := by
  refine zMi_of (by decide) (Nat.le_of_ble_eq_true rfl) ?_
  intro p e s m below meth c A C0 hr hlk hZ ls hl
  generalize ([.ref (zad V k0)] : List Value).toArray = args at C0 ⊢
  obtain ⟨Q, hQ⟩ : ∃ Q, Q = MQ below (zQi 0 V t0 A) args s 0 0 A := ⟨_, rfl⟩
  rw [← hQ]
  have hx := C0.1
  have hb := C0.2.1
  have hl : lv_has ls 1 [(0, .ref (zad V k0))] := hl
  unfold FX3_sortTold at h1
  have J47 : ∀ (y0 : Int32) (σ : zS) (H : Heap) (locs : List Loc) (ls : Array Slot), zZ 0 V A σ s H locs → lv_has ls 1 [] → FX3_sortTold_b47 y0 σ = some t0 → W p l e (zrm 5 107) s m args below meth c H locs 0 0 Q (F0 m 47 ls [.int y0]) := by
    intro y0 σ H locs ls  hZ hl h1
    unfold FX3_sortTold_b47 at h1
    rw [hQ]; exact z_iret C0 hr hlk hZ h1 dX3_sortTold_47
  refine lv_aload_n hx hb dX3_sortTold_0 rfl (lv_at hl 0 rfl) ?_
  refine z_ldcS (i := 7) (tx := "buyer") C0 hZ (by decide +kernel) dX3_sortTold_1 ?_
  refine z_cVi (As := [.ref (V.2.2.2.1 7)]) (rest := []) C0 hZ h1 (fun _ hf => kX3_isWord l hk0 (by decide) hf) mRX3_97 vX3_isWord hk0 rfl rfl hl.1 (Nat.le_of_ble_eq_true rfl) ⟨Nat.le_of_ble_eq_true rfl, Nat.le_of_ble_eq_true rfl⟩ dX3_sortTold_3 ⟨Nat.le_of_ble_eq_true rfl, Nat.le_of_ble_eq_true rfl⟩ (fun r_2 σ_1 H locs h1 hZ => ?_)
  refine z_if_eq (tgt := 11) C0 h1 dX3_sortTold_6 (by decide) (fun h1 => ?_) (fun h1 => ?_)
  · refine lv_aload_n hx hb dX3_sortTold_11 rfl (lv_at hl 0 rfl) ?_
    refine z_ldcS (i := 8) (tx := "thief") C0 hZ (by decide +kernel) dX3_sortTold_12 ?_
    refine z_cVi (As := [.ref (V.2.2.2.1 8)]) (rest := []) C0 hZ h1 (fun _ hf => kX3_isWord l hk0 (by decide) hf) mRX3_97 vX3_isWord hk0 rfl rfl hl.1 (Nat.le_of_ble_eq_true rfl) ⟨Nat.le_of_ble_eq_true rfl, Nat.le_of_ble_eq_true rfl⟩ dX3_sortTold_14 ⟨Nat.le_of_ble_eq_true rfl, Nat.le_of_ble_eq_true rfl⟩ (fun r_4 σ_3 H locs h1 hZ => ?_)
    refine z_if_eq (tgt := 22) C0 h1 dX3_sortTold_17 (by decide) (fun h1 => ?_) (fun h1 => ?_)
    · refine lv_aload_n hx hb dX3_sortTold_22 rfl (lv_at hl 0 rfl) ?_
      refine z_ldcS (i := 9) (tx := "lapse") C0 hZ (by decide +kernel) dX3_sortTold_23 ?_
      refine z_cVi (As := [.ref (V.2.2.2.1 9)]) (rest := []) C0 hZ h1 (fun _ hf => kX3_isWord l hk0 (by decide) hf) mRX3_97 vX3_isWord hk0 rfl rfl hl.1 (Nat.le_of_ble_eq_true rfl) ⟨Nat.le_of_ble_eq_true rfl, Nat.le_of_ble_eq_true rfl⟩ dX3_sortTold_25 ⟨Nat.le_of_ble_eq_true rfl, Nat.le_of_ble_eq_true rfl⟩ (fun r_6 σ_5 H locs h1 hZ => ?_)
      refine z_if_eq (tgt := 33) C0 h1 dX3_sortTold_28 (by decide) (fun h1 => ?_) (fun h1 => ?_)
      · refine lv_aload_n hx hb dX3_sortTold_33 rfl (lv_at hl 0 rfl) ?_
        refine z_ldcS (i := 10) (tx := "staff") C0 hZ (by decide +kernel) dX3_sortTold_34 ?_
        refine z_cVi (As := [.ref (V.2.2.2.1 10)]) (rest := []) C0 hZ h1 (fun _ hf => kX3_isWord l hk0 (by decide) hf) mRX3_97 vX3_isWord hk0 rfl rfl hl.1 (Nat.le_of_ble_eq_true rfl) ⟨Nat.le_of_ble_eq_true rfl, Nat.le_of_ble_eq_true rfl⟩ dX3_sortTold_36 ⟨Nat.le_of_ble_eq_true rfl, Nat.le_of_ble_eq_true rfl⟩ (fun r_8 σ_7 H locs h1 hZ => ?_)
        refine z_if_eq (tgt := 46) C0 h1 dX3_sortTold_39 (by decide) (fun h1 => ?_) (fun h1 => ?_)
        · refine lv_iconst (v := (-1)) hx hb dX3_sortTold_46 (by decide) ?_
          exact J47 (-1) _ _ _ _  hZ (lv_sub hl [] rfl) h1
        refine lv_iconst (v := 3) hx hb dX3_sortTold_42 (by decide) ?_
        refine lv_goto (tgt := 47) hx hb dX3_sortTold_43 (by decide) ?_
        exact J47 3 _ _ _ _  hZ (lv_sub hl [] rfl) h1
      refine lv_iconst (v := 2) hx hb dX3_sortTold_31 (by decide) ?_
      rw [hQ]; exact z_iret C0 hr hlk hZ h1 dX3_sortTold_32
    refine lv_iconst (v := 1) hx hb dX3_sortTold_20 (by decide) ?_
    rw [hQ]; exact z_iret C0 hr hlk hZ h1 dX3_sortTold_21
  refine lv_iconst (v := 0) hx hb dX3_sortTold_9 (by decide) ?_
  rw [hQ]; exact z_iret C0 hr hlk hZ h1 dX3_sortTold_10
noncomputable def FX3_fail_b20  (σ : zS) : Option (Int32 × zS) := some (0, σ)
noncomputable def FX3_fail (k0 : Nat) (x1 : Int32) (σ : zS) : Option (Int32 × zS) := if (σ k0 8) = 0 then zlet (zup σ k0 8 x1) (fun σ_1 => zlet (zup σ_1 k0 9 (σ_1 k0 4)) (fun σ_2 => FX3_fail_b20  σ_2)) else FX3_fail_b20  σ
set_option maxHeartbeats 4000000 in
set_option maxRecDepth 100000 in
theorem kX3_fail (l : Launch) {V : zV} {σ : zS} {t0 : Int32 × zS} {k0 : Nat} {x1 : Int32} (hk0 : kd 0 k0 = 3) (h1 : FX3_fail k0 x1 σ = some t0) : zMv l yX3_fail cX3_fail 2 0 0 0 V σ t0 [.ref (zad V k0), .int x1] := by
  refine zMv_of (by decide) (Nat.le_of_ble_eq_true rfl) ?_
  intro p e s m below meth c A C0 hr hlk hZ ls hl
  generalize ([.ref (zad V k0), .int x1] : List Value).toArray = args at C0 ⊢
  obtain ⟨Q, hQ⟩ : ∃ Q, Q = MQ below (zQv 0 V t0 A) args s 0 0 A := ⟨_, rfl⟩
  rw [← hQ]
  have hx := C0.1
  have hb := C0.2.1
  have hl : lv_has ls 2 [(0, .ref (zad V k0)), (1, .int x1)] := hl
  unfold FX3_fail at h1
  have J20 : ∀  (σ : zS) (H : Heap) (locs : List Loc) (ls : Array Slot), zZ 0 V A σ s H locs → lv_has ls 2 [] → FX3_fail_b20  σ = some t0 → W p l e (zrm 0 0) s m args below meth c H locs 0 0 Q (F0 m 20 ls []) := by
    intro  σ H locs ls  hZ hl h1
    unfold FX3_fail_b20 at h1
    rw [hQ]; exact z_vret C0 hr hlk hZ h1 dX3_fail_20
  refine lv_aload_n hx hb dX3_fail_0 rfl (lv_at hl 0 rfl) ?_
  refine z_geti C0 hZ hk0 fRX3_41 rfl dX3_fail_1 ?_
  refine z_if_ne (tgt := 20) C0 h1 dX3_fail_4 (by decide) (fun h1 => ?_) (fun h1 => ?_)
  · exact J20  _ _ _ _  hZ (lv_sub hl [] rfl) h1
  refine lv_aload_n hx hb dX3_fail_7 rfl (lv_at hl 0 rfl) ?_
  refine lv_iload_n hx hb dX3_fail_8 rfl (lv_at hl 1 rfl) ?_
  refine z_puti C0 hZ h1 hk0 fRX3_41 rfl tyX3_ok nmX3 rfl rfl rfl dX3_fail_9 (fun σ_1 H locs h1 hZ => ?_)
  refine lv_aload_n hx hb dX3_fail_12 rfl (lv_at hl 0 rfl) ?_
  refine lv_aload_n hx hb dX3_fail_13 rfl (lv_at hl 0 rfl) ?_
  refine z_geti C0 hZ hk0 fRX3_29 rfl dX3_fail_14 ?_
  refine z_puti C0 hZ h1 hk0 fRX3_44 rfl tyX3_ok nmX3 rfl rfl rfl dX3_fail_17 (fun σ_2 H locs h1 hZ => ?_)
  exact J20  _ _ _ _  hZ (lv_sub hl [] rfl) h1
noncomputable def FX3_readFirst_b17  (σ : zS) : Option (Int32 × zS) := some (0, σ)
noncomputable def FX3_readFirst (k0 : Nat) (x1 : Int32) (x2 : Int32) (σ : zS) : Option (Int32 × zS) := if x1 < x2 then zbd (FX3_readToken k0 σ) (fun _ σ_1 => FX3_readFirst_b17  σ_1) else zbd (FX3_fail k0 2 σ) (fun _ σ_3 => FX3_readFirst_b17  σ_3)
set_option maxHeartbeats 4000000 in
set_option maxRecDepth 100000 in
theorem kX3_readFirst (l : Launch) {V : zV} {σ : zS} {t0 : Int32 × zS} {k0 : Nat} {x1 : Int32} {x2 : Int32} (hk0 : kd 0 k0 = 3) (h1 : FX3_readFirst k0 x1 x2 σ = some t0) : zMv l yX3_readFirst cX3_readFirst 3 2 43 0 V σ t0 [.ref (zad V k0), .int x1, .int x2] := by
  refine zMv_of (by decide) (Nat.le_of_ble_eq_true rfl) ?_
  intro p e s m below meth c A C0 hr hlk hZ ls hl
  generalize ([.ref (zad V k0), .int x1, .int x2] : List Value).toArray = args at C0 ⊢
  obtain ⟨Q, hQ⟩ : ∃ Q, Q = MQ below (zQv 0 V t0 A) args s 0 0 A := ⟨_, rfl⟩
  rw [← hQ]
  have hx := C0.1
  have hb := C0.2.1
  have hl : lv_has ls 3 [(0, .ref (zad V k0)), (1, .int x1), (2, .int x2)] := hl
  unfold FX3_readFirst at h1
  have J17 : ∀  (σ : zS) (H : Heap) (locs : List Loc) (ls : Array Slot), zZ 0 V A σ s H locs → lv_has ls 3 [] → FX3_readFirst_b17  σ = some t0 → W p l e (zrm 2 43) s m args below meth c H locs 0 0 Q (F0 m 17 ls []) := by
    intro  σ H locs ls  hZ hl h1
    unfold FX3_readFirst_b17 at h1
    rw [hQ]; exact z_vret C0 hr hlk hZ h1 dX3_readFirst_17
  refine lv_iload_n hx hb dX3_readFirst_0 rfl (lv_at hl 1 rfl) ?_
  refine lv_iload_n hx hb dX3_readFirst_1 rfl (lv_at hl 2 rfl) ?_
  refine z_ic_lt (tgt := 13) C0 h1 dX3_readFirst_2 (by decide) (fun h1 => ?_) (fun h1 => ?_)
  · refine lv_aload_n hx hb dX3_readFirst_13 rfl (lv_at hl 0 rfl) ?_
    refine z_cVv (As := []) (rest := []) C0 hZ h1 (fun _ hf => kX3_readToken l hk0 hf) mRX3_50 vX3_readToken hk0 rfl rfl hl.1 (Nat.le_of_ble_eq_true rfl) ⟨Nat.le_of_ble_eq_true rfl, Nat.le_of_ble_eq_true rfl⟩ dX3_readFirst_14 ⟨Nat.le_of_ble_eq_true rfl, Nat.le_of_ble_eq_true rfl⟩ (fun _ σ_1 H locs h1 hZ => ?_)
    exact J17  _ _ _ _  hZ (lv_sub hl [] rfl) h1
  refine lv_aload_n hx hb dX3_readFirst_5 rfl (lv_at hl 0 rfl) ?_
  refine lv_iconst (v := 2) hx hb dX3_readFirst_6 (by decide) ?_
  refine z_cVv (As := [.int 2]) (rest := []) C0 hZ h1 (fun _ hf => kX3_fail l hk0 hf) mRX3_136 vX3_fail hk0 rfl rfl hl.1 (Nat.le_of_ble_eq_true rfl) ⟨Nat.le_of_ble_eq_true rfl, Nat.le_of_ble_eq_true rfl⟩ dX3_readFirst_7 ⟨Nat.le_of_ble_eq_true rfl, Nat.le_of_ble_eq_true rfl⟩ (fun _ σ_3 H locs h1 hZ => ?_)
  refine lv_goto (tgt := 17) hx hb dX3_readFirst_10 (by decide) ?_
  exact J17  _ _ _ _  hZ (lv_sub hl [] rfl) h1
noncomputable def FX3_readNumber_b43 (x3 : Int32) (σ : zS) : Option (Int32 × zS) := some (x3, σ)
noncomputable def FX3_readNumber_b31 (k0 : Nat) (x3 : Int32) (σ : zS) : Option (Int32 × zS) := zbd (FX3_fail k0 2 σ) (fun _ σ_1 => FX3_readNumber_b43 x3 σ_1)
noncomputable def FX3_readNumber (k0 : Nat) (x1 : Int32) (x2 : Int32) (σ : zS) : Option (Int32 × zS) := zlet (σ k0 6) (fun x3_3 => if (σ k0 3) = 2 then if x3_3 < x1 then FX3_readNumber_b31 k0 x3_3 σ else if x3_3 ≤ x2 then zbd (FX3_readToken k0 σ) (fun _ σ_4 => FX3_readNumber_b43 x3_3 σ_4) else FX3_readNumber_b31 k0 x3_3 σ else zbd (FX3_fail k0 1 σ) (fun _ σ_6 => FX3_readNumber_b43 x3_3 σ_6))
set_option maxHeartbeats 4000000 in
set_option maxRecDepth 100000 in
theorem kX3_readNumber (l : Launch) {V : zV} {σ : zS} {t0 : Int32 × zS} {k0 : Nat} {x1 : Int32} {x2 : Int32} (hk0 : kd 0 k0 = 3) (h1 : FX3_readNumber k0 x1 x2 σ = some t0) : zMi l yX3_readNumber cX3_readNumber 4 (some .int) 2 43 0 V σ t0 [.ref (zad V k0), .int x1, .int x2] := by
  refine zMi_of (by decide) (Nat.le_of_ble_eq_true rfl) ?_
  intro p e s m below meth c A C0 hr hlk hZ ls hl
  generalize ([.ref (zad V k0), .int x1, .int x2] : List Value).toArray = args at C0 ⊢
  obtain ⟨Q, hQ⟩ : ∃ Q, Q = MQ below (zQi 0 V t0 A) args s 0 0 A := ⟨_, rfl⟩
  rw [← hQ]
  have hx := C0.1
  have hb := C0.2.1
  have hl : lv_has ls 4 [(0, .ref (zad V k0)), (1, .int x1), (2, .int x2)] := hl
  unfold FX3_readNumber at h1
  have J43 : ∀ (x3 : Int32) (σ : zS) (H : Heap) (locs : List Loc) (ls : Array Slot), zZ 0 V A σ s H locs → lv_has ls 4 [(3, .int x3)] → FX3_readNumber_b43 x3 σ = some t0 → W p l e (zrm 2 43) s m args below meth c H locs 0 0 Q (F0 m 43 ls []) := by
    intro x3 σ H locs ls  hZ hl h1
    unfold FX3_readNumber_b43 at h1
    refine lv_iload_n hx hb dX3_readNumber_43 rfl (lv_at hl 0 rfl) ?_
    rw [hQ]; exact z_iret C0 hr hlk hZ h1 dX3_readNumber_44
  have J31 : ∀ (x3 : Int32) (σ : zS) (H : Heap) (locs : List Loc) (ls : Array Slot), zZ 0 V A σ s H locs → lv_has ls 4 [(0, .ref (zad V k0)), (3, .int x3)] → FX3_readNumber_b31 k0 x3 σ = some t0 → W p l e (zrm 2 43) s m args below meth c H locs 0 0 Q (F0 m 31 ls []) := by
    intro x3 σ H locs ls  hZ hl h1
    unfold FX3_readNumber_b31 at h1
    refine lv_aload_n hx hb dX3_readNumber_31 rfl (lv_at hl 0 rfl) ?_
    refine lv_iconst (v := 2) hx hb dX3_readNumber_32 (by decide) ?_
    refine z_cVv (As := [.int 2]) (rest := []) C0 hZ h1 (fun _ hf => kX3_fail l hk0 hf) mRX3_136 vX3_fail hk0 rfl rfl hl.1 (Nat.le_of_ble_eq_true rfl) ⟨Nat.le_of_ble_eq_true rfl, Nat.le_of_ble_eq_true rfl⟩ dX3_readNumber_33 ⟨Nat.le_of_ble_eq_true rfl, Nat.le_of_ble_eq_true rfl⟩ (fun _ σ_1 H locs h1 hZ => ?_)
    refine lv_goto (tgt := 43) hx hb dX3_readNumber_36 (by decide) ?_
    exact J43 x3 _ _ _ _  hZ (lv_sub hl [1] rfl) h1
  refine lv_aload_n hx hb dX3_readNumber_0 rfl (lv_at hl 0 rfl) ?_
  refine z_geti C0 hZ hk0 fRX3_35 rfl dX3_readNumber_1 ?_
  refine z_istore_n C0 h1 hl (fun x3_3 => [(3, .int x3_3), (0, .ref (zad V k0)), (1, .int x1), (2, .int x2)]) dX3_readNumber_4 rfl (by decide) (fun _ => rfl) (fun x3_3 ls h1 hl => ?_)
  refine lv_aload_n hx hb dX3_readNumber_5 rfl (lv_at hl 1 rfl) ?_
  refine z_geti C0 hZ hk0 fRX3_26 rfl dX3_readNumber_6 ?_
  refine lv_iconst (v := 2) hx hb dX3_readNumber_9 (by decide) ?_
  refine z_ic_eq (tgt := 21) C0 h1 dX3_readNumber_10 (by decide) (fun h1 => ?_) (fun h1 => ?_)
  · refine lv_iload_n hx hb dX3_readNumber_21 rfl (lv_at hl 0 rfl) ?_
    refine lv_iload_n hx hb dX3_readNumber_22 rfl (lv_at hl 2 rfl) ?_
    refine z_ic_lt (tgt := 31) C0 h1 dX3_readNumber_23 (by decide) (fun h1 => ?_) (fun h1 => ?_)
    · exact J31 x3_3 _ _ _ _  hZ (lv_sub hl [1, 0] rfl) h1
    refine lv_iload_n hx hb dX3_readNumber_26 rfl (lv_at hl 0 rfl) ?_
    refine lv_iload_n hx hb dX3_readNumber_27 rfl (lv_at hl 3 rfl) ?_
    refine z_ic_le (tgt := 39) C0 h1 dX3_readNumber_28 (by decide) (fun h1 => ?_) (fun h1 => ?_)
    · refine lv_aload_n hx hb dX3_readNumber_39 rfl (lv_at hl 1 rfl) ?_
      refine z_cVv (As := []) (rest := []) C0 hZ h1 (fun _ hf => kX3_readToken l hk0 hf) mRX3_50 vX3_readToken hk0 rfl rfl hl.1 (Nat.le_of_ble_eq_true rfl) ⟨Nat.le_of_ble_eq_true rfl, Nat.le_of_ble_eq_true rfl⟩ dX3_readNumber_40 ⟨Nat.le_of_ble_eq_true rfl, Nat.le_of_ble_eq_true rfl⟩ (fun _ σ_4 H locs h1 hZ => ?_)
      exact J43 x3_3 _ _ _ _  hZ (lv_sub hl [0] rfl) h1
    exact J31 x3_3 _ _ _ _  hZ (lv_sub hl [1, 0] rfl) h1
  refine lv_aload_n hx hb dX3_readNumber_13 rfl (lv_at hl 1 rfl) ?_
  refine lv_iconst (v := 1) hx hb dX3_readNumber_14 (by decide) ?_
  refine z_cVv (As := [.int 1]) (rest := []) C0 hZ h1 (fun _ hf => kX3_fail l hk0 hf) mRX3_136 vX3_fail hk0 rfl rfl hl.1 (Nat.le_of_ble_eq_true rfl) ⟨Nat.le_of_ble_eq_true rfl, Nat.le_of_ble_eq_true rfl⟩ dX3_readNumber_15 ⟨Nat.le_of_ble_eq_true rfl, Nat.le_of_ble_eq_true rfl⟩ (fun _ σ_6 H locs h1 hZ => ?_)
  refine lv_goto (tgt := 43) hx hb dX3_readNumber_18 (by decide) ?_
  exact J43 x3_3 _ _ _ _  hZ (lv_sub hl [0] rfl) h1
noncomputable def FX3_aisleHere_b56 (k0 : Nat) (σ : zS) : Option (Int32 × zS) := some ((σ k0 6), σ)
noncomputable def FX3_aisleHere (k0 : Nat) (σ : zS) : Option (Int32 × zS) := if (σ k0 3) = 2 then if (σ k0 6) ≤ 9999 then zgd (kd 0 (σ k0 1).toNatClampNeg == 5) (zlet (σ k0 1).toNatClampNeg (fun q_1 => zbd (FX1_hasAisle (q_1 + 1) (σ k0 6) σ) (fun r_3 σ_2 => if r_3 = 0 then zbd (FX3_fail k0 3 σ_2) (fun _ σ_4 => FX3_aisleHere_b56 k0 σ_4) else FX3_aisleHere_b56 k0 σ_2))) else zbd (FX3_fail k0 2 σ) (fun _ σ_6 => FX3_aisleHere_b56 k0 σ_6) else zbd (FX3_fail k0 1 σ) (fun _ σ_8 => FX3_aisleHere_b56 k0 σ_8)
set_option maxHeartbeats 4000000 in
set_option maxRecDepth 100000 in
theorem kX3_aisleHere (l : Launch) {V : zV} {σ : zS} {t0 : Int32 × zS} {k0 : Nat} (hk0 : kd 0 k0 = 3) (h1 : FX3_aisleHere k0 σ = some t0) : zMi l yX3_aisleHere cX3_aisleHere 1 (some .int) 1 21 0 V σ t0 [.ref (zad V k0)] := by
  refine zMi_of (by decide) (Nat.le_of_ble_eq_true rfl) ?_
  intro p e s m below meth c A C0 hr hlk hZ ls hl
  generalize ([.ref (zad V k0)] : List Value).toArray = args at C0 ⊢
  obtain ⟨Q, hQ⟩ : ∃ Q, Q = MQ below (zQi 0 V t0 A) args s 0 0 A := ⟨_, rfl⟩
  rw [← hQ]
  have hx := C0.1
  have hb := C0.2.1
  have hl : lv_has ls 1 [(0, .ref (zad V k0))] := hl
  unfold FX3_aisleHere at h1
  have J56 : ∀  (σ : zS) (H : Heap) (locs : List Loc) (ls : Array Slot), zZ 0 V A σ s H locs → lv_has ls 1 [(0, .ref (zad V k0))] → FX3_aisleHere_b56 k0 σ = some t0 → W p l e (zrm 1 21) s m args below meth c H locs 0 0 Q (F0 m 56 ls []) := by
    intro  σ H locs ls  hZ hl h1
    unfold FX3_aisleHere_b56 at h1
    refine lv_aload_n hx hb dX3_aisleHere_56 rfl (lv_at hl 0 rfl) ?_
    refine z_geti C0 hZ hk0 fRX3_35 rfl dX3_aisleHere_57 ?_
    rw [hQ]; exact z_iret C0 hr hlk hZ h1 dX3_aisleHere_60
  refine lv_aload_n hx hb dX3_aisleHere_0 rfl (lv_at hl 0 rfl) ?_
  refine z_geti C0 hZ hk0 fRX3_26 rfl dX3_aisleHere_1 ?_
  refine lv_iconst (v := 2) hx hb dX3_aisleHere_4 (by decide) ?_
  refine z_ic_eq (tgt := 16) C0 h1 dX3_aisleHere_5 (by decide) (fun h1 => ?_) (fun h1 => ?_)
  · refine lv_aload_n hx hb dX3_aisleHere_16 rfl (lv_at hl 0 rfl) ?_
    refine z_geti C0 hZ hk0 fRX3_35 rfl dX3_aisleHere_17 ?_
    refine lv_sipush (v := 9999) hx hb dX3_aisleHere_20 (by decide) ?_
    refine z_ic_le (tgt := 34) C0 h1 dX3_aisleHere_23 (by decide) (fun h1 => ?_) (fun h1 => ?_)
    · refine lv_aload_n hx hb dX3_aisleHere_34 rfl (lv_at hl 0 rfl) ?_
      refine z_getm C0 hZ h1 hk0 fRX3_18 rfl dX3_aisleHere_35 (fun q_1 hq_1 h1 => ?_)
      refine z_getr C0 hZ hq_1 fRX3_56 rfl dX3_aisleHere_38 ?_
      refine lv_aload_n hx hb dX3_aisleHere_41 rfl (lv_at hl 0 rfl) ?_
      refine z_geti C0 hZ hk0 fRX3_35 rfl dX3_aisleHere_42 ?_
      refine z_cVi (As := [.int (σ k0 6)]) (rest := []) C0 hZ h1 (fun _ hf => kX1_hasAisle l (zkt5_0 hq_1) hf) mRX3_153 vX1_hasAisle (zkt5_0 hq_1) rfl rfl hl.1 (Nat.le_of_ble_eq_true rfl) ⟨Nat.le_of_ble_eq_true rfl, Nat.le_of_ble_eq_true rfl⟩ dX3_aisleHere_45 ⟨Nat.le_of_ble_eq_true rfl, Nat.le_of_ble_eq_true rfl⟩ (fun r_3 σ_2 H locs h1 hZ => ?_)
      refine z_if_ne (tgt := 56) C0 h1 dX3_aisleHere_48 (by decide) (fun h1 => ?_) (fun h1 => ?_)
      · exact J56  _ _ _ _  hZ (lv_sub hl [0] rfl) h1
      refine lv_aload_n hx hb dX3_aisleHere_51 rfl (lv_at hl 0 rfl) ?_
      refine lv_iconst (v := 3) hx hb dX3_aisleHere_52 (by decide) ?_
      refine z_cVv (As := [.int 3]) (rest := []) C0 hZ h1 (fun _ hf => kX3_fail l hk0 hf) mRX3_136 vX3_fail hk0 rfl rfl hl.1 (Nat.le_of_ble_eq_true rfl) ⟨Nat.le_of_ble_eq_true rfl, Nat.le_of_ble_eq_true rfl⟩ dX3_aisleHere_53 ⟨Nat.le_of_ble_eq_true rfl, Nat.le_of_ble_eq_true rfl⟩ (fun _ σ_4 H locs h1 hZ => ?_)
      exact J56  _ _ _ _  hZ (lv_sub hl [0] rfl) h1
    refine lv_aload_n hx hb dX3_aisleHere_26 rfl (lv_at hl 0 rfl) ?_
    refine lv_iconst (v := 2) hx hb dX3_aisleHere_27 (by decide) ?_
    refine z_cVv (As := [.int 2]) (rest := []) C0 hZ h1 (fun _ hf => kX3_fail l hk0 hf) mRX3_136 vX3_fail hk0 rfl rfl hl.1 (Nat.le_of_ble_eq_true rfl) ⟨Nat.le_of_ble_eq_true rfl, Nat.le_of_ble_eq_true rfl⟩ dX3_aisleHere_28 ⟨Nat.le_of_ble_eq_true rfl, Nat.le_of_ble_eq_true rfl⟩ (fun _ σ_6 H locs h1 hZ => ?_)
    refine lv_goto (tgt := 56) hx hb dX3_aisleHere_31 (by decide) ?_
    exact J56  _ _ _ _  hZ (lv_sub hl [0] rfl) h1
  refine lv_aload_n hx hb dX3_aisleHere_8 rfl (lv_at hl 0 rfl) ?_
  refine lv_iconst (v := 1) hx hb dX3_aisleHere_9 (by decide) ?_
  refine z_cVv (As := [.int 1]) (rest := []) C0 hZ h1 (fun _ hf => kX3_fail l hk0 hf) mRX3_136 vX3_fail hk0 rfl rfl hl.1 (Nat.le_of_ble_eq_true rfl) ⟨Nat.le_of_ble_eq_true rfl, Nat.le_of_ble_eq_true rfl⟩ dX3_aisleHere_10 ⟨Nat.le_of_ble_eq_true rfl, Nat.le_of_ble_eq_true rfl⟩ (fun _ σ_8 H locs h1 hZ => ?_)
  refine lv_goto (tgt := 56) hx hb dX3_aisleHere_13 (by decide) ?_
  exact J56  _ _ _ _  hZ (lv_sub hl [0] rfl) h1
noncomputable def FX3_readRoute_b135 (x2 : Int32) (σ : zS) : Option (Int32 × zS) := some (x2, σ)
noncomputable def FX3_readRoute_b129 (k0 : Nat) (x1 : Int32) (x2 : Int32) (x3 : Int32) (x4 : Int32) (σ : zS) : Option ((Int32 × Int32 × Int32 × zS) ⊕ (Int32 × zS)) := zlet (x4 + 1) (fun x4_1 => some (.inl (x2, x3, x4_1, σ)))
noncomputable def FX3_readRoute_b91 (k0 : Nat) (x1 : Int32) (x2 : Int32) (x3 : Int32) (x4 : Int32) (x5 : Int32) (σ : zS) : Option ((Int32 × Int32 × Int32 × zS) ⊕ (Int32 × zS)) := if (σ k0 8) = 0 then zgd (kd 0 (σ k0 1).toNatClampNeg == 5) (zlet (σ k0 1).toNatClampNeg (fun q_2 => zbd (FX7_put ((q_2 + 7) + 6) ((x1 * 12) + x2) x5 σ) (fun _ σ_3 => zlet x5 (fun x3_5 => zlet (x2 + 1) (fun x2_6 => zbd (FX3_readToken k0 σ_3) (fun _ σ_7 => FX3_readRoute_b129 k0 x1 x2_6 x3_5 x4 σ_7)))))) else FX3_readRoute_b129 k0 x1 x2 x3 x4 σ
noncomputable def FX3_readRoute_b78 (k0 : Nat) (x1 : Int32) (x2 : Int32) (x3 : Int32) (x4 : Int32) (x5 : Int32) (y0 : Int32) (σ : zS) : Option ((Int32 × Int32 × Int32 × zS) ⊕ (Int32 × zS)) := zlet y0 (fun x6_9 => if x6_9 = 0 then zbd (FX3_fail k0 6 σ) (fun _ σ_10 => FX3_readRoute_b91 k0 x1 x2 x3 x4 x5 σ_10) else FX3_readRoute_b91 k0 x1 x2 x3 x4 x5 σ)
noncomputable def FX3_readRoute_b73 (k0 : Nat) (x1 : Int32) (x2 : Int32) (x3 : Int32) (x4 : Int32) (x5 : Int32) (σ : zS) : Option ((Int32 × Int32 × Int32 × zS) ⊕ (Int32 × zS)) := FX3_readRoute_b78 k0 x1 x2 x3 x4 x5 1 σ
noncomputable def FX3_readRoute_b77 (k0 : Nat) (x1 : Int32) (x2 : Int32) (x3 : Int32) (x4 : Int32) (x5 : Int32) (σ : zS) : Option ((Int32 × Int32 × Int32 × zS) ⊕ (Int32 × zS)) := FX3_readRoute_b78 k0 x1 x2 x3 x4 x5 0 σ
noncomputable def FX3_readRoute_b41 (k0 : Nat) (x1 : Int32) (x2 : Int32) (x3 : Int32) (x4 : Int32) (σ : zS) : Option ((Int32 × Int32 × Int32 × zS) ⊕ (Int32 × zS)) := zbd (FX3_aisleHere k0 σ) (fun r_13 σ_12 => zlet r_13 (fun x5_14 => if x5_14 = x3 then FX3_readRoute_b73 k0 x1 x2 x3 x4 x5_14 σ_12 else if x2 ≤ 0 then FX3_readRoute_b77 k0 x1 x2 x3 x4 x5_14 σ_12 else zgd (kd 0 (σ_12 k0 1).toNatClampNeg == 5) (zlet (σ_12 k0 1).toNatClampNeg (fun q_15 => zbd (FX1_joins (q_15 + 1) x3 x5_14 σ_12) (fun r_17 σ_16 => if r_17 = 0 then FX3_readRoute_b77 k0 x1 x2 x3 x4 x5_14 σ_16 else FX3_readRoute_b73 k0 x1 x2 x3 x4 x5_14 σ_16)))))
noncomputable def FX3_readRoute_L7 (k0 : Nat) (x1 : Int32) (x2 : Int32) (x3 : Int32) (x4 : Int32) (σ : zS) : Option ((Int32 × Int32 × Int32 × zS) ⊕ (Int32 × zS)) := if 12 < x4 then zinr (FX3_readRoute_b135 x2 σ) else if (σ k0 8) = 0 then if (σ k0 3) = 2 then if x4 = 12 then zbd (FX3_fail k0 2 σ) (fun _ σ_18 => FX3_readRoute_b41 k0 x1 x2 x3 x4 σ_18) else FX3_readRoute_b41 k0 x1 x2 x3 x4 σ else zinr (FX3_readRoute_b135 x2 σ) else zinr (FX3_readRoute_b135 x2 σ)
noncomputable def FX3_readRoute (k0 : Nat) (x1 : Int32) (σ : zS) : Option (Int32 × zS) := zlet 0 (fun x2_20 => zlet 0 (fun x3_21 => zlet 0 (fun x4_22 => zlp (fun q => FX3_readRoute_L7 k0 x1 q.1 q.2.1 q.2.2.1 q.2.2.2) (x2_20, x3_21, x4_22, σ))))
set_option maxHeartbeats 4000000 in
set_option maxRecDepth 100000 in
theorem kX3_readRoute (l : Launch) {V : zV} {σ : zS} {t0 : Int32 × zS} {k0 : Nat} {x1 : Int32} (hk0 : kd 0 k0 = 3) (h1 : FX3_readRoute k0 x1 σ = some t0) : zMi l yX3_readRoute cX3_readRoute 7 (some .int) 2 43 0 V σ t0 [.ref (zad V k0), .int x1] := by
  refine zMi_of (by decide) (Nat.le_of_ble_eq_true rfl) ?_
  intro p e s m below meth c A C0 hr hlk hZ ls hl
  generalize ([.ref (zad V k0), .int x1] : List Value).toArray = args at C0 ⊢
  obtain ⟨Q, hQ⟩ : ∃ Q, Q = MQ below (zQi 0 V t0 A) args s 0 0 A := ⟨_, rfl⟩
  rw [← hQ]
  have hx := C0.1
  have hb := C0.2.1
  have hl : lv_has ls 7 [(0, .ref (zad V k0)), (1, .int x1)] := hl
  unfold FX3_readRoute at h1
  have J135 : ∀ (x2 : Int32) (σ : zS) (H : Heap) (locs : List Loc) (ls : Array Slot), zZ 0 V A σ s H locs → lv_has ls 7 [(2, .int x2)] → FX3_readRoute_b135 x2 σ = some t0 → W p l e (zrm 2 43) s m args below meth c H locs 0 0 Q (F0 m 135 ls []) := by
    intro x2 σ H locs ls  hZ hl h1
    unfold FX3_readRoute_b135 at h1
    refine lv_iload_n hx hb dX3_readRoute_135 rfl (lv_at hl 0 rfl) ?_
    rw [hQ]; exact z_iret C0 hr hlk hZ h1 dX3_readRoute_136
  have J7 : ∀ (n : Nat) (x2 : Int32) (x3 : Int32) (x4 : Int32) (σ : zS) (H : Heap) (locs : List Loc) (ls : Array Slot), zZ 0 V A σ s H locs → lv_has ls 7 [(0, .ref (zad V k0)), (1, .int x1), (2, .int x2), (3, .int x3), (4, .int x4)] → zit (fun q => FX3_readRoute_L7 k0 x1 q.1 q.2.1 q.2.2.1 q.2.2.2) n (x2, x3, x4, σ) = some t0 → W p l e (zrm 2 43) s m args below meth c H locs 0 0 Q (F0 m 7 ls []) := by
    intro n
    induction n with
    | zero => intro x2 x3 x4 σ H locs ls  _ _ h1; cases h1
    | succ n ih7 =>
      intro x2 x3 x4 σ H locs ls  hZ hl h1
      obtain ⟨t1, h1, hz1⟩ := zit_1 h1
      have J129 : ∀ (x2 : Int32) (x3 : Int32) (x4 : Int32) (σ : zS) (H : Heap) (locs : List Loc) (ls : Array Slot), zZ 0 V A σ s H locs → lv_has ls 7 [(0, .ref (zad V k0)), (1, .int x1), (2, .int x2), (3, .int x3), (4, .int x4)] → FX3_readRoute_b129 k0 x1 x2 x3 x4 σ = some t1 → W p l e (zrm 2 43) s m args below meth c H locs 0 0 Q (F0 m 129 ls []) := by
        intro x2 x3 x4 σ H locs ls  hZ hl h1
        unfold FX3_readRoute_b129 at h1
        refine z_iinc (v := 1) C0 h1 hl (fun x4_1 => [(4, .int x4_1), (0, .ref (zad V k0)), (1, .int x1), (2, .int x2), (3, .int x3)]) dX3_readRoute_129 (k := 4) rfl (by decide) (by decide) (fun _ => rfl) (fun x4_1 ls h1 hl => ?_)
        refine lv_goto (tgt := 7) hx hb dX3_readRoute_132 (by decide) ?_
        exact ih7 x2 x3 x4_1 _ _ _ _  hZ (lv_sub hl [1, 2, 3, 4, 0] rfl) (zback h1 hz1)
      have J91 : ∀ (x2 : Int32) (x3 : Int32) (x4 : Int32) (x5 : Int32) (σ : zS) (H : Heap) (locs : List Loc) (ls : Array Slot), zZ 0 V A σ s H locs → lv_has ls 7 [(0, .ref (zad V k0)), (1, .int x1), (2, .int x2), (3, .int x3), (4, .int x4), (5, .int x5)] → FX3_readRoute_b91 k0 x1 x2 x3 x4 x5 σ = some t1 → W p l e (zrm 2 43) s m args below meth c H locs 0 0 Q (F0 m 91 ls []) := by
        intro x2 x3 x4 x5 σ H locs ls  hZ hl h1
        unfold FX3_readRoute_b91 at h1
        refine lv_aload_n hx hb dX3_readRoute_91 rfl (lv_at hl 0 rfl) ?_
        refine z_geti C0 hZ hk0 fRX3_41 rfl dX3_readRoute_92 ?_
        refine z_if_ne (tgt := 129) C0 h1 dX3_readRoute_95 (by decide) (fun h1 => ?_) (fun h1 => ?_)
        · exact J129 x2 x3 x4 _ _ _ _  hZ (lv_sub hl [0, 1, 2, 3, 4] rfl) h1
        refine lv_aload_n hx hb dX3_readRoute_98 rfl (lv_at hl 0 rfl) ?_
        refine z_getm C0 hZ h1 hk0 fRX3_18 rfl dX3_readRoute_99 (fun q_2 hq_2 h1 => ?_)
        refine z_getr C0 hZ hq_2 fRX3_195 rfl dX3_readRoute_102 ?_
        refine z_getr C0 hZ (zkt5_1 hq_2) fRX3_226 rfl dX3_readRoute_105 ?_
        refine lv_iload_n hx hb dX3_readRoute_108 rfl (lv_at hl 1 rfl) ?_
        refine lv_bipush (v := 12) hx hb dX3_readRoute_109 (by decide) ?_
        refine lv_imul hx hb dX3_readRoute_111 ?_
        refine lv_iload_n hx hb dX3_readRoute_112 rfl (lv_at hl 2 rfl) ?_
        refine lv_iadd hx hb dX3_readRoute_113 ?_
        refine lv_iload hx hb dX3_readRoute_114 (lv_at hl 5 rfl) ?_
        refine z_cSv (As := [.ref (zad V ((q_2 + 7) + 6)), .int ((x1 * 12) + x2), .int x5]) (rest := []) C0 hZ h1 (fun _ hf => kX7_put l (zkt2_6 (zkt5_1 hq_2)) hf) mRX3_207 sX7_put rfl rfl hl.1 (Nat.le_of_ble_eq_true rfl) ⟨Nat.le_of_ble_eq_true rfl, Nat.le_of_ble_eq_true rfl⟩ dX3_readRoute_116 ⟨Nat.le_of_ble_eq_true rfl, Nat.le_of_ble_eq_true rfl⟩ (fun _ σ_3 H locs h1 hZ => ?_)
        refine lv_iload hx hb dX3_readRoute_119 (lv_at hl 5 rfl) ?_
        refine z_istore_n C0 h1 hl (fun x3_5 => [(3, .int x3_5), (0, .ref (zad V k0)), (1, .int x1), (2, .int x2), (4, .int x4), (5, .int x5)]) dX3_readRoute_121 rfl (by decide) (fun _ => rfl) (fun x3_5 ls h1 hl => ?_)
        refine z_iinc (v := 1) C0 h1 hl (fun x2_6 => [(2, .int x2_6), (3, .int x3_5), (0, .ref (zad V k0)), (1, .int x1), (4, .int x4), (5, .int x5)]) dX3_readRoute_122 (k := 3) rfl (by decide) (by decide) (fun _ => rfl) (fun x2_6 ls h1 hl => ?_)
        refine lv_aload_n hx hb dX3_readRoute_125 rfl (lv_at hl 2 rfl) ?_
        refine z_cVv (As := []) (rest := []) C0 hZ h1 (fun _ hf => kX3_readToken l hk0 hf) mRX3_50 vX3_readToken hk0 rfl rfl hl.1 (Nat.le_of_ble_eq_true rfl) ⟨Nat.le_of_ble_eq_true rfl, Nat.le_of_ble_eq_true rfl⟩ dX3_readRoute_126 ⟨Nat.le_of_ble_eq_true rfl, Nat.le_of_ble_eq_true rfl⟩ (fun _ σ_7 H locs h1 hZ => ?_)
        exact J129 x2_6 x3_5 x4 _ _ _ _  hZ (lv_sub hl [2, 3, 0, 1, 4] rfl) h1
      have J78 : ∀ (x2 : Int32) (x3 : Int32) (x4 : Int32) (x5 : Int32) (y0 : Int32) (σ : zS) (H : Heap) (locs : List Loc) (ls : Array Slot), zZ 0 V A σ s H locs → lv_has ls 7 [(0, .ref (zad V k0)), (1, .int x1), (2, .int x2), (3, .int x3), (4, .int x4), (5, .int x5)] → FX3_readRoute_b78 k0 x1 x2 x3 x4 x5 y0 σ = some t1 → W p l e (zrm 2 43) s m args below meth c H locs 0 0 Q (F0 m 78 ls [.int y0]) := by
        intro x2 x3 x4 x5 y0 σ H locs ls  hZ hl h1
        unfold FX3_readRoute_b78 at h1
        refine z_istore C0 h1 hl (fun x6_9 => [(6, .int x6_9), (0, .ref (zad V k0)), (1, .int x1), (2, .int x2), (3, .int x3), (4, .int x4), (5, .int x5)]) dX3_readRoute_78 (by decide) (fun _ => rfl) (fun x6_9 ls h1 hl => ?_)
        refine lv_iload hx hb dX3_readRoute_80 (lv_at hl 0 rfl) ?_
        refine z_if_ne (tgt := 91) C0 h1 dX3_readRoute_82 (by decide) (fun h1 => ?_) (fun h1 => ?_)
        · exact J91 x2 x3 x4 x5 _ _ _ _  hZ (lv_sub hl [1, 2, 3, 4, 5, 6] rfl) h1
        refine lv_aload_n hx hb dX3_readRoute_85 rfl (lv_at hl 1 rfl) ?_
        refine lv_bipush (v := 6) hx hb dX3_readRoute_86 (by decide) ?_
        refine z_cVv (As := [.int 6]) (rest := []) C0 hZ h1 (fun _ hf => kX3_fail l hk0 hf) mRX3_136 vX3_fail hk0 rfl rfl hl.1 (Nat.le_of_ble_eq_true rfl) ⟨Nat.le_of_ble_eq_true rfl, Nat.le_of_ble_eq_true rfl⟩ dX3_readRoute_88 ⟨Nat.le_of_ble_eq_true rfl, Nat.le_of_ble_eq_true rfl⟩ (fun _ σ_10 H locs h1 hZ => ?_)
        exact J91 x2 x3 x4 x5 _ _ _ _  hZ (lv_sub hl [1, 2, 3, 4, 5, 6] rfl) h1
      have J73 : ∀ (x2 : Int32) (x3 : Int32) (x4 : Int32) (x5 : Int32) (σ : zS) (H : Heap) (locs : List Loc) (ls : Array Slot), zZ 0 V A σ s H locs → lv_has ls 7 [(0, .ref (zad V k0)), (1, .int x1), (2, .int x2), (3, .int x3), (4, .int x4), (5, .int x5)] → FX3_readRoute_b73 k0 x1 x2 x3 x4 x5 σ = some t1 → W p l e (zrm 2 43) s m args below meth c H locs 0 0 Q (F0 m 73 ls []) := by
        intro x2 x3 x4 x5 σ H locs ls  hZ hl h1
        unfold FX3_readRoute_b73 at h1
        refine lv_iconst (v := 1) hx hb dX3_readRoute_73 (by decide) ?_
        refine lv_goto (tgt := 78) hx hb dX3_readRoute_74 (by decide) ?_
        exact J78 x2 x3 x4 x5 1 _ _ _ _  hZ (lv_sub hl [0, 1, 2, 3, 4, 5] rfl) h1
      have J77 : ∀ (x2 : Int32) (x3 : Int32) (x4 : Int32) (x5 : Int32) (σ : zS) (H : Heap) (locs : List Loc) (ls : Array Slot), zZ 0 V A σ s H locs → lv_has ls 7 [(0, .ref (zad V k0)), (1, .int x1), (2, .int x2), (3, .int x3), (4, .int x4), (5, .int x5)] → FX3_readRoute_b77 k0 x1 x2 x3 x4 x5 σ = some t1 → W p l e (zrm 2 43) s m args below meth c H locs 0 0 Q (F0 m 77 ls []) := by
        intro x2 x3 x4 x5 σ H locs ls  hZ hl h1
        unfold FX3_readRoute_b77 at h1
        refine lv_iconst (v := 0) hx hb dX3_readRoute_77 (by decide) ?_
        exact J78 x2 x3 x4 x5 0 _ _ _ _  hZ (lv_sub hl [0, 1, 2, 3, 4, 5] rfl) h1
      have J41 : ∀ (x2 : Int32) (x3 : Int32) (x4 : Int32) (σ : zS) (H : Heap) (locs : List Loc) (ls : Array Slot), zZ 0 V A σ s H locs → lv_has ls 7 [(0, .ref (zad V k0)), (1, .int x1), (2, .int x2), (3, .int x3), (4, .int x4)] → FX3_readRoute_b41 k0 x1 x2 x3 x4 σ = some t1 → W p l e (zrm 2 43) s m args below meth c H locs 0 0 Q (F0 m 41 ls []) := by
        intro x2 x3 x4 σ H locs ls  hZ hl h1
        unfold FX3_readRoute_b41 at h1
        refine lv_aload_n hx hb dX3_readRoute_41 rfl (lv_at hl 0 rfl) ?_
        refine z_cVi (As := []) (rest := []) C0 hZ h1 (fun _ hf => kX3_aisleHere l hk0 hf) mRX3_173 vX3_aisleHere hk0 rfl rfl hl.1 (Nat.le_of_ble_eq_true rfl) ⟨Nat.le_of_ble_eq_true rfl, Nat.le_of_ble_eq_true rfl⟩ dX3_readRoute_42 ⟨Nat.le_of_ble_eq_true rfl, Nat.le_of_ble_eq_true rfl⟩ (fun r_13 σ_12 H locs h1 hZ => ?_)
        refine z_istore C0 h1 hl (fun x5_14 => [(5, .int x5_14), (0, .ref (zad V k0)), (1, .int x1), (2, .int x2), (3, .int x3), (4, .int x4)]) dX3_readRoute_45 (by decide) (fun _ => rfl) (fun x5_14 ls h1 hl => ?_)
        refine lv_iload hx hb dX3_readRoute_47 (lv_at hl 0 rfl) ?_
        refine lv_iload_n hx hb dX3_readRoute_49 rfl (lv_at hl 4 rfl) ?_
        refine z_ic_eq (tgt := 73) C0 h1 dX3_readRoute_50 (by decide) (fun h1 => ?_) (fun h1 => ?_)
        · exact J73 x2 x3 x4 x5_14 _ _ _ _  hZ (lv_sub hl [1, 2, 3, 4, 5, 0] rfl) h1
        refine lv_iload_n hx hb dX3_readRoute_53 rfl (lv_at hl 3 rfl) ?_
        refine z_if_le (tgt := 77) C0 h1 dX3_readRoute_54 (by decide) (fun h1 => ?_) (fun h1 => ?_)
        · exact J77 x2 x3 x4 x5_14 _ _ _ _  hZ (lv_sub hl [1, 2, 3, 4, 5, 0] rfl) h1
        refine lv_aload_n hx hb dX3_readRoute_57 rfl (lv_at hl 1 rfl) ?_
        refine z_getm C0 hZ h1 hk0 fRX3_18 rfl dX3_readRoute_58 (fun q_15 hq_15 h1 => ?_)
        refine z_getr C0 hZ hq_15 fRX3_56 rfl dX3_readRoute_61 ?_
        refine lv_iload_n hx hb dX3_readRoute_64 rfl (lv_at hl 4 rfl) ?_
        refine lv_iload hx hb dX3_readRoute_65 (lv_at hl 0 rfl) ?_
        refine z_cVi (As := [.int x3, .int x5_14]) (rest := []) C0 hZ h1 (fun _ hf => kX1_joins l (zkt5_0 hq_15) hf) mRX3_176 vX1_joins (zkt5_0 hq_15) rfl rfl hl.1 (Nat.le_of_ble_eq_true rfl) ⟨Nat.le_of_ble_eq_true rfl, Nat.le_of_ble_eq_true rfl⟩ dX3_readRoute_67 ⟨Nat.le_of_ble_eq_true rfl, Nat.le_of_ble_eq_true rfl⟩ (fun r_17 σ_16 H locs h1 hZ => ?_)
        refine z_if_eq (tgt := 77) C0 h1 dX3_readRoute_70 (by decide) (fun h1 => ?_) (fun h1 => ?_)
        · exact J77 x2 x3 x4 x5_14 _ _ _ _  hZ (lv_sub hl [1, 2, 3, 4, 5, 0] rfl) h1
        exact J73 x2 x3 x4 x5_14 _ _ _ _  hZ (lv_sub hl [1, 2, 3, 4, 5, 0] rfl) h1
      replace h1 : FX3_readRoute_L7 k0 x1 x2 x3 x4 σ = some t1 := h1
      unfold FX3_readRoute_L7 at h1
      refine lv_iload hx hb dX3_readRoute_7 (lv_at hl 4 rfl) ?_
      refine lv_bipush (v := 12) hx hb dX3_readRoute_9 (by decide) ?_
      refine z_ic_gt (tgt := 135) C0 h1 dX3_readRoute_11 (by decide) (fun h1 => ?_) (fun h1 => ?_)
      · have h1 := zout h1 hz1
        exact J135 x2 _ _ _ _  hZ (lv_sub hl [2] rfl) h1
      refine lv_aload_n hx hb dX3_readRoute_14 rfl (lv_at hl 0 rfl) ?_
      refine z_geti C0 hZ hk0 fRX3_41 rfl dX3_readRoute_15 ?_
      refine z_if_ne (tgt := 135) C0 h1 dX3_readRoute_18 (by decide) (fun h1 => ?_) (fun h1 => ?_)
      · have h1 := zout h1 hz1
        exact J135 x2 _ _ _ _  hZ (lv_sub hl [2] rfl) h1
      refine lv_aload_n hx hb dX3_readRoute_21 rfl (lv_at hl 0 rfl) ?_
      refine z_geti C0 hZ hk0 fRX3_26 rfl dX3_readRoute_22 ?_
      refine lv_iconst (v := 2) hx hb dX3_readRoute_25 (by decide) ?_
      refine z_ic_ne (tgt := 135) C0 h1 dX3_readRoute_26 (by decide) (fun h1 => ?_) (fun h1 => ?_)
      · have h1 := zout h1 hz1
        exact J135 x2 _ _ _ _  hZ (lv_sub hl [2] rfl) h1
      refine lv_iload hx hb dX3_readRoute_29 (lv_at hl 4 rfl) ?_
      refine lv_bipush (v := 12) hx hb dX3_readRoute_31 (by decide) ?_
      refine z_ic_ne (tgt := 41) C0 h1 dX3_readRoute_33 (by decide) (fun h1 => ?_) (fun h1 => ?_)
      · exact J41 x2 x3 x4 _ _ _ _  hZ (lv_sub hl [0, 1, 2, 3, 4] rfl) h1
      refine lv_aload_n hx hb dX3_readRoute_36 rfl (lv_at hl 0 rfl) ?_
      refine lv_iconst (v := 2) hx hb dX3_readRoute_37 (by decide) ?_
      refine z_cVv (As := [.int 2]) (rest := []) C0 hZ h1 (fun _ hf => kX3_fail l hk0 hf) mRX3_136 vX3_fail hk0 rfl rfl hl.1 (Nat.le_of_ble_eq_true rfl) ⟨Nat.le_of_ble_eq_true rfl, Nat.le_of_ble_eq_true rfl⟩ dX3_readRoute_38 ⟨Nat.le_of_ble_eq_true rfl, Nat.le_of_ble_eq_true rfl⟩ (fun _ σ_18 H locs h1 hZ => ?_)
      exact J41 x2 x3 x4 _ _ _ _  hZ (lv_sub hl [0, 1, 2, 3, 4] rfl) h1
  refine lv_iconst (v := 0) hx hb dX3_readRoute_0 (by decide) ?_
  refine z_istore_n C0 h1 hl (fun x2_20 => [(2, .int x2_20), (0, .ref (zad V k0)), (1, .int x1)]) dX3_readRoute_1 rfl (by decide) (fun _ => rfl) (fun x2_20 ls h1 hl => ?_)
  refine lv_iconst (v := 0) hx hb dX3_readRoute_2 (by decide) ?_
  refine z_istore_n C0 h1 hl (fun x3_21 => [(3, .int x3_21), (2, .int x2_20), (0, .ref (zad V k0)), (1, .int x1)]) dX3_readRoute_3 rfl (by decide) (fun _ => rfl) (fun x3_21 ls h1 hl => ?_)
  refine lv_iconst (v := 0) hx hb dX3_readRoute_4 (by decide) ?_
  refine z_istore C0 h1 hl (fun x4_22 => [(4, .int x4_22), (3, .int x3_21), (2, .int x2_20), (0, .ref (zad V k0)), (1, .int x1)]) dX3_readRoute_5 (by decide) (fun _ => rfl) (fun x4_22 ls h1 hl => ?_)
  obtain ⟨n, h1⟩ := zlp_iff.mp h1
  exact J7 n x2_20 x3_21 x4_22 _ _ _ _  hZ (lv_sub hl [3, 4, 2, 1, 0] rfl) h1
