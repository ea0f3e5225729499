noncomputable def FX8_game_b169 (y0 : Int32) (σ : zS) : Option (Int32 × zS) := some (y0, σ)
noncomputable def FX8_game_b158 (x4 : Int32) (σ : zS) : Option (Int32 × zS) := FX8_game_b169 x4 σ
noncomputable def FX8_game_b130 (k0 : Nat) (x1 : Int32) (x2 : Int32) (x3 : Int32) (x4 : Int32) (σ : zS) : Option (Int32 × zS) := if x1 = 0 then FX8_game_b169 x2 σ else if x1 = 1 then FX8_game_b169 x3 σ else if x1 = 2 then FX8_game_b158 x4 σ else if x4 = (-1) then FX8_game_b158 x4 σ else zbd (FX8_mostBy k0 x4 σ) (fun r_2 σ_1 => FX8_game_b169 r_2 σ_1)
noncomputable def FX8_game_b124 (k0 : Nat) (x1 : Int32) (x2 : Int32) (x3 : Int32) (x4 : Int32) (x5 : Int32) (σ : zS) : Option ((Int32 × Int32 × Int32 × Int32 × zS) ⊕ (Int32 × zS)) := zlet (x5 + 1) (fun x5_3 => some (.inl (x2, x3, x4, x5_3, σ)))
noncomputable def FX8_game_b120 (k0 : Nat) (x1 : Int32) (x2 : Int32) (x3 : Int32) (x5 : Int32) (σ : zS) : Option ((Int32 × Int32 × Int32 × Int32 × zS) ⊕ (Int32 × zS)) := zlet x5 (fun x4_4 => FX8_game_b124 k0 x1 x2 x3 x4_4 x5 σ)
noncomputable def FX8_game_b99 (k0 : Nat) (x1 : Int32) (x2 : Int32) (x3 : Int32) (x4 : Int32) (x5 : Int32) (σ : zS) : Option ((Int32 × Int32 × Int32 × Int32 × zS) ⊕ (Int32 × zS)) := if x4 = (-1) then FX8_game_b120 k0 x1 x2 x3 x5 σ else zbd (FX8_mostBy k0 x5 σ) (fun r_6 σ_5 => zbd (FX8_mostBy k0 x4 σ_5) (fun r_8 σ_7 => if r_8 ≤ r_6 then FX8_game_b124 k0 x1 x2 x3 x4 x5 σ_7 else FX8_game_b120 k0 x1 x2 x3 x5 σ_7))
noncomputable def FX8_game_b93 (k0 : Nat) (x1 : Int32) (x2 : Int32) (x3 : Int32) (x4 : Int32) (x5 : Int32) (x6 : Int32) (σ : zS) : Option ((Int32 × Int32 × Int32 × zS) ⊕ ((Int32 × Int32 × Int32 × Int32 × zS) ⊕ (Int32 × zS))) := zlet (x6 + 1) (fun x6_9 => some (.inl (x2, x3, x6_9, σ)))
noncomputable def FX8_game_b92 (k0 : Nat) (x1 : Int32) (x2 : Int32) (x4 : Int32) (x5 : Int32) (x6 : Int32) (y0 : Int32) (σ : zS) : Option ((Int32 × Int32 × Int32 × zS) ⊕ ((Int32 × Int32 × Int32 × Int32 × zS) ⊕ (Int32 × zS))) := zlet y0 (fun x3_10 => FX8_game_b93 k0 x1 x2 x3_10 x4 x5 x6 σ)
noncomputable def FX8_game_L47 (k0 : Nat) (x1 : Int32) (x4 : Int32) (x5 : Int32) (x2 : Int32) (x3 : Int32) (x6 : Int32) (σ : zS) : Option ((Int32 × Int32 × Int32 × zS) ⊕ ((Int32 × Int32 × Int32 × Int32 × zS) ⊕ (Int32 × zS))) := zin (ln 1 (k0 + 3)) 0 (if (σ (k0 + 3) (Int32.toNatClampNeg 0)) ≤ x6 then zinr (FX8_game_b99 k0 x1 x2 x3 x4 x5 σ) else zbd (FX8_rests k0 x5 x6 σ) (fun r_12 σ_11 => if r_12 = 0 then FX8_game_b93 k0 x1 x2 x3 x4 x5 x6 σ_11 else zlet (x2 + 1) (fun x2_13 => if x3 = (-1) then FX8_game_b92 k0 x1 x2_13 x4 x5 x6 ((10 * x5) + x6) σ_11 else FX8_game_b92 k0 x1 x2_13 x4 x5 x6 x3 σ_11)))
noncomputable def FX8_game_L33 (k0 : Nat) (x1 : Int32) (x2 : Int32) (x3 : Int32) (x4 : Int32) (x5 : Int32) (σ : zS) : Option ((Int32 × Int32 × Int32 × Int32 × zS) ⊕ (Int32 × zS)) := zin (ln 1 (k0 + 3)) 0 (if (σ (k0 + 3) (Int32.toNatClampNeg 0)) ≤ x5 then zinr (FX8_game_b130 k0 x1 x2 x3 x4 σ) else zlet 0 (fun x6_14 => zlp (fun q => FX8_game_L47 k0 x1 x4 x5 q.1 q.2.1 q.2.2.1 q.2.2.2) (x2, x3, x6_14, σ)))
noncomputable def FX8_game (k0 : Nat) (x1 : Int32) (σ : zS) : Option (Int32 × zS) := zlet (zup σ k0 2 0) (fun σ_15 => zbd (FX8_isIn (Int32.toInt64 x1) 0 3 σ_15) (fun r_17 σ_16 => if r_17 = 0 then zbd (FX8_fail k0 1 σ_16) (fun r_23 σ_22 => some (r_23, σ_22)) else zlet 0 (fun x2_18 => zlet (-1) (fun x3_19 => zlet (-1) (fun x4_20 => zlet 0 (fun x5_21 => zlp (fun q => FX8_game_L33 k0 x1 q.1 q.2.1 q.2.2.1 q.2.2.2.1 q.2.2.2.2) (x2_18, x3_19, x4_20, x5_21, σ_16)))))))
set_option maxHeartbeats 4000000 in
set_option maxRecDepth 100000 in
theorem kX8_game (l : Launch) {V : zV} {σ : zS} {t0 : Int32 × zS} {k0 : Nat} {x1 : Int32} (hk0 : kd 1 k0 = 8) (h1 : FX8_game k0 x1 σ = some t0) : zMi l yX8_game cX8_game 7 (some .int) 3 66 1 V σ t0 [.ref (zad V k0), .int x1] := by
  refine zMi_of (by decide) (Nat.le_of_ble_eq_true rfl) ?_
  intro p e s m below meth c A C0 hr hlk hZ ls hl
  generalize ([.ref (zad V k0), .int x1] : List Value).toArray = args at C0 ⊢
  obtain ⟨Q, hQ⟩ : ∃ Q, Q = MQ below (zQi 1 V t0 A) args s 0 0 A := ⟨_, rfl⟩
  rw [← hQ]
  have hx := C0.1
  have hb := C0.2.1
  have hl : lv_has ls 7 [(0, .ref (zad V k0)), (1, .int x1)] := hl
  unfold FX8_game at h1
  have J169 : ∀ (y0 : Int32) (σ : zS) (H : Heap) (locs : List Loc) (ls : Array Slot), zZ 1 V A σ s H locs → lv_has ls 7 [] → FX8_game_b169 y0 σ = some t0 → W p l e (zrm 3 66) s m args below meth c H locs 0 0 Q (F0 m 169 ls [.int y0]) := by
    intro y0 σ H locs ls  hZ hl h1
    unfold FX8_game_b169 at h1
    rw [hQ]; exact z_iret C0 hr hlk hZ h1 dX8_game_169
  have J158 : ∀ (x4 : Int32) (σ : zS) (H : Heap) (locs : List Loc) (ls : Array Slot), zZ 1 V A σ s H locs → lv_has ls 7 [(4, .int x4)] → FX8_game_b158 x4 σ = some t0 → W p l e (zrm 3 66) s m args below meth c H locs 0 0 Q (F0 m 158 ls []) := by
    intro x4 σ H locs ls  hZ hl h1
    unfold FX8_game_b158 at h1
    refine lv_iload hx hb dX8_game_158 (lv_at hl 0 rfl) ?_
    refine lv_goto (tgt := 169) hx hb dX8_game_160 (by decide) ?_
    exact J169 x4 _ _ _ _  hZ (lv_sub hl [] rfl) h1
  have J130 : ∀ (x2 : Int32) (x3 : Int32) (x4 : Int32) (σ : zS) (H : Heap) (locs : List Loc) (ls : Array Slot), zZ 1 V A σ s H locs → lv_has ls 7 [(0, .ref (zad V k0)), (1, .int x1), (2, .int x2), (3, .int x3), (4, .int x4)] → FX8_game_b130 k0 x1 x2 x3 x4 σ = some t0 → W p l e (zrm 3 66) s m args below meth c H locs 0 0 Q (F0 m 130 ls []) := by
    intro x2 x3 x4 σ H locs ls  hZ hl h1
    unfold FX8_game_b130 at h1
    refine lv_iload_n hx hb dX8_game_130 rfl (lv_at hl 1 rfl) ?_
    refine z_if_ne (tgt := 138) C0 h1 dX8_game_131 (by decide) (fun h1 => ?_) (fun h1 => ?_)
    · refine lv_iload_n hx hb dX8_game_138 rfl (lv_at hl 1 rfl) ?_
      refine lv_iconst (v := 1) hx hb dX8_game_139 (by decide) ?_
      refine z_ic_ne (tgt := 147) C0 h1 dX8_game_140 (by decide) (fun h1 => ?_) (fun h1 => ?_)
      · refine lv_iload_n hx hb dX8_game_147 rfl (lv_at hl 1 rfl) ?_
        refine lv_iconst (v := 2) hx hb dX8_game_148 (by decide) ?_
        refine z_ic_eq (tgt := 158) C0 h1 dX8_game_149 (by decide) (fun h1 => ?_) (fun h1 => ?_)
        · exact J158 x4 _ _ _ _  hZ (lv_sub hl [4] rfl) h1
        refine lv_iload hx hb dX8_game_152 (lv_at hl 4 rfl) ?_
        refine lv_iconst (v := (-1)) hx hb dX8_game_154 (by decide) ?_
        refine z_ic_ne (tgt := 163) C0 h1 dX8_game_155 (by decide) (fun h1 => ?_) (fun h1 => ?_)
        · refine lv_aload_n hx hb dX8_game_163 rfl (lv_at hl 0 rfl) ?_
          refine lv_iload hx hb dX8_game_164 (lv_at hl 4 rfl) ?_
          refine z_cVi (As := [.int x4]) (rest := []) C0 hZ h1 (fun _ hf => kX8_mostBy l hk0 hf) mRX8_530 vX8_mostBy hk0 rfl rfl hl.1 (Nat.le_of_ble_eq_true rfl) ⟨Nat.le_of_ble_eq_true rfl, Nat.le_of_ble_eq_true rfl⟩ dX8_game_166 ⟨Nat.le_of_ble_eq_true rfl, Nat.le_of_ble_eq_true rfl⟩ (fun r_2 σ_1 H locs h1 hZ => ?_)
          exact J169 r_2 _ _ _ _  hZ (lv_sub hl [] rfl) h1
        exact J158 x4 _ _ _ _  hZ (lv_sub hl [4] rfl) h1
      refine lv_iload_n hx hb dX8_game_143 rfl (lv_at hl 3 rfl) ?_
      refine lv_goto (tgt := 169) hx hb dX8_game_144 (by decide) ?_
      exact J169 x3 _ _ _ _  hZ (lv_sub hl [] rfl) h1
    refine lv_iload_n hx hb dX8_game_134 rfl (lv_at hl 2 rfl) ?_
    refine lv_goto (tgt := 169) hx hb dX8_game_135 (by decide) ?_
    exact J169 x2 _ _ _ _  hZ (lv_sub hl [] rfl) h1
  have J33 : ∀ (n : Nat) (x2 : Int32) (x3 : Int32) (x4 : Int32) (x5 : Int32) (σ : zS) (H : Heap) (locs : List Loc) (ls : Array Slot), zZ 1 V A σ s H locs → lv_has ls 7 [(0, .ref (zad V k0)), (1, .int x1), (2, .int x2), (3, .int x3), (4, .int x4), (5, .int x5)] → zit (fun q => FX8_game_L33 k0 x1 q.1 q.2.1 q.2.2.1 q.2.2.2.1 q.2.2.2.2) n (x2, x3, x4, x5, σ) = some t0 → W p l e (zrm 3 66) s m args below meth c H locs 0 0 Q (F0 m 33 ls []) := by
    intro n
    induction n with
    | zero => intro x2 x3 x4 x5 σ H locs ls  _ _ h1; cases h1
    | succ n ih33 =>
      intro x2 x3 x4 x5 σ H locs ls  hZ hl h1
      obtain ⟨t1, h1, hz1⟩ := zit_1 h1
      have J124 : ∀ (x2 : Int32) (x3 : Int32) (x4 : Int32) (x5 : Int32) (σ : zS) (H : Heap) (locs : List Loc) (ls : Array Slot), zZ 1 V A σ s H locs → lv_has ls 7 [(0, .ref (zad V k0)), (1, .int x1), (2, .int x2), (3, .int x3), (4, .int x4), (5, .int x5)] → FX8_game_b124 k0 x1 x2 x3 x4 x5 σ = some t1 → W p l e (zrm 3 66) s m args below meth c H locs 0 0 Q (F0 m 124 ls []) := by
        intro x2 x3 x4 x5 σ H locs ls  hZ hl h1
        unfold FX8_game_b124 at h1
        refine z_iinc (v := 1) C0 h1 hl (fun x5_3 => [(5, .int x5_3), (0, .ref (zad V k0)), (1, .int x1), (2, .int x2), (3, .int x3), (4, .int x4)]) dX8_game_124 (k := 5) rfl (by decide) (by decide) (fun _ => rfl) (fun x5_3 ls h1 hl => ?_)
        refine lv_goto (tgt := 33) hx hb dX8_game_127 (by decide) ?_
        exact ih33 x2 x3 x4 x5_3 _ _ _ _  hZ (lv_sub hl [1, 2, 3, 4, 5, 0] rfl) (zback h1 hz1)
      have J120 : ∀ (x2 : Int32) (x3 : Int32) (x5 : Int32) (σ : zS) (H : Heap) (locs : List Loc) (ls : Array Slot), zZ 1 V A σ s H locs → lv_has ls 7 [(0, .ref (zad V k0)), (1, .int x1), (2, .int x2), (3, .int x3), (5, .int x5)] → FX8_game_b120 k0 x1 x2 x3 x5 σ = some t1 → W p l e (zrm 3 66) s m args below meth c H locs 0 0 Q (F0 m 120 ls []) := by
        intro x2 x3 x5 σ H locs ls  hZ hl h1
        unfold FX8_game_b120 at h1
        refine lv_iload hx hb dX8_game_120 (lv_at hl 4 rfl) ?_
        refine z_istore C0 h1 hl (fun x4_4 => [(4, .int x4_4), (0, .ref (zad V k0)), (1, .int x1), (2, .int x2), (3, .int x3), (5, .int x5)]) dX8_game_122 (by decide) (fun _ => rfl) (fun x4_4 ls h1 hl => ?_)
        exact J124 x2 x3 x4_4 x5 _ _ _ _  hZ (lv_sub hl [1, 2, 3, 4, 0, 5] rfl) h1
      have J99 : ∀ (x2 : Int32) (x3 : Int32) (x4 : Int32) (x5 : Int32) (σ : zS) (H : Heap) (locs : List Loc) (ls : Array Slot), zZ 1 V A σ s H locs → lv_has ls 7 [(0, .ref (zad V k0)), (1, .int x1), (2, .int x2), (3, .int x3), (4, .int x4), (5, .int x5)] → FX8_game_b99 k0 x1 x2 x3 x4 x5 σ = some t1 → W p l e (zrm 3 66) s m args below meth c H locs 0 0 Q (F0 m 99 ls []) := by
        intro x2 x3 x4 x5 σ H locs ls  hZ hl h1
        unfold FX8_game_b99 at h1
        refine lv_iload hx hb dX8_game_99 (lv_at hl 4 rfl) ?_
        refine lv_iconst (v := (-1)) hx hb dX8_game_101 (by decide) ?_
        refine z_ic_eq (tgt := 120) C0 h1 dX8_game_102 (by decide) (fun h1 => ?_) (fun h1 => ?_)
        · exact J120 x2 x3 x5 _ _ _ _  hZ (lv_sub hl [0, 1, 2, 3, 5] rfl) h1
        refine lv_aload_n hx hb dX8_game_105 rfl (lv_at hl 0 rfl) ?_
        refine lv_iload hx hb dX8_game_106 (lv_at hl 5 rfl) ?_
        refine z_cVi (As := [.int x5]) (rest := []) C0 hZ h1 (fun _ hf => kX8_mostBy l hk0 hf) mRX8_530 vX8_mostBy hk0 rfl rfl hl.1 (Nat.le_of_ble_eq_true rfl) ⟨Nat.le_of_ble_eq_true rfl, Nat.le_of_ble_eq_true rfl⟩ dX8_game_108 ⟨Nat.le_of_ble_eq_true rfl, Nat.le_of_ble_eq_true rfl⟩ (fun r_6 σ_5 H locs h1 hZ => ?_)
        refine lv_aload_n hx hb dX8_game_111 rfl (lv_at hl 0 rfl) ?_
        refine lv_iload hx hb dX8_game_112 (lv_at hl 4 rfl) ?_
        refine z_cVi (As := [.int x4]) (rest := [.int r_6]) C0 hZ h1 (fun _ hf => kX8_mostBy l hk0 hf) mRX8_530 vX8_mostBy hk0 rfl rfl hl.1 (Nat.le_of_ble_eq_true rfl) ⟨Nat.le_of_ble_eq_true rfl, Nat.le_of_ble_eq_true rfl⟩ dX8_game_114 ⟨Nat.le_of_ble_eq_true rfl, Nat.le_of_ble_eq_true rfl⟩ (fun r_8 σ_7 H locs h1 hZ => ?_)
        refine z_ic_ge (tgt := 124) C0 h1 dX8_game_117 (by decide) (fun h1 => ?_) (fun h1 => ?_)
        · exact J124 x2 x3 x4 x5 _ _ _ _  hZ (lv_sub hl [0, 1, 2, 3, 4, 5] rfl) h1
        exact J120 x2 x3 x5 _ _ _ _  hZ (lv_sub hl [0, 1, 2, 3, 5] rfl) h1
      have J47 : ∀ (n : Nat) (x2 : Int32) (x3 : Int32) (x4 : Int32) (x5 : Int32) (x6 : Int32) (σ : zS) (H : Heap) (locs : List Loc) (ls : Array Slot), zZ 1 V A σ s H locs → lv_has ls 7 [(0, .ref (zad V k0)), (1, .int x1), (2, .int x2), (3, .int x3), (4, .int x4), (5, .int x5), (6, .int x6)] → zit (fun q => FX8_game_L47 k0 x1 x4 x5 q.1 q.2.1 q.2.2.1 q.2.2.2) n (x2, x3, x6, σ) = some t1 → W p l e (zrm 3 66) s m args below meth c H locs 0 0 Q (F0 m 47 ls []) := by
        intro n
        induction n with
        | zero => intro x2 x3 x4 x5 x6 σ H locs ls  _ _ h1; cases h1
        | succ n ih47 =>
          intro x2 x3 x4 x5 x6 σ H locs ls  hZ hl h1
          obtain ⟨t2, h1, hz2⟩ := zit_1 h1
          have J93 : ∀ (x2 : Int32) (x3 : Int32) (x6 : Int32) (σ : zS) (H : Heap) (locs : List Loc) (ls : Array Slot), zZ 1 V A σ s H locs → lv_has ls 7 [(0, .ref (zad V k0)), (1, .int x1), (2, .int x2), (3, .int x3), (4, .int x4), (5, .int x5), (6, .int x6)] → FX8_game_b93 k0 x1 x2 x3 x4 x5 x6 σ = some t2 → W p l e (zrm 3 66) s m args below meth c H locs 0 0 Q (F0 m 93 ls []) := by
            intro x2 x3 x6 σ H locs ls  hZ hl h1
            unfold FX8_game_b93 at h1
            refine z_iinc (v := 1) C0 h1 hl (fun x6_9 => [(6, .int x6_9), (0, .ref (zad V k0)), (1, .int x1), (2, .int x2), (3, .int x3), (4, .int x4), (5, .int x5)]) dX8_game_93 (k := 6) rfl (by decide) (by decide) (fun _ => rfl) (fun x6_9 ls h1 hl => ?_)
            refine lv_goto (tgt := 47) hx hb dX8_game_96 (by decide) ?_
            exact ih47 x2 x3 x4 x5 x6_9 _ _ _ _  hZ (lv_sub hl [1, 2, 3, 4, 5, 6, 0] rfl) (zback h1 hz2)
          have J92 : ∀ (x2 : Int32) (x6 : Int32) (y0 : Int32) (σ : zS) (H : Heap) (locs : List Loc) (ls : Array Slot), zZ 1 V A σ s H locs → lv_has ls 7 [(0, .ref (zad V k0)), (1, .int x1), (2, .int x2), (4, .int x4), (5, .int x5), (6, .int x6)] → FX8_game_b92 k0 x1 x2 x4 x5 x6 y0 σ = some t2 → W p l e (zrm 3 66) s m args below meth c H locs 0 0 Q (F0 m 92 ls [.int y0]) := by
            intro x2 x6 y0 σ H locs ls  hZ hl h1
            unfold FX8_game_b92 at h1
            refine z_istore_n C0 h1 hl (fun x3_10 => [(3, .int x3_10), (0, .ref (zad V k0)), (1, .int x1), (2, .int x2), (4, .int x4), (5, .int x5), (6, .int x6)]) dX8_game_92 rfl (by decide) (fun _ => rfl) (fun x3_10 ls h1 hl => ?_)
            exact J93 x2 x3_10 x6 _ _ _ _  hZ (lv_sub hl [1, 2, 3, 0, 4, 5, 6] rfl) h1
          replace h1 : FX8_game_L47 k0 x1 x4 x5 x2 x3 x6 σ = some t2 := h1
          unfold FX8_game_L47 at h1
          refine lv_iload hx hb dX8_game_47 (lv_at hl 6 rfl) ?_
          refine lv_aload_n hx hb dX8_game_49 rfl (lv_at hl 0 rfl) ?_
          refine z_getr C0 hZ hk0 fRX8_40 rfl dX8_game_50 ?_
          refine lv_iconst (v := 0) hx hb dX8_game_53 (by decide) ?_
          refine z_iald C0 hZ h1 (zkt8_3 hk0) dX8_game_54 (fun h1 => ?_)
          refine z_ic_ge (tgt := 99) C0 h1 dX8_game_55 (by decide) (fun h1 => ?_) (fun h1 => ?_)
          · have h1 := zout h1 hz2
            exact J99 x2 x3 x4 x5 _ _ _ _  hZ (lv_sub hl [0, 1, 2, 3, 4, 5] rfl) h1
          refine lv_aload_n hx hb dX8_game_58 rfl (lv_at hl 0 rfl) ?_
          refine lv_iload hx hb dX8_game_59 (lv_at hl 5 rfl) ?_
          refine lv_iload hx hb dX8_game_61 (lv_at hl 6 rfl) ?_
          refine z_cVi (As := [.int x5, .int x6]) (rest := []) C0 hZ h1 (fun _ hf => kX8_rests l hk0 hf) mRX8_527 vX8_rests hk0 rfl rfl hl.1 (Nat.le_of_ble_eq_true rfl) ⟨Nat.le_of_ble_eq_true rfl, Nat.le_of_ble_eq_true rfl⟩ dX8_game_63 ⟨Nat.le_of_ble_eq_true rfl, Nat.le_of_ble_eq_true rfl⟩ (fun r_12 σ_11 H locs h1 hZ => ?_)
          refine z_if_ne (tgt := 72) C0 h1 dX8_game_66 (by decide) (fun h1 => ?_) (fun h1 => ?_)
          · refine z_iinc (v := 1) C0 h1 hl (fun x2_13 => [(2, .int x2_13), (0, .ref (zad V k0)), (1, .int x1), (3, .int x3), (4, .int x4), (5, .int x5), (6, .int x6)]) dX8_game_72 (k := 2) rfl (by decide) (by decide) (fun _ => rfl) (fun x2_13 ls h1 hl => ?_)
            refine lv_iload_n hx hb dX8_game_75 rfl (lv_at hl 3 rfl) ?_
            refine lv_iconst (v := (-1)) hx hb dX8_game_76 (by decide) ?_
            refine z_ic_ne (tgt := 91) C0 h1 dX8_game_77 (by decide) (fun h1 => ?_) (fun h1 => ?_)
            · refine lv_iload_n hx hb dX8_game_91 rfl (lv_at hl 3 rfl) ?_
              exact J92 x2_13 x6 x3 _ _ _ _  hZ (lv_sub hl [1, 2, 0, 4, 5, 6] rfl) h1
            refine lv_bipush (v := 10) hx hb dX8_game_80 (by decide) ?_
            refine lv_iload hx hb dX8_game_82 (lv_at hl 5 rfl) ?_
            refine lv_imul hx hb dX8_game_84 ?_
            refine lv_iload hx hb dX8_game_85 (lv_at hl 6 rfl) ?_
            refine lv_iadd hx hb dX8_game_87 ?_
            refine lv_goto (tgt := 92) hx hb dX8_game_88 (by decide) ?_
            exact J92 x2_13 x6 ((10 * x5) + x6) _ _ _ _  hZ (lv_sub hl [1, 2, 0, 4, 5, 6] rfl) h1
          refine lv_goto (tgt := 93) hx hb dX8_game_69 (by decide) ?_
          exact J93 x2 x3 x6 _ _ _ _  hZ (lv_sub hl [0, 1, 2, 3, 4, 5, 6] rfl) h1
      replace h1 : FX8_game_L33 k0 x1 x2 x3 x4 x5 σ = some t1 := h1
      unfold FX8_game_L33 at h1
      refine lv_iload hx hb dX8_game_33 (lv_at hl 5 rfl) ?_
      refine lv_aload_n hx hb dX8_game_35 rfl (lv_at hl 0 rfl) ?_
      refine z_getr C0 hZ hk0 fRX8_40 rfl dX8_game_36 ?_
      refine lv_iconst (v := 0) hx hb dX8_game_39 (by decide) ?_
      refine z_iald C0 hZ h1 (zkt8_3 hk0) dX8_game_40 (fun h1 => ?_)
      refine z_ic_ge (tgt := 130) C0 h1 dX8_game_41 (by decide) (fun h1 => ?_) (fun h1 => ?_)
      · have h1 := zout h1 hz1
        exact J130 x2 x3 x4 _ _ _ _  hZ (lv_sub hl [0, 1, 2, 3, 4] rfl) h1
      refine lv_iconst (v := 0) hx hb dX8_game_44 (by decide) ?_
      refine z_istore C0 h1 hl (fun x6_14 => [(6, .int x6_14), (0, .ref (zad V k0)), (1, .int x1), (2, .int x2), (3, .int x3), (4, .int x4), (5, .int x5)]) dX8_game_45 (by decide) (fun _ => rfl) (fun x6_14 ls h1 hl => ?_)
      obtain ⟨n, h1⟩ := zlp_iff.mp h1
      exact J47 n x2 x3 x4 x5 x6_14 _ _ _ _  hZ (lv_sub hl [1, 2, 3, 4, 5, 6, 0] rfl) h1
  refine lv_aload_n hx hb dX8_game_0 rfl (lv_at hl 0 rfl) ?_
  refine lv_iconst (v := 0) hx hb dX8_game_1 (by decide) ?_
  refine z_puti C0 hZ h1 hk0 fRX8_159 rfl tyX8_ok nmX8 rfl rfl rfl dX8_game_2 (fun σ_15 H locs h1 hZ => ?_)
  refine lv_iload_n hx hb dX8_game_5 rfl (lv_at hl 1 rfl) ?_
  refine lv_i2l (v := (Int32.toInt64 x1)) hx hb dX8_game_6 rfl ?_
  refine lv_lconst (v := 0) hx hb dX8_game_7 (by decide) ?_
  refine lv_ldc2 (v := 3) hx hb C0.2.2.2.1 (C0.2.2.2.2 _ (zmem 1819 (by decide +kernel) (by decide +kernel))) dX8_game_8 ?_
  refine z_cSi (As := [.long (Int32.toInt64 x1), .long 0, .long 3]) (rest := []) C0 hZ h1 (fun _ hf => kX8_isIn l  hf) mRX8_162 sX8_isIn rfl rfl hl.1 (Nat.le_of_ble_eq_true rfl) ⟨Nat.le_of_ble_eq_true rfl, Nat.le_of_ble_eq_true rfl⟩ dX8_game_11 ⟨Nat.le_of_ble_eq_true rfl, Nat.le_of_ble_eq_true rfl⟩ (fun r_17 σ_16 H locs h1 hZ => ?_)
  refine z_if_ne (tgt := 23) C0 h1 dX8_game_14 (by decide) (fun h1 => ?_) (fun h1 => ?_)
  · refine lv_iconst (v := 0) hx hb dX8_game_23 (by decide) ?_
    refine z_istore_n C0 h1 hl (fun x2_18 => [(2, .int x2_18), (0, .ref (zad V k0)), (1, .int x1)]) dX8_game_24 rfl (by decide) (fun _ => rfl) (fun x2_18 ls h1 hl => ?_)
    refine lv_iconst (v := (-1)) hx hb dX8_game_25 (by decide) ?_
    refine z_istore_n C0 h1 hl (fun x3_19 => [(3, .int x3_19), (2, .int x2_18), (0, .ref (zad V k0)), (1, .int x1)]) dX8_game_26 rfl (by decide) (fun _ => rfl) (fun x3_19 ls h1 hl => ?_)
    refine lv_iconst (v := (-1)) hx hb dX8_game_27 (by decide) ?_
    refine z_istore C0 h1 hl (fun x4_20 => [(4, .int x4_20), (3, .int x3_19), (2, .int x2_18), (0, .ref (zad V k0)), (1, .int x1)]) dX8_game_28 (by decide) (fun _ => rfl) (fun x4_20 ls h1 hl => ?_)
    refine lv_iconst (v := 0) hx hb dX8_game_30 (by decide) ?_
    refine z_istore C0 h1 hl (fun x5_21 => [(5, .int x5_21), (4, .int x4_20), (3, .int x3_19), (2, .int x2_18), (0, .ref (zad V k0)), (1, .int x1)]) dX8_game_31 (by decide) (fun _ => rfl) (fun x5_21 ls h1 hl => ?_)
    obtain ⟨n, h1⟩ := zlp_iff.mp h1
    exact J33 n x2_18 x3_19 x4_20 x5_21 _ _ _ _  hZ (lv_sub hl [4, 5, 3, 2, 1, 0] rfl) h1
  refine lv_aload_n hx hb dX8_game_17 rfl (lv_at hl 0 rfl) ?_
  refine lv_iconst (v := 1) hx hb dX8_game_18 (by decide) ?_
  refine z_cVi (As := [.int 1]) (rest := []) C0 hZ h1 (fun _ hf => kX8_fail l hk0 hf) mRX8_310 vX8_fail hk0 rfl rfl hl.1 (Nat.le_of_ble_eq_true rfl) ⟨Nat.le_of_ble_eq_true rfl, Nat.le_of_ble_eq_true rfl⟩ dX8_game_19 ⟨Nat.le_of_ble_eq_true rfl, Nat.le_of_ble_eq_true rfl⟩ (fun r_23 σ_22 H locs h1 hZ => ?_)
  rw [hQ]; exact z_iret C0 hr hlk hZ h1 dX8_game_22
noncomputable def FX8_drawOf (k0 : Nat) (x1 : Int32) (σ : zS) : Option (Int32 × zS) := zlet (zup σ k0 71 (((σ k0 71) * 1103515245) + 12345)) (fun σ_1 => zgd (x1 != 0) (some (((((σ_1 k0 71) >>> ((16 : Int32) &&& 31)) &&& 32767) - (((σ_1 k0 71) >>> ((16 : Int32) &&& 31)) &&& 32767) / x1 * x1), σ_1)))
set_option maxHeartbeats 4000000 in
set_option maxRecDepth 100000 in
theorem kX8_drawOf (l : Launch) {V : zV} {σ : zS} {t0 : Int32 × zS} {k0 : Nat} {x1 : Int32} (hk0 : kd 1 k0 = 8) (h1 : FX8_drawOf k0 x1 σ = some t0) : zMi l yX8_drawOf cX8_drawOf 2 (some .int) 0 0 1 V σ t0 [.ref (zad V k0), .int x1] := by
  refine zMi_of (by decide) (Nat.le_of_ble_eq_true rfl) ?_
  intro p e s m below meth c A C0 hr hlk hZ ls hl
  generalize ([.ref (zad V k0), .int x1] : List Value).toArray = args at C0 ⊢
  obtain ⟨Q, hQ⟩ : ∃ Q, Q = MQ below (zQi 1 V t0 A) args s 0 0 A := ⟨_, rfl⟩
  rw [← hQ]
  have hx := C0.1
  have hb := C0.2.1
  have hl : lv_has ls 2 [(0, .ref (zad V k0)), (1, .int x1)] := hl
  unfold FX8_drawOf at h1
  refine lv_aload_n hx hb dX8_drawOf_0 rfl (lv_at hl 0 rfl) ?_
  refine lv_aload_n hx hb dX8_drawOf_1 rfl (lv_at hl 0 rfl) ?_
  refine z_geti C0 hZ hk0 fRX8_533 rfl dX8_drawOf_2 ?_
  refine lv_ldcw (v := 1103515245) hx hb C0.2.2.2.1 (C0.2.2.2.2 _ (zmem 2072 (by decide +kernel) (by decide +kernel))) dX8_drawOf_5 ?_
  refine lv_imul hx hb dX8_drawOf_8 ?_
  refine lv_sipush (v := 12345) hx hb dX8_drawOf_9 (by decide) ?_
  refine lv_iadd hx hb dX8_drawOf_12 ?_
  refine z_puti C0 hZ h1 hk0 fRX8_533 rfl tyX8_ok nmX8 rfl rfl rfl dX8_drawOf_13 (fun σ_1 H locs h1 hZ => ?_)
  refine lv_aload_n hx hb dX8_drawOf_16 rfl (lv_at hl 0 rfl) ?_
  refine z_geti C0 hZ hk0 fRX8_533 rfl dX8_drawOf_17 ?_
  refine lv_bipush (v := 16) hx hb dX8_drawOf_20 (by decide) ?_
  refine lv_ishr hx hb dX8_drawOf_22 ?_
  refine lv_sipush (v := 32767) hx hb dX8_drawOf_23 (by decide) ?_
  refine lv_iand hx hb dX8_drawOf_26 ?_
  refine lv_iload_n hx hb dX8_drawOf_27 rfl (lv_at hl 1 rfl) ?_
  refine z_irem C0 h1 dX8_drawOf_28 (fun h1 => ?_)
  rw [hQ]; exact z_iret C0 hr hlk hZ h1 dX8_drawOf_29
noncomputable def FX8_weeks_b168 (y0 : Int32) (σ : zS) : Option (Int32 × zS) := some (y0, σ)
noncomputable def FX8_weeks_b147 (x3 : Int32) (x4 : Int32) (x5 : Int32) (x6 : Int32) (σ : zS) : Option (Int32 × zS) := if x3 = 0 then FX8_weeks_b168 x4 σ else if x3 = 1 then FX8_weeks_b168 x5 σ else FX8_weeks_b168 x6 σ
noncomputable def FX8_weeks_b110 (k0 : Nat) (x2 : Int32) (x3 : Int32) (x4 : Int32) (x5 : Int32) (x6 : Int32) (x7 : Int32) (σ : zS) : Option ((Int32 × Int32 × Int32 × Int32 × zS) ⊕ (Int32 × zS)) := zbd (FX8_costNow k0 σ) (fun r_2 σ_1 => zlet r_2 (fun x8_3 => zlet (x4 + x8_3) (fun x4_4 => zlet (if x5 < x8_3 then x8_3 else x5) (fun x5_6 => zlet (x6 + (σ_1 k0 57)) (fun x6_7 => zlet (x7 + 1) (fun x7_8 => some (.inl (x4_4, x5_6, x6_7, x7_8, σ_1))))))))
noncomputable def FX8_weeks_L76 (k0 : Nat) (x2 : Int32) (x3 : Int32) (x4 : Int32) (x5 : Int32) (x6 : Int32) (x7 : Int32) (x8 : Int32) (σ : zS) : Option ((Int32 × zS) ⊕ ((Int32 × Int32 × Int32 × Int32 × zS) ⊕ (Int32 × zS))) := zin (ln 1 (k0 + 3)) 3 (if (σ (k0 + 3) (Int32.toNatClampNeg 3)) ≤ x8 then zinr (FX8_weeks_b110 k0 x2 x3 x4 x5 x6 x7 σ) else zbd (FX8_drawOf k0 2 σ) (fun r_10 σ_9 => zlet (zup σ_9 k0 50 ((σ k0 50) ||| (r_10 <<< (x8 &&& 31)))) (fun σ_11 => zlet (x8 + 1) (fun x8_12 => some (.inl (x8_12, σ_11))))))
noncomputable def FX8_weeks_L62 (k0 : Nat) (x2 : Int32) (x3 : Int32) (x4 : Int32) (x5 : Int32) (x6 : Int32) (x7 : Int32) (σ : zS) : Option ((Int32 × Int32 × Int32 × Int32 × zS) ⊕ (Int32 × zS)) := if x2 ≤ x7 then zinr (FX8_weeks_b147 x3 x4 x5 x6 σ) else zlet (zup σ k0 50 0) (fun σ_13 => zlet 0 (fun x8_14 => zlp (fun q => FX8_weeks_L76 k0 x2 x3 x4 x5 x6 x7 q.1 q.2) (x8_14, σ_13)))
noncomputable def FX8_weeks (k0 : Nat) (x1 : Int32) (x2 : Int32) (x3 : Int32) (σ : zS) : Option (Int32 × zS) := zlet (zup σ k0 2 0) (fun σ_15 => zbd (FX8_isIn (Int32.toInt64 x3) 0 2 σ_15) (fun r_17 σ_16 => if r_17 = 0 then zbd (FX8_fail k0 1 σ_16) (fun r_30 σ_29 => some (r_30, σ_29)) else zbd (FX8_isIn (Int32.toInt64 x2) 0 30 σ_16) (fun r_19 σ_18 => if r_19 = 0 then zbd (FX8_fail k0 2 σ_18) (fun r_28 σ_27 => some (r_28, σ_27)) else zbd (FX8_set k0 σ_18) (fun _ σ_20 => zlet (zup σ_20 k0 71 x1) (fun σ_22 => zlet 0 (fun x4_23 => zlet 0 (fun x5_24 => zlet 0 (fun x6_25 => zlet 0 (fun x7_26 => zlp (fun q => FX8_weeks_L62 k0 x2 x3 q.1 q.2.1 q.2.2.1 q.2.2.2.1 q.2.2.2.2) (x4_23, x5_24, x6_25, x7_26, σ_22))))))))))
set_option maxHeartbeats 4000000 in
set_option maxRecDepth 100000 in
theorem kX8_weeks (l : Launch) {V : zV} {σ : zS} {t0 : Int32 × zS} {k0 : Nat} {x1 : Int32} {x2 : Int32} {x3 : Int32} (hk0 : kd 1 k0 = 8) (h1 : FX8_weeks k0 x1 x2 x3 σ = some t0) : zMi l yX8_weeks cX8_weeks 9 (some .int) 7 159 1 V σ t0 [.ref (zad V k0), .int x1, .int x2, .int x3] := by
  refine zMi_of (by decide) (Nat.le_of_ble_eq_true rfl) ?_
  intro p e s m below meth c A C0 hr hlk hZ ls hl
  generalize ([.ref (zad V k0), .int x1, .int x2, .int x3] : List Value).toArray = args at C0 ⊢
  obtain ⟨Q, hQ⟩ : ∃ Q, Q = MQ below (zQi 1 V t0 A) args s 0 0 A := ⟨_, rfl⟩
  rw [← hQ]
  have hx := C0.1
  have hb := C0.2.1
  have hl : lv_has ls 9 [(0, .ref (zad V k0)), (1, .int x1), (2, .int x2), (3, .int x3)] := hl
  unfold FX8_weeks at h1
  have J168 : ∀ (y0 : Int32) (σ : zS) (H : Heap) (locs : List Loc) (ls : Array Slot), zZ 1 V A σ s H locs → lv_has ls 9 [] → FX8_weeks_b168 y0 σ = some t0 → W p l e (zrm 7 159) s m args below meth c H locs 0 0 Q (F0 m 168 ls [.int y0]) := by
    intro y0 σ H locs ls  hZ hl h1
    unfold FX8_weeks_b168 at h1
    rw [hQ]; exact z_iret C0 hr hlk hZ h1 dX8_weeks_168
  have J147 : ∀ (x4 : Int32) (x5 : Int32) (x6 : Int32) (σ : zS) (H : Heap) (locs : List Loc) (ls : Array Slot), zZ 1 V A σ s H locs → lv_has ls 9 [(3, .int x3), (4, .int x4), (5, .int x5), (6, .int x6)] → FX8_weeks_b147 x3 x4 x5 x6 σ = some t0 → W p l e (zrm 7 159) s m args below meth c H locs 0 0 Q (F0 m 147 ls []) := by
    intro x4 x5 x6 σ H locs ls  hZ hl h1
    unfold FX8_weeks_b147 at h1
    refine lv_iload_n hx hb dX8_weeks_147 rfl (lv_at hl 0 rfl) ?_
    refine z_if_ne (tgt := 156) C0 h1 dX8_weeks_148 (by decide) (fun h1 => ?_) (fun h1 => ?_)
    · refine lv_iload_n hx hb dX8_weeks_156 rfl (lv_at hl 0 rfl) ?_
      refine lv_iconst (v := 1) hx hb dX8_weeks_157 (by decide) ?_
      refine z_ic_ne (tgt := 166) C0 h1 dX8_weeks_158 (by decide) (fun h1 => ?_) (fun h1 => ?_)
      · refine lv_iload hx hb dX8_weeks_166 (lv_at hl 3 rfl) ?_
        exact J168 x6 _ _ _ _  hZ (lv_sub hl [] rfl) h1
      refine lv_iload hx hb dX8_weeks_161 (lv_at hl 2 rfl) ?_
      refine lv_goto (tgt := 168) hx hb dX8_weeks_163 (by decide) ?_
      exact J168 x5 _ _ _ _  hZ (lv_sub hl [] rfl) h1
    refine lv_iload hx hb dX8_weeks_151 (lv_at hl 1 rfl) ?_
    refine lv_goto (tgt := 168) hx hb dX8_weeks_153 (by decide) ?_
    exact J168 x4 _ _ _ _  hZ (lv_sub hl [] rfl) h1
  have J62 : ∀ (n : Nat) (x4 : Int32) (x5 : Int32) (x6 : Int32) (x7 : Int32) (σ : zS) (H : Heap) (locs : List Loc) (ls : Array Slot), zZ 1 V A σ s H locs → lv_has ls 9 [(0, .ref (zad V k0)), (2, .int x2), (3, .int x3), (4, .int x4), (5, .int x5), (6, .int x6), (7, .int x7)] → zit (fun q => FX8_weeks_L62 k0 x2 x3 q.1 q.2.1 q.2.2.1 q.2.2.2.1 q.2.2.2.2) n (x4, x5, x6, x7, σ) = some t0 → W p l e (zrm 7 159) s m args below meth c H locs 0 0 Q (F0 m 62 ls []) := by
    intro n
    induction n with
    | zero => intro x4 x5 x6 x7 σ H locs ls  _ _ h1; cases h1
    | succ n ih62 =>
      intro x4 x5 x6 x7 σ H locs ls  hZ hl h1
      obtain ⟨t1, h1, hz1⟩ := zit_1 h1
      have J110 : ∀ (x4 : Int32) (x5 : Int32) (x6 : Int32) (x7 : Int32) (σ : zS) (H : Heap) (locs : List Loc) (ls : Array Slot), zZ 1 V A σ s H locs → lv_has ls 9 [(0, .ref (zad V k0)), (2, .int x2), (3, .int x3), (4, .int x4), (5, .int x5), (6, .int x6), (7, .int x7)] → FX8_weeks_b110 k0 x2 x3 x4 x5 x6 x7 σ = some t1 → W p l e (zrm 7 159) s m args below meth c H locs 0 0 Q (F0 m 110 ls []) := by
        intro x4 x5 x6 x7 σ H locs ls  hZ hl h1
        unfold FX8_weeks_b110 at h1
        refine lv_aload_n hx hb dX8_weeks_110 rfl (lv_at hl 0 rfl) ?_
        refine z_cVi (As := []) (rest := []) C0 hZ h1 (fun _ hf => kX8_costNow l hk0 hf) mRX8_472 vX8_costNow hk0 rfl rfl hl.1 (Nat.le_of_ble_eq_true rfl) ⟨Nat.le_of_ble_eq_true rfl, Nat.le_of_ble_eq_true rfl⟩ dX8_weeks_111 ⟨Nat.le_of_ble_eq_true rfl, Nat.le_of_ble_eq_true rfl⟩ (fun r_2 σ_1 H locs h1 hZ => ?_)
        refine z_istore C0 h1 hl (fun x8_3 => [(8, .int x8_3), (0, .ref (zad V k0)), (2, .int x2), (3, .int x3), (4, .int x4), (5, .int x5), (6, .int x6), (7, .int x7)]) dX8_weeks_114 (by decide) (fun _ => rfl) (fun x8_3 ls h1 hl => ?_)
        refine lv_iload hx hb dX8_weeks_116 (lv_at hl 4 rfl) ?_
        refine lv_iload hx hb dX8_weeks_118 (lv_at hl 0 rfl) ?_
        refine lv_iadd hx hb dX8_weeks_120 ?_
        refine z_istore C0 h1 hl (fun x4_4 => [(4, .int x4_4), (8, .int x8_3), (0, .ref (zad V k0)), (2, .int x2), (3, .int x3), (5, .int x5), (6, .int x6), (7, .int x7)]) dX8_weeks_121 (by decide) (fun _ => rfl) (fun x4_4 ls h1 hl => ?_)
        refine lv_iload hx hb dX8_weeks_123 (lv_at hl 5 rfl) ?_
        refine lv_iload hx hb dX8_weeks_125 (lv_at hl 1 rfl) ?_
        refine z_mmax C0 hl.1 mmRX8_524 ⟨Nat.le_of_ble_eq_true rfl, Nat.le_of_ble_eq_true rfl⟩ ⟨Nat.le_of_ble_eq_true rfl, Nat.le_of_ble_eq_true rfl⟩ dX8_weeks_127 ?_
        refine z_istore C0 h1 hl (fun x5_6 => [(5, .int x5_6), (4, .int x4_4), (8, .int x8_3), (0, .ref (zad V k0)), (2, .int x2), (3, .int x3), (6, .int x6), (7, .int x7)]) dX8_weeks_130 (by decide) (fun _ => rfl) (fun x5_6 ls h1 hl => ?_)
        refine lv_iload hx hb dX8_weeks_132 (lv_at hl 6 rfl) ?_
        refine lv_aload_n hx hb dX8_weeks_134 rfl (lv_at hl 3 rfl) ?_
        refine z_geti C0 hZ hk0 fRX8_401 rfl dX8_weeks_135 ?_
        refine lv_iadd hx hb dX8_weeks_138 ?_
        refine z_istore C0 h1 hl (fun x6_7 => [(6, .int x6_7), (5, .int x5_6), (4, .int x4_4), (8, .int x8_3), (0, .ref (zad V k0)), (2, .int x2), (3, .int x3), (7, .int x7)]) dX8_weeks_139 (by decide) (fun _ => rfl) (fun x6_7 ls h1 hl => ?_)
        refine z_iinc (v := 1) C0 h1 hl (fun x7_8 => [(7, .int x7_8), (6, .int x6_7), (5, .int x5_6), (4, .int x4_4), (8, .int x8_3), (0, .ref (zad V k0)), (2, .int x2), (3, .int x3)]) dX8_weeks_141 (k := 7) rfl (by decide) (by decide) (fun _ => rfl) (fun x7_8 ls h1 hl => ?_)
        refine lv_goto (tgt := 62) hx hb dX8_weeks_144 (by decide) ?_
        exact ih62 x4_4 x5_6 x6_7 x7_8 _ _ _ _  hZ (lv_sub hl [5, 6, 7, 3, 2, 1, 0] rfl) (zback h1 hz1)
      have J76 : ∀ (n : Nat) (x4 : Int32) (x5 : Int32) (x6 : Int32) (x7 : Int32) (x8 : Int32) (σ : zS) (H : Heap) (locs : List Loc) (ls : Array Slot), zZ 1 V A σ s H locs → lv_has ls 9 [(0, .ref (zad V k0)), (2, .int x2), (3, .int x3), (4, .int x4), (5, .int x5), (6, .int x6), (7, .int x7), (8, .int x8)] → zit (fun q => FX8_weeks_L76 k0 x2 x3 x4 x5 x6 x7 q.1 q.2) n (x8, σ) = some t1 → W p l e (zrm 7 159) s m args below meth c H locs 0 0 Q (F0 m 76 ls []) := by
        intro n
        induction n with
        | zero => intro x4 x5 x6 x7 x8 σ H locs ls  _ _ h1; cases h1
        | succ n ih76 =>
          intro x4 x5 x6 x7 x8 σ H locs ls  hZ hl h1
          obtain ⟨t2, h1, hz2⟩ := zit_1 h1
          replace h1 : FX8_weeks_L76 k0 x2 x3 x4 x5 x6 x7 x8 σ = some t2 := h1
          unfold FX8_weeks_L76 at h1
          refine lv_iload hx hb dX8_weeks_76 (lv_at hl 7 rfl) ?_
          refine lv_aload_n hx hb dX8_weeks_78 rfl (lv_at hl 0 rfl) ?_
          refine z_getr C0 hZ hk0 fRX8_40 rfl dX8_weeks_79 ?_
          refine lv_iconst (v := 3) hx hb dX8_weeks_82 (by decide) ?_
          refine z_iald C0 hZ h1 (zkt8_3 hk0) dX8_weeks_83 (fun h1 => ?_)
          refine z_ic_ge (tgt := 110) C0 h1 dX8_weeks_84 (by decide) (fun h1 => ?_) (fun h1 => ?_)
          · have h1 := zout h1 hz2
            exact J110 x4 x5 x6 x7 _ _ _ _  hZ (lv_sub hl [0, 1, 2, 3, 4, 5, 6] rfl) h1
          refine lv_aload_n hx hb dX8_weeks_87 rfl (lv_at hl 0 rfl) ?_
          refine lv_dup hx hb dX8_weeks_88 rfl ?_
          refine z_geti C0 hZ hk0 fRX8_375 rfl dX8_weeks_89 ?_
          refine lv_aload_n hx hb dX8_weeks_92 rfl (lv_at hl 0 rfl) ?_
          refine lv_iconst (v := 2) hx hb dX8_weeks_93 (by decide) ?_
          refine z_cVi (As := [.int 2]) (rest := [.int (σ k0 50), .ref (zad V k0)]) C0 hZ h1 (fun _ hf => kX8_drawOf l hk0 hf) mRX8_537 vX8_drawOf hk0 rfl rfl hl.1 (Nat.le_of_ble_eq_true rfl) ⟨Nat.le_of_ble_eq_true rfl, Nat.le_of_ble_eq_true rfl⟩ dX8_weeks_94 ⟨Nat.le_of_ble_eq_true rfl, Nat.le_of_ble_eq_true rfl⟩ (fun r_10 σ_9 H locs h1 hZ => ?_)
          refine lv_iload hx hb dX8_weeks_97 (lv_at hl 7 rfl) ?_
          refine lv_ishl hx hb dX8_weeks_99 ?_
          refine lv_ior hx hb dX8_weeks_100 ?_
          refine z_puti C0 hZ h1 hk0 fRX8_375 rfl tyX8_ok nmX8 rfl rfl rfl dX8_weeks_101 (fun σ_11 H locs h1 hZ => ?_)
          refine z_iinc (v := 1) C0 h1 hl (fun x8_12 => [(8, .int x8_12), (0, .ref (zad V k0)), (2, .int x2), (3, .int x3), (4, .int x4), (5, .int x5), (6, .int x6), (7, .int x7)]) dX8_weeks_104 (k := 7) rfl (by decide) (by decide) (fun _ => rfl) (fun x8_12 ls h1 hl => ?_)
          refine lv_goto (tgt := 76) hx hb dX8_weeks_107 (by decide) ?_
          exact ih76 x4 x5 x6 x7 x8_12 _ _ _ _  hZ (lv_sub hl [1, 2, 3, 4, 5, 6, 7, 0] rfl) (zback h1 hz2)
      replace h1 : FX8_weeks_L62 k0 x2 x3 x4 x5 x6 x7 σ = some t1 := h1
      unfold FX8_weeks_L62 at h1
      refine lv_iload hx hb dX8_weeks_62 (lv_at hl 6 rfl) ?_
      refine lv_iload_n hx hb dX8_weeks_64 rfl (lv_at hl 1 rfl) ?_
      refine z_ic_ge (tgt := 147) C0 h1 dX8_weeks_65 (by decide) (fun h1 => ?_) (fun h1 => ?_)
      · have h1 := zout h1 hz1
        exact J147 x4 x5 x6 _ _ _ _  hZ (lv_sub hl [2, 3, 4, 5] rfl) h1
      refine lv_aload_n hx hb dX8_weeks_68 rfl (lv_at hl 0 rfl) ?_
      refine lv_iconst (v := 0) hx hb dX8_weeks_69 (by decide) ?_
      refine z_puti C0 hZ h1 hk0 fRX8_375 rfl tyX8_ok nmX8 rfl rfl rfl dX8_weeks_70 (fun σ_13 H locs h1 hZ => ?_)
      refine lv_iconst (v := 0) hx hb dX8_weeks_73 (by decide) ?_
      refine z_istore C0 h1 hl (fun x8_14 => [(8, .int x8_14), (0, .ref (zad V k0)), (2, .int x2), (3, .int x3), (4, .int x4), (5, .int x5), (6, .int x6), (7, .int x7)]) dX8_weeks_74 (by decide) (fun _ => rfl) (fun x8_14 ls h1 hl => ?_)
      obtain ⟨n, h1⟩ := zlp_iff.mp h1
      exact J76 n x4 x5 x6 x7 x8_14 _ _ _ _  hZ (lv_sub hl [1, 2, 3, 4, 5, 6, 7, 0] rfl) h1
  refine lv_aload_n hx hb dX8_weeks_0 rfl (lv_at hl 0 rfl) ?_
  refine lv_iconst (v := 0) hx hb dX8_weeks_1 (by decide) ?_
  refine z_puti C0 hZ h1 hk0 fRX8_159 rfl tyX8_ok nmX8 rfl rfl rfl dX8_weeks_2 (fun σ_15 H locs h1 hZ => ?_)
  refine lv_iload_n hx hb dX8_weeks_5 rfl (lv_at hl 3 rfl) ?_
  refine lv_i2l (v := (Int32.toInt64 x3)) hx hb dX8_weeks_6 rfl ?_
  refine lv_lconst (v := 0) hx hb dX8_weeks_7 (by decide) ?_
  refine lv_ldc2 (v := 2) hx hb C0.2.2.2.1 (C0.2.2.2.2 _ (zmem 1853 (by decide +kernel) (by decide +kernel))) dX8_weeks_8 ?_
  refine z_cSi (As := [.long (Int32.toInt64 x3), .long 0, .long 2]) (rest := []) C0 hZ h1 (fun _ hf => kX8_isIn l  hf) mRX8_162 sX8_isIn rfl rfl hl.1 (Nat.le_of_ble_eq_true rfl) ⟨Nat.le_of_ble_eq_true rfl, Nat.le_of_ble_eq_true rfl⟩ dX8_weeks_11 ⟨Nat.le_of_ble_eq_true rfl, Nat.le_of_ble_eq_true rfl⟩ (fun r_17 σ_16 H locs h1 hZ => ?_)
  refine z_if_ne (tgt := 23) C0 h1 dX8_weeks_14 (by decide) (fun h1 => ?_) (fun h1 => ?_)
  · refine lv_iload_n hx hb dX8_weeks_23 rfl (lv_at hl 2 rfl) ?_
    refine lv_i2l (v := (Int32.toInt64 x2)) hx hb dX8_weeks_24 rfl ?_
    refine lv_lconst (v := 0) hx hb dX8_weeks_25 (by decide) ?_
    refine lv_ldc2 (v := 30) hx hb C0.2.2.2.1 (C0.2.2.2.2 _ (zmem 1874 (by decide +kernel) (by decide +kernel))) dX8_weeks_26 ?_
    refine z_cSi (As := [.long (Int32.toInt64 x2), .long 0, .long 30]) (rest := []) C0 hZ h1 (fun _ hf => kX8_isIn l  hf) mRX8_162 sX8_isIn rfl rfl hl.1 (Nat.le_of_ble_eq_true rfl) ⟨Nat.le_of_ble_eq_true rfl, Nat.le_of_ble_eq_true rfl⟩ dX8_weeks_29 ⟨Nat.le_of_ble_eq_true rfl, Nat.le_of_ble_eq_true rfl⟩ (fun r_19 σ_18 H locs h1 hZ => ?_)
    refine z_if_ne (tgt := 41) C0 h1 dX8_weeks_32 (by decide) (fun h1 => ?_) (fun h1 => ?_)
    · refine lv_aload_n hx hb dX8_weeks_41 rfl (lv_at hl 0 rfl) ?_
      refine z_cVv (As := []) (rest := []) C0 hZ h1 (fun _ hf => kX8_set l hk0 hf) mRX8_469 vX8_set hk0 rfl rfl hl.1 (Nat.le_of_ble_eq_true rfl) ⟨Nat.le_of_ble_eq_true rfl, Nat.le_of_ble_eq_true rfl⟩ dX8_weeks_42 ⟨Nat.le_of_ble_eq_true rfl, Nat.le_of_ble_eq_true rfl⟩ (fun _ σ_20 H locs h1 hZ => ?_)
      refine lv_aload_n hx hb dX8_weeks_45 rfl (lv_at hl 0 rfl) ?_
      refine lv_iload_n hx hb dX8_weeks_46 rfl (lv_at hl 1 rfl) ?_
      refine z_puti C0 hZ h1 hk0 fRX8_533 rfl tyX8_ok nmX8 rfl rfl rfl dX8_weeks_47 (fun σ_22 H locs h1 hZ => ?_)
      refine lv_iconst (v := 0) hx hb dX8_weeks_50 (by decide) ?_
      refine z_istore C0 h1 hl (fun x4_23 => [(4, .int x4_23), (0, .ref (zad V k0)), (1, .int x1), (2, .int x2), (3, .int x3)]) dX8_weeks_51 (by decide) (fun _ => rfl) (fun x4_23 ls h1 hl => ?_)
      refine lv_iconst (v := 0) hx hb dX8_weeks_53 (by decide) ?_
      refine z_istore C0 h1 hl (fun x5_24 => [(5, .int x5_24), (4, .int x4_23), (0, .ref (zad V k0)), (1, .int x1), (2, .int x2), (3, .int x3)]) dX8_weeks_54 (by decide) (fun _ => rfl) (fun x5_24 ls h1 hl => ?_)
      refine lv_iconst (v := 0) hx hb dX8_weeks_56 (by decide) ?_
      refine z_istore C0 h1 hl (fun x6_25 => [(6, .int x6_25), (5, .int x5_24), (4, .int x4_23), (0, .ref (zad V k0)), (1, .int x1), (2, .int x2), (3, .int x3)]) dX8_weeks_57 (by decide) (fun _ => rfl) (fun x6_25 ls h1 hl => ?_)
      refine lv_iconst (v := 0) hx hb dX8_weeks_59 (by decide) ?_
      refine z_istore C0 h1 hl (fun x7_26 => [(7, .int x7_26), (6, .int x6_25), (5, .int x5_24), (4, .int x4_23), (0, .ref (zad V k0)), (1, .int x1), (2, .int x2), (3, .int x3)]) dX8_weeks_60 (by decide) (fun _ => rfl) (fun x7_26 ls h1 hl => ?_)
      obtain ⟨n, h1⟩ := zlp_iff.mp h1
      exact J62 n x4_23 x5_24 x6_25 x7_26 _ _ _ _  hZ (lv_sub hl [4, 6, 7, 3, 2, 1, 0] rfl) h1
    refine lv_aload_n hx hb dX8_weeks_35 rfl (lv_at hl 0 rfl) ?_
    refine lv_iconst (v := 2) hx hb dX8_weeks_36 (by decide) ?_
    refine z_cVi (As := [.int 2]) (rest := []) C0 hZ h1 (fun _ hf => kX8_fail l hk0 hf) mRX8_310 vX8_fail hk0 rfl rfl hl.1 (Nat.le_of_ble_eq_true rfl) ⟨Nat.le_of_ble_eq_true rfl, Nat.le_of_ble_eq_true rfl⟩ dX8_weeks_37 ⟨Nat.le_of_ble_eq_true rfl, Nat.le_of_ble_eq_true rfl⟩ (fun r_28 σ_27 H locs h1 hZ => ?_)
    rw [hQ]; exact z_iret C0 hr hlk hZ h1 dX8_weeks_40
  refine lv_aload_n hx hb dX8_weeks_17 rfl (lv_at hl 0 rfl) ?_
  refine lv_iconst (v := 1) hx hb dX8_weeks_18 (by decide) ?_
  refine z_cVi (As := [.int 1]) (rest := []) C0 hZ h1 (fun _ hf => kX8_fail l hk0 hf) mRX8_310 vX8_fail hk0 rfl rfl hl.1 (Nat.le_of_ble_eq_true rfl) ⟨Nat.le_of_ble_eq_true rfl, Nat.le_of_ble_eq_true rfl⟩ dX8_weeks_19 ⟨Nat.le_of_ble_eq_true rfl, Nat.le_of_ble_eq_true rfl⟩ (fun r_30 σ_29 H locs h1 hZ => ?_)
  rw [hQ]; exact z_iret C0 hr hlk hZ h1 dX8_weeks_22
noncomputable def FX8_be_b20  (σ : zS) : Option (Int32 × zS) := some (0, σ)
noncomputable def FX8_be_L2 (k0 : Nat) (k1 : Nat) (x2 : Int32) (σ : zS) : Option ((Int32 × zS) ⊕ (Int32 × zS)) := if (nI (ln 1 k0)) ≤ x2 then zinr (FX8_be_b20  σ) else zin (ln 1 k1) x2 (zin (ln 1 k0) x2 (zlet (zup σ k0 (Int32.toNatClampNeg x2) (σ k1 (Int32.toNatClampNeg x2))) (fun σ_1 => zlet (x2 + 1) (fun x2_2 => some (.inl (x2_2, σ_1))))))
noncomputable def FX8_be (k0 : Nat) (k1 : Nat) (σ : zS) : Option (Int32 × zS) := zlet 0 (fun x2_3 => zlp (fun q => FX8_be_L2 k0 k1 q.1 q.2) (x2_3, σ))
set_option maxHeartbeats 4000000 in
set_option maxRecDepth 100000 in
theorem kX8_be (l : Launch) {V : zV} {σ : zS} {t0 : Int32 × zS} {k0 : Nat} {k1 : Nat} (hk0 : kd 1 k0 = 100) (hk1 : kd 1 k1 = 100) (h1 : FX8_be k0 k1 σ = some t0) : zMv l yX8_be cX8_be 3 0 0 1 V σ t0 [.ref (zad V k0), .ref (zad V k1)] := by
  refine zMv_of (by decide) (Nat.le_of_ble_eq_true rfl) ?_
  intro p e s m below meth c A C0 hr hlk hZ ls hl
  generalize ([.ref (zad V k0), .ref (zad V k1)] : List Value).toArray = args at C0 ⊢
  obtain ⟨Q, hQ⟩ : ∃ Q, Q = MQ below (zQv 1 V t0 A) args s 0 0 A := ⟨_, rfl⟩
  rw [← hQ]
  have hx := C0.1
  have hb := C0.2.1
  have hl : lv_has ls 3 [(0, .ref (zad V k0)), (1, .ref (zad V k1))] := hl
  unfold FX8_be at h1
  have J20 : ∀  (σ : zS) (H : Heap) (locs : List Loc) (ls : Array Slot), zZ 1 V A σ s H locs → lv_has ls 3 [] → FX8_be_b20  σ = some t0 → W p l e (zrm 0 0) s m args below meth c H locs 0 0 Q (F0 m 20 ls []) := by
    intro  σ H locs ls  hZ hl h1
    unfold FX8_be_b20 at h1
    rw [hQ]; exact z_vret C0 hr hlk hZ h1 dX8_be_20
  have J2 : ∀ (n : Nat) (x2 : Int32) (σ : zS) (H : Heap) (locs : List Loc) (ls : Array Slot), zZ 1 V A σ s H locs → lv_has ls 3 [(0, .ref (zad V k0)), (1, .ref (zad V k1)), (2, .int x2)] → zit (fun q => FX8_be_L2 k0 k1 q.1 q.2) n (x2, σ) = some t0 → W p l e (zrm 0 0) s m args below meth c H locs 0 0 Q (F0 m 2 ls []) := by
    intro n
    induction n with
    | zero => intro x2 σ H locs ls  _ _ h1; cases h1
    | succ n ih2 =>
      intro x2 σ H locs ls  hZ hl h1
      obtain ⟨t1, h1, hz1⟩ := zit_1 h1
      replace h1 : FX8_be_L2 k0 k1 x2 σ = some t1 := h1
      unfold FX8_be_L2 at h1
      refine lv_iload_n hx hb dX8_be_2 rfl (lv_at hl 2 rfl) ?_
      refine lv_aload_n hx hb dX8_be_3 rfl (lv_at hl 0 rfl) ?_
      refine z_alen C0 hZ hk0 dX8_be_4 ?_
      refine z_ic_ge (tgt := 20) C0 h1 dX8_be_5 (by decide) (fun h1 => ?_) (fun h1 => ?_)
      · have h1 := zout h1 hz1
        exact J20  _ _ _ _  hZ (lv_sub hl [] rfl) h1
      refine lv_aload_n hx hb dX8_be_8 rfl (lv_at hl 0 rfl) ?_
      refine lv_iload_n hx hb dX8_be_9 rfl (lv_at hl 2 rfl) ?_
      refine lv_aload_n hx hb dX8_be_10 rfl (lv_at hl 1 rfl) ?_
      refine lv_iload_n hx hb dX8_be_11 rfl (lv_at hl 2 rfl) ?_
      refine z_iald C0 hZ h1 hk1 dX8_be_12 (fun h1 => ?_)
      refine z_iast C0 hZ h1 hk0 dX8_be_13 (fun σ_1 H locs h1 hZ => ?_)
      refine z_iinc (v := 1) C0 h1 hl (fun x2_2 => [(2, .int x2_2), (0, .ref (zad V k0)), (1, .ref (zad V k1))]) dX8_be_14 (k := 2) rfl (by decide) (by decide) (fun _ => rfl) (fun x2_2 ls h1 hl => ?_)
      refine lv_goto (tgt := 2) hx hb dX8_be_17 (by decide) ?_
      exact ih2 x2_2 _ _ _ _  hZ (lv_sub hl [1, 2, 0] rfl) (zback h1 hz1)
  refine lv_iconst (v := 0) hx hb dX8_be_0 (by decide) ?_
  refine z_istore_n C0 h1 hl (fun x2_3 => [(2, .int x2_3), (0, .ref (zad V k0)), (1, .ref (zad V k1))]) dX8_be_1 rfl (by decide) (fun _ => rfl) (fun x2_3 ls h1 hl => ?_)
  obtain ⟨n, h1⟩ := zlp_iff.mp h1
  exact J2 n x2_3 _ _ _ _  hZ (lv_sub hl [1, 2, 0] rfl) h1
noncomputable def FX8_image (k0 : Nat) (σ : zS) : Option (Int32 × zS) := zlet (zup σ k0 2 0) (fun σ_1 => zlet (zup σ_1 k0 72 1) (fun σ_2 => zlet (zup σ_2 k0 73 (σ_2 k0 35)) (fun σ_3 => zlet (zup σ_3 k0 74 (σ_3 k0 36)) (fun σ_4 => zlet (zup σ_4 k0 75 (σ_4 k0 37)) (fun σ_5 => zbd (FX8_pack k0 (k0 + 34) 0 σ_5) (fun _ σ_6 => zbd (FX8_be (k0 + 35) (k0 + 19) σ_6) (fun _ σ_8 => zbd (FX8_be (k0 + 36) (k0 + 29) σ_8) (fun _ σ_10 => zbd (FX8_be (k0 + 37) (k0 + 30) σ_10) (fun _ σ_12 => zbd (FX8_be (k0 + 38) (k0 + 31) σ_12) (fun _ σ_14 => zbd (FX8_be (k0 + 39) (k0 + 32) σ_14) (fun _ σ_16 => zbd (FX8_be (k0 + 40) (k0 + 16) σ_16) (fun _ σ_18 => some (0, σ_18)))))))))))))
set_option maxHeartbeats 4000000 in
set_option maxRecDepth 100000 in
theorem kX8_image (l : Launch) {V : zV} {σ : zS} {t0 : Int32 × zS} {k0 : Nat} (hk0 : kd 1 k0 = 8) (h1 : FX8_image k0 σ = some t0) : zMv l yX8_image cX8_image 1 1 23 1 V σ t0 [.ref (zad V k0)] := by
  refine zMv_of (by decide) (Nat.le_of_ble_eq_true rfl) ?_
  intro p e s m below meth c A C0 hr hlk hZ ls hl
  generalize ([.ref (zad V k0)] : List Value).toArray = args at C0 ⊢
  obtain ⟨Q, hQ⟩ : ∃ Q, Q = MQ below (zQv 1 V t0 A) args s 0 0 A := ⟨_, rfl⟩
  rw [← hQ]
  have hx := C0.1
  have hb := C0.2.1
  have hl : lv_has ls 1 [(0, .ref (zad V k0))] := hl
  unfold FX8_image at h1
  refine lv_aload_n hx hb dX8_image_0 rfl (lv_at hl 0 rfl) ?_
  refine lv_iconst (v := 0) hx hb dX8_image_1 (by decide) ?_
  refine z_puti C0 hZ h1 hk0 fRX8_159 rfl tyX8_ok nmX8 rfl rfl rfl dX8_image_2 (fun σ_1 H locs h1 hZ => ?_)
  refine lv_aload_n hx hb dX8_image_5 rfl (lv_at hl 0 rfl) ?_
  refine lv_iconst (v := 1) hx hb dX8_image_6 (by decide) ?_
  refine z_puti C0 hZ h1 hk0 fRX8_351 rfl tyX8_ok nmX8 rfl rfl rfl dX8_image_7 (fun σ_2 H locs h1 hZ => ?_)
  refine lv_aload_n hx hb dX8_image_10 rfl (lv_at hl 0 rfl) ?_
  refine lv_aload_n hx hb dX8_image_11 rfl (lv_at hl 0 rfl) ?_
  refine z_geti C0 hZ hk0 fRX8_338 rfl dX8_image_12 ?_
  refine z_puti C0 hZ h1 hk0 fRX8_540 rfl tyX8_ok nmX8 rfl rfl rfl dX8_image_15 (fun σ_3 H locs h1 hZ => ?_)
  refine lv_aload_n hx hb dX8_image_18 rfl (lv_at hl 0 rfl) ?_
  refine lv_aload_n hx hb dX8_image_19 rfl (lv_at hl 0 rfl) ?_
  refine z_geti C0 hZ hk0 fRX8_341 rfl dX8_image_20 ?_
  refine z_puti C0 hZ h1 hk0 fRX8_543 rfl tyX8_ok nmX8 rfl rfl rfl dX8_image_23 (fun σ_4 H locs h1 hZ => ?_)
  refine lv_aload_n hx hb dX8_image_26 rfl (lv_at hl 0 rfl) ?_
  refine lv_aload_n hx hb dX8_image_27 rfl (lv_at hl 0 rfl) ?_
  refine z_geti C0 hZ hk0 fRX8_344 rfl dX8_image_28 ?_
  refine z_puti C0 hZ h1 hk0 fRX8_546 rfl tyX8_ok nmX8 rfl rfl rfl dX8_image_31 (fun σ_5 H locs h1 hZ => ?_)
  refine lv_aload_n hx hb dX8_image_34 rfl (lv_at hl 0 rfl) ?_
  refine lv_aload_n hx hb dX8_image_35 rfl (lv_at hl 0 rfl) ?_
  refine z_getr C0 hZ hk0 fRX8_138 rfl dX8_image_36 ?_
  refine lv_iconst (v := 0) hx hb dX8_image_39 (by decide) ?_
  refine z_cVv (As := [.ref (zad V (k0 + 34)), .int 0]) (rest := []) C0 hZ h1 (fun _ hf => kX8_pack l hk0 (zkt8_76 hk0) hf) mRX8_453 vX8_pack hk0 rfl rfl hl.1 (Nat.le_of_ble_eq_true rfl) ⟨Nat.le_of_ble_eq_true rfl, Nat.le_of_ble_eq_true rfl⟩ dX8_image_40 ⟨Nat.le_of_ble_eq_true rfl, Nat.le_of_ble_eq_true rfl⟩ (fun _ σ_6 H locs h1 hZ => ?_)
  refine lv_aload_n hx hb dX8_image_43 rfl (lv_at hl 0 rfl) ?_
  refine z_getr C0 hZ hk0 fRX8_141 rfl dX8_image_44 ?_
  refine lv_aload_n hx hb dX8_image_47 rfl (lv_at hl 0 rfl) ?_
  refine z_getr C0 hZ hk0 fRX8_93 rfl dX8_image_48 ?_
  refine z_cSv (As := [.ref (zad V (k0 + 35)), .ref (zad V (k0 + 19))]) (rest := []) C0 hZ h1 (fun _ hf => kX8_be l (zkt8_77 hk0) (zkt8_38 hk0) hf) mRX8_549 sX8_be rfl rfl hl.1 (Nat.le_of_ble_eq_true rfl) ⟨Nat.le_of_ble_eq_true rfl, Nat.le_of_ble_eq_true rfl⟩ dX8_image_51 ⟨Nat.le_of_ble_eq_true rfl, Nat.le_of_ble_eq_true rfl⟩ (fun _ σ_8 H locs h1 hZ => ?_)
  refine lv_aload_n hx hb dX8_image_54 rfl (lv_at hl 0 rfl) ?_
  refine z_getr C0 hZ hk0 fRX8_144 rfl dX8_image_55 ?_
  refine lv_aload_n hx hb dX8_image_58 rfl (lv_at hl 0 rfl) ?_
  refine z_getr C0 hZ hk0 fRX8_123 rfl dX8_image_59 ?_
  refine z_cSv (As := [.ref (zad V (k0 + 36)), .ref (zad V (k0 + 29))]) (rest := []) C0 hZ h1 (fun _ hf => kX8_be l (zkt8_78 hk0) (zkt8_66 hk0) hf) mRX8_549 sX8_be rfl rfl hl.1 (Nat.le_of_ble_eq_true rfl) ⟨Nat.le_of_ble_eq_true rfl, Nat.le_of_ble_eq_true rfl⟩ dX8_image_62 ⟨Nat.le_of_ble_eq_true rfl, Nat.le_of_ble_eq_true rfl⟩ (fun _ σ_10 H locs h1 hZ => ?_)
  refine lv_aload_n hx hb dX8_image_65 rfl (lv_at hl 0 rfl) ?_
  refine z_getr C0 hZ hk0 fRX8_147 rfl dX8_image_66 ?_
  refine lv_aload_n hx hb dX8_image_69 rfl (lv_at hl 0 rfl) ?_
  refine z_getr C0 hZ hk0 fRX8_126 rfl dX8_image_70 ?_
  refine z_cSv (As := [.ref (zad V (k0 + 37)), .ref (zad V (k0 + 30))]) (rest := []) C0 hZ h1 (fun _ hf => kX8_be l (zkt8_79 hk0) (zkt8_67 hk0) hf) mRX8_549 sX8_be rfl rfl hl.1 (Nat.le_of_ble_eq_true rfl) ⟨Nat.le_of_ble_eq_true rfl, Nat.le_of_ble_eq_true rfl⟩ dX8_image_73 ⟨Nat.le_of_ble_eq_true rfl, Nat.le_of_ble_eq_true rfl⟩ (fun _ σ_12 H locs h1 hZ => ?_)
  refine lv_aload_n hx hb dX8_image_76 rfl (lv_at hl 0 rfl) ?_
  refine z_getr C0 hZ hk0 fRX8_150 rfl dX8_image_77 ?_
  refine lv_aload_n hx hb dX8_image_80 rfl (lv_at hl 0 rfl) ?_
  refine z_getr C0 hZ hk0 fRX8_129 rfl dX8_image_81 ?_
  refine z_cSv (As := [.ref (zad V (k0 + 38)), .ref (zad V (k0 + 31))]) (rest := []) C0 hZ h1 (fun _ hf => kX8_be l (zkt8_80 hk0) (zkt8_68 hk0) hf) mRX8_549 sX8_be rfl rfl hl.1 (Nat.le_of_ble_eq_true rfl) ⟨Nat.le_of_ble_eq_true rfl, Nat.le_of_ble_eq_true rfl⟩ dX8_image_84 ⟨Nat.le_of_ble_eq_true rfl, Nat.le_of_ble_eq_true rfl⟩ (fun _ σ_14 H locs h1 hZ => ?_)
  refine lv_aload_n hx hb dX8_image_87 rfl (lv_at hl 0 rfl) ?_
  refine z_getr C0 hZ hk0 fRX8_153 rfl dX8_image_88 ?_
  refine lv_aload_n hx hb dX8_image_91 rfl (lv_at hl 0 rfl) ?_
  refine z_getr C0 hZ hk0 fRX8_132 rfl dX8_image_92 ?_
  refine z_cSv (As := [.ref (zad V (k0 + 39)), .ref (zad V (k0 + 32))]) (rest := []) C0 hZ h1 (fun _ hf => kX8_be l (zkt8_81 hk0) (zkt8_69 hk0) hf) mRX8_549 sX8_be rfl rfl hl.1 (Nat.le_of_ble_eq_true rfl) ⟨Nat.le_of_ble_eq_true rfl, Nat.le_of_ble_eq_true rfl⟩ dX8_image_95 ⟨Nat.le_of_ble_eq_true rfl, Nat.le_of_ble_eq_true rfl⟩ (fun _ σ_16 H locs h1 hZ => ?_)
  refine lv_aload_n hx hb dX8_image_98 rfl (lv_at hl 0 rfl) ?_
  refine z_getr C0 hZ hk0 fRX8_156 rfl dX8_image_99 ?_
  refine lv_aload_n hx hb dX8_image_102 rfl (lv_at hl 0 rfl) ?_
  refine z_getr C0 hZ hk0 fRX8_78 rfl dX8_image_103 ?_
  refine z_cSv (As := [.ref (zad V (k0 + 40)), .ref (zad V (k0 + 16))]) (rest := []) C0 hZ h1 (fun _ hf => kX8_be l (zkt8_82 hk0) (zkt8_16 hk0) hf) mRX8_549 sX8_be rfl rfl hl.1 (Nat.le_of_ble_eq_true rfl) ⟨Nat.le_of_ble_eq_true rfl, Nat.le_of_ble_eq_true rfl⟩ dX8_image_106 ⟨Nat.le_of_ble_eq_true rfl, Nat.le_of_ble_eq_true rfl⟩ (fun _ σ_18 H locs h1 hZ => ?_)
  rw [hQ]; exact z_vret C0 hr hlk hZ h1 dX8_image_109
noncomputable def FX8_restore (k0 : Nat) (σ : zS) : Option (Int32 × zS) := zlet (zup σ k0 2 0) (fun σ_1 => if (σ_1 k0 72) = 0 then zgd (0 == 0 || 0 == 1) (some (0, σ_1)) else zlet (zup σ_1 k0 35 (σ_1 k0 73)) (fun σ_2 => zlet (zup σ_2 k0 36 (σ_2 k0 74)) (fun σ_3 => zlet (zup σ_3 k0 37 (σ_3 k0 75)) (fun σ_4 => zbd (FX8_unpack k0 (k0 + 34) 0 σ_4) (fun _ σ_5 => zbd (FX8_be (k0 + 19) (k0 + 35) σ_5) (fun _ σ_7 => zbd (FX8_be (k0 + 29) (k0 + 36) σ_7) (fun _ σ_9 => zbd (FX8_be (k0 + 30) (k0 + 37) σ_9) (fun _ σ_11 => zbd (FX8_be (k0 + 31) (k0 + 38) σ_11) (fun _ σ_13 => zbd (FX8_be (k0 + 32) (k0 + 39) σ_13) (fun _ σ_15 => zbd (FX8_be (k0 + 16) (k0 + 40) σ_15) (fun _ σ_17 => zgd (1 == 0 || 1 == 1) (some (1, σ_17)))))))))))))
set_option maxHeartbeats 4000000 in
set_option maxRecDepth 100000 in
theorem kX8_restore (l : Launch) {V : zV} {σ : zS} {t0 : Int32 × zS} {k0 : Nat} (hk0 : kd 1 k0 = 8) (h1 : FX8_restore k0 σ = some t0) : zMi l yX8_restore cX8_restore 1 (some .boolean) 1 23 1 V σ t0 [.ref (zad V k0)] := by
  refine zMi_of (by decide) (Nat.le_of_ble_eq_true rfl) ?_
  intro p e s m below meth c A C0 hr hlk hZ ls hl
  generalize ([.ref (zad V k0)] : List Value).toArray = args at C0 ⊢
  obtain ⟨Q, hQ⟩ : ∃ Q, Q = MQ below (zQi 1 V t0 A) args s 0 0 A := ⟨_, rfl⟩
  rw [← hQ]
  have hx := C0.1
  have hb := C0.2.1
  have hl : lv_has ls 1 [(0, .ref (zad V k0))] := hl
  unfold FX8_restore at h1
  refine lv_aload_n hx hb dX8_restore_0 rfl (lv_at hl 0 rfl) ?_
  refine lv_iconst (v := 0) hx hb dX8_restore_1 (by decide) ?_
  refine z_puti C0 hZ h1 hk0 fRX8_159 rfl tyX8_ok nmX8 rfl rfl rfl dX8_restore_2 (fun σ_1 H locs h1 hZ => ?_)
  refine lv_aload_n hx hb dX8_restore_5 rfl (lv_at hl 0 rfl) ?_
  refine z_geti C0 hZ hk0 fRX8_351 rfl dX8_restore_6 ?_
  refine z_if_ne (tgt := 14) C0 h1 dX8_restore_9 (by decide) (fun h1 => ?_) (fun h1 => ?_)
  · refine lv_aload_n hx hb dX8_restore_14 rfl (lv_at hl 0 rfl) ?_
    refine lv_aload_n hx hb dX8_restore_15 rfl (lv_at hl 0 rfl) ?_
    refine z_geti C0 hZ hk0 fRX8_540 rfl dX8_restore_16 ?_
    refine z_puti C0 hZ h1 hk0 fRX8_338 rfl tyX8_ok nmX8 rfl rfl rfl dX8_restore_19 (fun σ_2 H locs h1 hZ => ?_)
    refine lv_aload_n hx hb dX8_restore_22 rfl (lv_at hl 0 rfl) ?_
    refine lv_aload_n hx hb dX8_restore_23 rfl (lv_at hl 0 rfl) ?_
    refine z_geti C0 hZ hk0 fRX8_543 rfl dX8_restore_24 ?_
    refine z_puti C0 hZ h1 hk0 fRX8_341 rfl tyX8_ok nmX8 rfl rfl rfl dX8_restore_27 (fun σ_3 H locs h1 hZ => ?_)
    refine lv_aload_n hx hb dX8_restore_30 rfl (lv_at hl 0 rfl) ?_
    refine lv_aload_n hx hb dX8_restore_31 rfl (lv_at hl 0 rfl) ?_
    refine z_geti C0 hZ hk0 fRX8_546 rfl dX8_restore_32 ?_
    refine z_puti C0 hZ h1 hk0 fRX8_344 rfl tyX8_ok nmX8 rfl rfl rfl dX8_restore_35 (fun σ_4 H locs h1 hZ => ?_)
    refine lv_aload_n hx hb dX8_restore_38 rfl (lv_at hl 0 rfl) ?_
    refine lv_aload_n hx hb dX8_restore_39 rfl (lv_at hl 0 rfl) ?_
    refine z_getr C0 hZ hk0 fRX8_138 rfl dX8_restore_40 ?_
    refine lv_iconst (v := 0) hx hb dX8_restore_43 (by decide) ?_
    refine z_cVv (As := [.ref (zad V (k0 + 34)), .int 0]) (rest := []) C0 hZ h1 (fun _ hf => kX8_unpack l hk0 (zkt8_76 hk0) hf) mRX8_475 vX8_unpack hk0 rfl rfl hl.1 (Nat.le_of_ble_eq_true rfl) ⟨Nat.le_of_ble_eq_true rfl, Nat.le_of_ble_eq_true rfl⟩ dX8_restore_44 ⟨Nat.le_of_ble_eq_true rfl, Nat.le_of_ble_eq_true rfl⟩ (fun _ σ_5 H locs h1 hZ => ?_)
    refine lv_aload_n hx hb dX8_restore_47 rfl (lv_at hl 0 rfl) ?_
    refine z_getr C0 hZ hk0 fRX8_93 rfl dX8_restore_48 ?_
    refine lv_aload_n hx hb dX8_restore_51 rfl (lv_at hl 0 rfl) ?_
    refine z_getr C0 hZ hk0 fRX8_141 rfl dX8_restore_52 ?_
    refine z_cSv (As := [.ref (zad V (k0 + 19)), .ref (zad V (k0 + 35))]) (rest := []) C0 hZ h1 (fun _ hf => kX8_be l (zkt8_38 hk0) (zkt8_77 hk0) hf) mRX8_549 sX8_be rfl rfl hl.1 (Nat.le_of_ble_eq_true rfl) ⟨Nat.le_of_ble_eq_true rfl, Nat.le_of_ble_eq_true rfl⟩ dX8_restore_55 ⟨Nat.le_of_ble_eq_true rfl, Nat.le_of_ble_eq_true rfl⟩ (fun _ σ_7 H locs h1 hZ => ?_)
    refine lv_aload_n hx hb dX8_restore_58 rfl (lv_at hl 0 rfl) ?_
    refine z_getr C0 hZ hk0 fRX8_123 rfl dX8_restore_59 ?_
    refine lv_aload_n hx hb dX8_restore_62 rfl (lv_at hl 0 rfl) ?_
    refine z_getr C0 hZ hk0 fRX8_144 rfl dX8_restore_63 ?_
    refine z_cSv (As := [.ref (zad V (k0 + 29)), .ref (zad V (k0 + 36))]) (rest := []) C0 hZ h1 (fun _ hf => kX8_be l (zkt8_66 hk0) (zkt8_78 hk0) hf) mRX8_549 sX8_be rfl rfl hl.1 (Nat.le_of_ble_eq_true rfl) ⟨Nat.le_of_ble_eq_true rfl, Nat.le_of_ble_eq_true rfl⟩ dX8_restore_66 ⟨Nat.le_of_ble_eq_true rfl, Nat.le_of_ble_eq_true rfl⟩ (fun _ σ_9 H locs h1 hZ => ?_)
    refine lv_aload_n hx hb dX8_restore_69 rfl (lv_at hl 0 rfl) ?_
    refine z_getr C0 hZ hk0 fRX8_126 rfl dX8_restore_70 ?_
    refine lv_aload_n hx hb dX8_restore_73 rfl (lv_at hl 0 rfl) ?_
    refine z_getr C0 hZ hk0 fRX8_147 rfl dX8_restore_74 ?_
    refine z_cSv (As := [.ref (zad V (k0 + 30)), .ref (zad V (k0 + 37))]) (rest := []) C0 hZ h1 (fun _ hf => kX8_be l (zkt8_67 hk0) (zkt8_79 hk0) hf) mRX8_549 sX8_be rfl rfl hl.1 (Nat.le_of_ble_eq_true rfl) ⟨Nat.le_of_ble_eq_true rfl, Nat.le_of_ble_eq_true rfl⟩ dX8_restore_77 ⟨Nat.le_of_ble_eq_true rfl, Nat.le_of_ble_eq_true rfl⟩ (fun _ σ_11 H locs h1 hZ => ?_)
    refine lv_aload_n hx hb dX8_restore_80 rfl (lv_at hl 0 rfl) ?_
    refine z_getr C0 hZ hk0 fRX8_129 rfl dX8_restore_81 ?_
    refine lv_aload_n hx hb dX8_restore_84 rfl (lv_at hl 0 rfl) ?_
    refine z_getr C0 hZ hk0 fRX8_150 rfl dX8_restore_85 ?_
    refine z_cSv (As := [.ref (zad V (k0 + 31)), .ref (zad V (k0 + 38))]) (rest := []) C0 hZ h1 (fun _ hf => kX8_be l (zkt8_68 hk0) (zkt8_80 hk0) hf) mRX8_549 sX8_be rfl rfl hl.1 (Nat.le_of_ble_eq_true rfl) ⟨Nat.le_of_ble_eq_true rfl, Nat.le_of_ble_eq_true rfl⟩ dX8_restore_88 ⟨Nat.le_of_ble_eq_true rfl, Nat.le_of_ble_eq_true rfl⟩ (fun _ σ_13 H locs h1 hZ => ?_)
    refine lv_aload_n hx hb dX8_restore_91 rfl (lv_at hl 0 rfl) ?_
    refine z_getr C0 hZ hk0 fRX8_132 rfl dX8_restore_92 ?_
    refine lv_aload_n hx hb dX8_restore_95 rfl (lv_at hl 0 rfl) ?_
    refine z_getr C0 hZ hk0 fRX8_153 rfl dX8_restore_96 ?_
    refine z_cSv (As := [.ref (zad V (k0 + 32)), .ref (zad V (k0 + 39))]) (rest := []) C0 hZ h1 (fun _ hf => kX8_be l (zkt8_69 hk0) (zkt8_81 hk0) hf) mRX8_549 sX8_be rfl rfl hl.1 (Nat.le_of_ble_eq_true rfl) ⟨Nat.le_of_ble_eq_true rfl, Nat.le_of_ble_eq_true rfl⟩ dX8_restore_99 ⟨Nat.le_of_ble_eq_true rfl, Nat.le_of_ble_eq_true rfl⟩ (fun _ σ_15 H locs h1 hZ => ?_)
    refine lv_aload_n hx hb dX8_restore_102 rfl (lv_at hl 0 rfl) ?_
    refine z_getr C0 hZ hk0 fRX8_78 rfl dX8_restore_103 ?_
    refine lv_aload_n hx hb dX8_restore_106 rfl (lv_at hl 0 rfl) ?_
    refine z_getr C0 hZ hk0 fRX8_156 rfl dX8_restore_107 ?_
    refine z_cSv (As := [.ref (zad V (k0 + 16)), .ref (zad V (k0 + 40))]) (rest := []) C0 hZ h1 (fun _ hf => kX8_be l (zkt8_16 hk0) (zkt8_82 hk0) hf) mRX8_549 sX8_be rfl rfl hl.1 (Nat.le_of_ble_eq_true rfl) ⟨Nat.le_of_ble_eq_true rfl, Nat.le_of_ble_eq_true rfl⟩ dX8_restore_110 ⟨Nat.le_of_ble_eq_true rfl, Nat.le_of_ble_eq_true rfl⟩ (fun _ σ_17 H locs h1 hZ => ?_)
    refine lv_iconst (v := 1) hx hb dX8_restore_113 (by decide) ?_
    rw [hQ]; exact z_zret C0 hr hlk hZ h1 dX8_restore_114
  refine lv_iconst (v := 0) hx hb dX8_restore_12 (by decide) ?_
  rw [hQ]; exact z_zret C0 hr hlk hZ h1 dX8_restore_13
