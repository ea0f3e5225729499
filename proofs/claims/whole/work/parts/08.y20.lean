noncomputable def FX8_miss_b29 (k0 : Nat) (σ : zS) : Option (Int32 × zS) := zbd (FX8_refuse k0 2 σ) (fun r_2 σ_1 => some (r_2, σ_1))
noncomputable def FX8_miss (k0 : Nat) (x1 : Int32) (x2 : Int32) (σ : zS) : Option (Int32 × zS) := zlet (zup σ k0 2 0) (fun σ_3 => if (σ_3 k0 37) = 8 then FX8_miss_b29 k0 σ_3 else zbd (FX8_isAisle k0 x1 σ_3) (fun r_5 σ_4 => if r_5 = 0 then FX8_miss_b29 k0 σ_4 else zbd (FX8_isMinute x2 σ_4) (fun r_7 σ_6 => if r_7 = 0 then FX8_miss_b29 k0 σ_6 else zin (ln 1 (k0 + 31)) (σ_6 k0 37) (zlet (zup σ_6 (k0 + 31) (Int32.toNatClampNeg (σ_6 k0 37)) x1) (fun σ_8 => zin (ln 1 (k0 + 32)) (σ_8 k0 37) (zlet (zup σ_8 (k0 + 32) (Int32.toNatClampNeg (σ_8 k0 37)) x2) (fun σ_9 => zlet (zup σ_9 k0 37 ((σ_9 k0 37) + 1)) (fun σ_10 => some ((σ_10 k0 37), σ_10)))))))))
set_option maxHeartbeats 4000000 in
set_option maxRecDepth 100000 in
theorem kX8_miss (l : Launch) {V : zV} {σ : zS} {t0 : Int32 × zS} {k0 : Nat} {x1 : Int32} {x2 : Int32} (hk0 : kd 1 k0 = 8) (h1 : FX8_miss k0 x1 x2 σ = some t0) : zMi l yX8_miss cX8_miss 3 (some .int) 2 46 1 V σ t0 [.ref (zad V k0), .int x1, .int x2] := by
  refine zMi_of (by decide) (Nat.le_of_ble_eq_true rfl) ?_
  intro p e s m below meth c A C0 hr hlk hZ ls hl
  generalize ([.ref (zad V k0), .int x1, .int x2] : List Value).toArray = args at C0 ⊢
  obtain ⟨Q, hQ⟩ : ∃ Q, Q = MQ below (zQi 1 V t0 A) args s 0 0 A := ⟨_, rfl⟩
  rw [← hQ]
  have hx := C0.1
  have hb := C0.2.1
  have hl : lv_has ls 3 [(0, .ref (zad V k0)), (1, .int x1), (2, .int x2)] := hl
  unfold FX8_miss at h1
  have J29 : ∀  (σ : zS) (H : Heap) (locs : List Loc) (ls : Array Slot), zZ 1 V A σ s H locs → lv_has ls 3 [(0, .ref (zad V k0))] → FX8_miss_b29 k0 σ = some t0 → W p l e (zrm 2 46) s m args below meth c H locs 0 0 Q (F0 m 29 ls []) := by
    intro  σ H locs ls  hZ hl h1
    unfold FX8_miss_b29 at h1
    refine lv_aload_n hx hb dX8_miss_29 rfl (lv_at hl 0 rfl) ?_
    refine lv_iconst (v := 2) hx hb dX8_miss_30 (by decide) ?_
    refine z_cVi (As := [.int 2]) (rest := []) C0 hZ h1 (fun _ hf => kX8_refuse l hk0 hf) mRX8_462 vX8_refuse hk0 rfl rfl hl.1 (Nat.le_of_ble_eq_true rfl) ⟨Nat.le_of_ble_eq_true rfl, Nat.le_of_ble_eq_true rfl⟩ dX8_miss_31 ⟨Nat.le_of_ble_eq_true rfl, Nat.le_of_ble_eq_true rfl⟩ (fun r_2 σ_1 H locs h1 hZ => ?_)
    rw [hQ]; exact z_iret C0 hr hlk hZ h1 dX8_miss_34
  refine lv_aload_n hx hb dX8_miss_0 rfl (lv_at hl 0 rfl) ?_
  refine lv_iconst (v := 0) hx hb dX8_miss_1 (by decide) ?_
  refine z_puti C0 hZ h1 hk0 fRX8_159 rfl tyX8_ok nmX8 rfl rfl rfl dX8_miss_2 (fun σ_3 H locs h1 hZ => ?_)
  refine lv_aload_n hx hb dX8_miss_5 rfl (lv_at hl 0 rfl) ?_
  refine z_geti C0 hZ hk0 fRX8_344 rfl dX8_miss_6 ?_
  refine lv_bipush (v := 8) hx hb dX8_miss_9 (by decide) ?_
  refine z_ic_eq (tgt := 29) C0 h1 dX8_miss_11 (by decide) (fun h1 => ?_) (fun h1 => ?_)
  · exact J29  _ _ _ _  hZ (lv_sub hl [0] rfl) h1
  refine lv_aload_n hx hb dX8_miss_14 rfl (lv_at hl 0 rfl) ?_
  refine lv_iload_n hx hb dX8_miss_15 rfl (lv_at hl 1 rfl) ?_
  refine z_cVi (As := [.int x1]) (rest := []) C0 hZ h1 (fun _ hf => kX8_isAisle l hk0 hf) mRX8_357 vX8_isAisle hk0 rfl rfl hl.1 (Nat.le_of_ble_eq_true rfl) ⟨Nat.le_of_ble_eq_true rfl, Nat.le_of_ble_eq_true rfl⟩ dX8_miss_16 ⟨Nat.le_of_ble_eq_true rfl, Nat.le_of_ble_eq_true rfl⟩ (fun r_5 σ_4 H locs h1 hZ => ?_)
  refine z_if_eq (tgt := 29) C0 h1 dX8_miss_19 (by decide) (fun h1 => ?_) (fun h1 => ?_)
  · exact J29  _ _ _ _  hZ (lv_sub hl [0] rfl) h1
  refine lv_iload_n hx hb dX8_miss_22 rfl (lv_at hl 2 rfl) ?_
  refine z_cSi (As := [.int x2]) (rest := []) C0 hZ h1 (fun _ hf => kX8_isMinute l  hf) mRX8_483 sX8_isMinute rfl rfl hl.1 (Nat.le_of_ble_eq_true rfl) ⟨Nat.le_of_ble_eq_true rfl, Nat.le_of_ble_eq_true rfl⟩ dX8_miss_23 ⟨Nat.le_of_ble_eq_true rfl, Nat.le_of_ble_eq_true rfl⟩ (fun r_7 σ_6 H locs h1 hZ => ?_)
  refine z_if_ne (tgt := 35) C0 h1 dX8_miss_26 (by decide) (fun h1 => ?_) (fun h1 => ?_)
  · refine lv_aload_n hx hb dX8_miss_35 rfl (lv_at hl 0 rfl) ?_
    refine z_getr C0 hZ hk0 fRX8_129 rfl dX8_miss_36 ?_
    refine lv_aload_n hx hb dX8_miss_39 rfl (lv_at hl 0 rfl) ?_
    refine z_geti C0 hZ hk0 fRX8_344 rfl dX8_miss_40 ?_
    refine lv_iload_n hx hb dX8_miss_43 rfl (lv_at hl 1 rfl) ?_
    refine z_iast C0 hZ h1 (zkt8_68 hk0) dX8_miss_44 (fun σ_8 H locs h1 hZ => ?_)
    refine lv_aload_n hx hb dX8_miss_45 rfl (lv_at hl 0 rfl) ?_
    refine z_getr C0 hZ hk0 fRX8_132 rfl dX8_miss_46 ?_
    refine lv_aload_n hx hb dX8_miss_49 rfl (lv_at hl 0 rfl) ?_
    refine z_geti C0 hZ hk0 fRX8_344 rfl dX8_miss_50 ?_
    refine lv_iload_n hx hb dX8_miss_53 rfl (lv_at hl 2 rfl) ?_
    refine z_iast C0 hZ h1 (zkt8_69 hk0) dX8_miss_54 (fun σ_9 H locs h1 hZ => ?_)
    refine lv_aload_n hx hb dX8_miss_55 rfl (lv_at hl 0 rfl) ?_
    refine lv_dup hx hb dX8_miss_56 rfl ?_
    refine z_geti C0 hZ hk0 fRX8_344 rfl dX8_miss_57 ?_
    refine lv_iconst (v := 1) hx hb dX8_miss_60 (by decide) ?_
    refine lv_iadd hx hb dX8_miss_61 ?_
    refine z_puti C0 hZ h1 hk0 fRX8_344 rfl tyX8_ok nmX8 rfl rfl rfl dX8_miss_62 (fun σ_10 H locs h1 hZ => ?_)
    refine lv_aload_n hx hb dX8_miss_65 rfl (lv_at hl 0 rfl) ?_
    refine z_geti C0 hZ hk0 fRX8_344 rfl dX8_miss_66 ?_
    rw [hQ]; exact z_iret C0 hr hlk hZ h1 dX8_miss_69
  exact J29  _ _ _ _  hZ (lv_sub hl [0] rfl) h1
noncomputable def FX8_forget (k0 : Nat) (σ : zS) : Option (Int32 × zS) := zlet (zup σ k0 2 0) (fun σ_1 => zlet (zup σ_1 k0 36 0) (fun σ_2 => zlet (zup σ_2 k0 37 0) (fun σ_3 => some (0, σ_3))))
set_option maxHeartbeats 4000000 in
set_option maxRecDepth 100000 in
theorem kX8_forget (l : Launch) {V : zV} {σ : zS} {t0 : Int32 × zS} {k0 : Nat} (hk0 : kd 1 k0 = 8) (h1 : FX8_forget k0 σ = some t0) : zMv l yX8_forget cX8_forget 1 0 0 1 V σ t0 [.ref (zad V k0)] := by
  refine zMv_of (by decide) (Nat.le_of_ble_eq_true rfl) ?_
  intro p e s m below meth c A C0 hr hlk hZ ls hl
  generalize ([.ref (zad V k0)] : List Value).toArray = args at C0 ⊢
  obtain ⟨Q, hQ⟩ : ∃ Q, Q = MQ below (zQv 1 V t0 A) args s 0 0 A := ⟨_, rfl⟩
  rw [← hQ]
  have hx := C0.1
  have hb := C0.2.1
  have hl : lv_has ls 1 [(0, .ref (zad V k0))] := hl
  unfold FX8_forget at h1
  refine lv_aload_n hx hb dX8_forget_0 rfl (lv_at hl 0 rfl) ?_
  refine lv_iconst (v := 0) hx hb dX8_forget_1 (by decide) ?_
  refine z_puti C0 hZ h1 hk0 fRX8_159 rfl tyX8_ok nmX8 rfl rfl rfl dX8_forget_2 (fun σ_1 H locs h1 hZ => ?_)
  refine lv_aload_n hx hb dX8_forget_5 rfl (lv_at hl 0 rfl) ?_
  refine lv_iconst (v := 0) hx hb dX8_forget_6 (by decide) ?_
  refine z_puti C0 hZ h1 hk0 fRX8_341 rfl tyX8_ok nmX8 rfl rfl rfl dX8_forget_7 (fun σ_2 H locs h1 hZ => ?_)
  refine lv_aload_n hx hb dX8_forget_10 rfl (lv_at hl 0 rfl) ?_
  refine lv_iconst (v := 0) hx hb dX8_forget_11 (by decide) ?_
  refine z_puti C0 hZ h1 hk0 fRX8_344 rfl tyX8_ok nmX8 rfl rfl rfl dX8_forget_12 (fun σ_3 H locs h1 hZ => ?_)
  rw [hQ]; exact z_vret C0 hr hlk hZ h1 dX8_forget_15
noncomputable def FX8_tellCanHave_b110  (σ : zS) : Option (Int32 × zS) := some (0, σ)
noncomputable def FX8_tellCanHave_b104 (k0 : Nat) (x1 : Int32) (σ : zS) : Option ((Int32 × zS) ⊕ (Int32 × zS)) := zlet (x1 + 1) (fun x1_1 => some (.inl (x1_1, σ)))
noncomputable def FX8_tellCanHave_b98 (k0 : Nat) (x1 : Int32) (x2 : Int32) (σ : zS) : Option ((Int32 × zS) ⊕ ((Int32 × zS) ⊕ (Int32 × zS))) := zlet (x2 + 1) (fun x2_2 => some (.inl (x2_2, σ)))
noncomputable def FX8_tellCanHave_b92 (k0 : Nat) (x1 : Int32) (x2 : Int32) (x3 : Int32) (x4 : Int32) (σ : zS) : Option ((Int32 × zS) ⊕ ((Int32 × zS) ⊕ ((Int32 × zS) ⊕ (Int32 × zS)))) := zlet (x4 + 1) (fun x4_3 => some (.inl (x4_3, σ)))
noncomputable def FX8_tellCanHave_L53 (k0 : Nat) (x1 : Int32) (x2 : Int32) (x3 : Int32) (x4 : Int32) (σ : zS) : Option ((Int32 × zS) ⊕ ((Int32 × zS) ⊕ ((Int32 × zS) ⊕ (Int32 × zS)))) := if x3 ≤ x4 then zinr (FX8_tellCanHave_b98 k0 x1 x2 σ) else zin (ln 1 (k0 + 13)) ((12 * x2) + x4) (zin (ln 1 (k0 + 31)) x1 (if (σ (k0 + 13) (Int32.toNatClampNeg ((12 * x2) + x4))) = (σ (k0 + 31) (Int32.toNatClampNeg x1)) then zin (ln 1 (k0 + 33)) x1 (zin (ln 1 (k0 + 33)) x1 (zlet (zup σ (k0 + 33) (Int32.toNatClampNeg x1) ((σ (k0 + 33) (Int32.toNatClampNeg x1)) ||| ((1 : Int32) <<< (x2 &&& 31)))) (fun σ_4 => FX8_tellCanHave_b92 k0 x1 x2 x3 x4 σ_4))) else FX8_tellCanHave_b92 k0 x1 x2 x3 x4 σ))
noncomputable def FX8_tellCanHave_L19 (k0 : Nat) (x1 : Int32) (x2 : Int32) (σ : zS) : Option ((Int32 × zS) ⊕ ((Int32 × zS) ⊕ (Int32 × zS))) := zin (ln 1 (k0 + 3)) 3 (if (σ (k0 + 3) (Int32.toNatClampNeg 3)) ≤ x2 then zinr (FX8_tellCanHave_b104 k0 x1 σ) else zin (ln 1 (k0 + 12)) x2 (zin (ln 1 (k0 + 32)) x1 (zbd (FX8_seconds k0 x2 (σ (k0 + 32) (Int32.toNatClampNeg x1)) σ) (fun r_6 σ_5 => zlet (if r_6 < (σ (k0 + 12) (Int32.toNatClampNeg x2)) then r_6 else (σ (k0 + 12) (Int32.toNatClampNeg x2))) (fun x3_8 => zlet 0 (fun x4_9 => zlp (fun q => FX8_tellCanHave_L53 k0 x1 x2 x3_8 q.1 q.2) (x4_9, σ_5)))))))
noncomputable def FX8_tellCanHave_L2 (k0 : Nat) (x1 : Int32) (σ : zS) : Option ((Int32 × zS) ⊕ (Int32 × zS)) := if (σ k0 37) ≤ x1 then zinr (FX8_tellCanHave_b110  σ) else zin (ln 1 (k0 + 33)) x1 (zlet (zup σ (k0 + 33) (Int32.toNatClampNeg x1) 0) (fun σ_10 => zlet 0 (fun x2_11 => zlp (fun q => FX8_tellCanHave_L19 k0 x1 q.1 q.2) (x2_11, σ_10))))
noncomputable def FX8_tellCanHave (k0 : Nat) (σ : zS) : Option (Int32 × zS) := zlet 0 (fun x1_12 => zlp (fun q => FX8_tellCanHave_L2 k0 q.1 q.2) (x1_12, σ))
set_option maxHeartbeats 4000000 in
set_option maxRecDepth 100000 in
theorem kX8_tellCanHave (l : Launch) {V : zV} {σ : zS} {t0 : Int32 × zS} {k0 : Nat} (hk0 : kd 1 k0 = 8) (h1 : FX8_tellCanHave k0 σ = some t0) : zMv l yX8_tellCanHave cX8_tellCanHave 5 1 40 1 V σ t0 [.ref (zad V k0)] := by
  refine zMv_of (by decide) (Nat.le_of_ble_eq_true rfl) ?_
  intro p e s m below meth c A C0 hr hlk hZ ls hl
  generalize ([.ref (zad V k0)] : List Value).toArray = args at C0 ⊢
  obtain ⟨Q, hQ⟩ : ∃ Q, Q = MQ below (zQv 1 V t0 A) args s 0 0 A := ⟨_, rfl⟩
  rw [← hQ]
  have hx := C0.1
  have hb := C0.2.1
  have hl : lv_has ls 5 [(0, .ref (zad V k0))] := hl
  unfold FX8_tellCanHave at h1
  have J110 : ∀  (σ : zS) (H : Heap) (locs : List Loc) (ls : Array Slot), zZ 1 V A σ s H locs → lv_has ls 5 [] → FX8_tellCanHave_b110  σ = some t0 → W p l e (zrm 1 40) s m args below meth c H locs 0 0 Q (F0 m 110 ls []) := by
    intro  σ H locs ls  hZ hl h1
    unfold FX8_tellCanHave_b110 at h1
    rw [hQ]; exact z_vret C0 hr hlk hZ h1 dX8_tellCanHave_110
  have J2 : ∀ (n : Nat) (x1 : Int32) (σ : zS) (H : Heap) (locs : List Loc) (ls : Array Slot), zZ 1 V A σ s H locs → lv_has ls 5 [(0, .ref (zad V k0)), (1, .int x1)] → zit (fun q => FX8_tellCanHave_L2 k0 q.1 q.2) n (x1, σ) = some t0 → W p l e (zrm 1 40) s m args below meth c H locs 0 0 Q (F0 m 2 ls []) := by
    intro n
    induction n with
    | zero => intro x1 σ H locs ls  _ _ h1; cases h1
    | succ n ih2 =>
      intro x1 σ H locs ls  hZ hl h1
      obtain ⟨t1, h1, hz1⟩ := zit_1 h1
      have J104 : ∀ (x1 : Int32) (σ : zS) (H : Heap) (locs : List Loc) (ls : Array Slot), zZ 1 V A σ s H locs → lv_has ls 5 [(0, .ref (zad V k0)), (1, .int x1)] → FX8_tellCanHave_b104 k0 x1 σ = some t1 → W p l e (zrm 1 40) s m args below meth c H locs 0 0 Q (F0 m 104 ls []) := by
        intro x1 σ H locs ls  hZ hl h1
        unfold FX8_tellCanHave_b104 at h1
        refine z_iinc (v := 1) C0 h1 hl (fun x1_1 => [(1, .int x1_1), (0, .ref (zad V k0))]) dX8_tellCanHave_104 (k := 1) rfl (by decide) (by decide) (fun _ => rfl) (fun x1_1 ls h1 hl => ?_)
        refine lv_goto (tgt := 2) hx hb dX8_tellCanHave_107 (by decide) ?_
        exact ih2 x1_1 _ _ _ _  hZ (lv_sub hl [1, 0] rfl) (zback h1 hz1)
      have J19 : ∀ (n : Nat) (x1 : Int32) (x2 : Int32) (σ : zS) (H : Heap) (locs : List Loc) (ls : Array Slot), zZ 1 V A σ s H locs → lv_has ls 5 [(0, .ref (zad V k0)), (1, .int x1), (2, .int x2)] → zit (fun q => FX8_tellCanHave_L19 k0 x1 q.1 q.2) n (x2, σ) = some t1 → W p l e (zrm 1 40) s m args below meth c H locs 0 0 Q (F0 m 19 ls []) := by
        intro n
        induction n with
        | zero => intro x1 x2 σ H locs ls  _ _ h1; cases h1
        | succ n ih19 =>
          intro x1 x2 σ H locs ls  hZ hl h1
          obtain ⟨t2, h1, hz2⟩ := zit_1 h1
          have J98 : ∀ (x2 : Int32) (σ : zS) (H : Heap) (locs : List Loc) (ls : Array Slot), zZ 1 V A σ s H locs → lv_has ls 5 [(0, .ref (zad V k0)), (1, .int x1), (2, .int x2)] → FX8_tellCanHave_b98 k0 x1 x2 σ = some t2 → W p l e (zrm 1 40) s m args below meth c H locs 0 0 Q (F0 m 98 ls []) := by
            intro x2 σ H locs ls  hZ hl h1
            unfold FX8_tellCanHave_b98 at h1
            refine z_iinc (v := 1) C0 h1 hl (fun x2_2 => [(2, .int x2_2), (0, .ref (zad V k0)), (1, .int x1)]) dX8_tellCanHave_98 (k := 2) rfl (by decide) (by decide) (fun _ => rfl) (fun x2_2 ls h1 hl => ?_)
            refine lv_goto (tgt := 19) hx hb dX8_tellCanHave_101 (by decide) ?_
            exact ih19 x1 x2_2 _ _ _ _  hZ (lv_sub hl [1, 2, 0] rfl) (zback h1 hz2)
          have J53 : ∀ (n : Nat) (x2 : Int32) (x3 : Int32) (x4 : Int32) (σ : zS) (H : Heap) (locs : List Loc) (ls : Array Slot), zZ 1 V A σ s H locs → lv_has ls 5 [(0, .ref (zad V k0)), (1, .int x1), (2, .int x2), (3, .int x3), (4, .int x4)] → zit (fun q => FX8_tellCanHave_L53 k0 x1 x2 x3 q.1 q.2) n (x4, σ) = some t2 → W p l e (zrm 1 40) s m args below meth c H locs 0 0 Q (F0 m 53 ls []) := by
            intro n
            induction n with
            | zero => intro x2 x3 x4 σ H locs ls  _ _ h1; cases h1
            | succ n ih53 =>
              intro x2 x3 x4 σ H locs ls  hZ hl h1
              obtain ⟨t3, h1, hz3⟩ := zit_1 h1
              have J92 : ∀ (x4 : Int32) (σ : zS) (H : Heap) (locs : List Loc) (ls : Array Slot), zZ 1 V A σ s H locs → lv_has ls 5 [(0, .ref (zad V k0)), (1, .int x1), (2, .int x2), (3, .int x3), (4, .int x4)] → FX8_tellCanHave_b92 k0 x1 x2 x3 x4 σ = some t3 → W p l e (zrm 1 40) s m args below meth c H locs 0 0 Q (F0 m 92 ls []) := by
                intro x4 σ H locs ls  hZ hl h1
                unfold FX8_tellCanHave_b92 at h1
                refine z_iinc (v := 1) C0 h1 hl (fun x4_3 => [(4, .int x4_3), (0, .ref (zad V k0)), (1, .int x1), (2, .int x2), (3, .int x3)]) dX8_tellCanHave_92 (k := 4) rfl (by decide) (by decide) (fun _ => rfl) (fun x4_3 ls h1 hl => ?_)
                refine lv_goto (tgt := 53) hx hb dX8_tellCanHave_95 (by decide) ?_
                exact ih53 x2 x3 x4_3 _ _ _ _  hZ (lv_sub hl [1, 2, 3, 4, 0] rfl) (zback h1 hz3)
              replace h1 : FX8_tellCanHave_L53 k0 x1 x2 x3 x4 σ = some t3 := h1
              unfold FX8_tellCanHave_L53 at h1
              refine lv_iload hx hb dX8_tellCanHave_53 (lv_at hl 4 rfl) ?_
              refine lv_iload_n hx hb dX8_tellCanHave_55 rfl (lv_at hl 3 rfl) ?_
              refine z_ic_ge (tgt := 98) C0 h1 dX8_tellCanHave_56 (by decide) (fun h1 => ?_) (fun h1 => ?_)
              · have h1 := zout h1 hz3
                exact J98 x2 _ _ _ _  hZ (lv_sub hl [0, 1, 2] rfl) h1
              refine lv_aload_n hx hb dX8_tellCanHave_59 rfl (lv_at hl 0 rfl) ?_
              refine z_getr C0 hZ hk0 fRX8_69 rfl dX8_tellCanHave_60 ?_
              refine lv_bipush (v := 12) hx hb dX8_tellCanHave_63 (by decide) ?_
              refine lv_iload_n hx hb dX8_tellCanHave_65 rfl (lv_at hl 2 rfl) ?_
              refine lv_imul hx hb dX8_tellCanHave_66 ?_
              refine lv_iload hx hb dX8_tellCanHave_67 (lv_at hl 4 rfl) ?_
              refine lv_iadd hx hb dX8_tellCanHave_69 ?_
              refine z_iald C0 hZ h1 (zkt8_13 hk0) dX8_tellCanHave_70 (fun h1 => ?_)
              refine lv_aload_n hx hb dX8_tellCanHave_71 rfl (lv_at hl 0 rfl) ?_
              refine z_getr C0 hZ hk0 fRX8_129 rfl dX8_tellCanHave_72 ?_
              refine lv_iload_n hx hb dX8_tellCanHave_75 rfl (lv_at hl 1 rfl) ?_
              refine z_iald C0 hZ h1 (zkt8_68 hk0) dX8_tellCanHave_76 (fun h1 => ?_)
              refine z_ic_ne (tgt := 92) C0 h1 dX8_tellCanHave_77 (by decide) (fun h1 => ?_) (fun h1 => ?_)
              · exact J92 x4 _ _ _ _  hZ (lv_sub hl [0, 1, 2, 3, 4] rfl) h1
              refine lv_aload_n hx hb dX8_tellCanHave_80 rfl (lv_at hl 0 rfl) ?_
              refine z_getr C0 hZ hk0 fRX8_135 rfl dX8_tellCanHave_81 ?_
              refine lv_iload_n hx hb dX8_tellCanHave_84 rfl (lv_at hl 1 rfl) ?_
              refine lv_dup2_11 hx hb dX8_tellCanHave_85 rfl rfl ?_
              refine z_iald C0 hZ h1 (zkt8_70 hk0) dX8_tellCanHave_86 (fun h1 => ?_)
              refine lv_iconst (v := 1) hx hb dX8_tellCanHave_87 (by decide) ?_
              refine lv_iload_n hx hb dX8_tellCanHave_88 rfl (lv_at hl 2 rfl) ?_
              refine lv_ishl hx hb dX8_tellCanHave_89 ?_
              refine lv_ior hx hb dX8_tellCanHave_90 ?_
              refine z_iast C0 hZ h1 (zkt8_70 hk0) dX8_tellCanHave_91 (fun σ_4 H locs h1 hZ => ?_)
              exact J92 x4 _ _ _ _  hZ (lv_sub hl [0, 1, 2, 3, 4] rfl) h1
          replace h1 : FX8_tellCanHave_L19 k0 x1 x2 σ = some t2 := h1
          unfold FX8_tellCanHave_L19 at h1
          refine lv_iload_n hx hb dX8_tellCanHave_19 rfl (lv_at hl 2 rfl) ?_
          refine lv_aload_n hx hb dX8_tellCanHave_20 rfl (lv_at hl 0 rfl) ?_
          refine z_getr C0 hZ hk0 fRX8_40 rfl dX8_tellCanHave_21 ?_
          refine lv_iconst (v := 3) hx hb dX8_tellCanHave_24 (by decide) ?_
          refine z_iald C0 hZ h1 (zkt8_3 hk0) dX8_tellCanHave_25 (fun h1 => ?_)
          refine z_ic_ge (tgt := 104) C0 h1 dX8_tellCanHave_26 (by decide) (fun h1 => ?_) (fun h1 => ?_)
          · have h1 := zout h1 hz2
            exact J104 x1 _ _ _ _  hZ (lv_sub hl [0, 1] rfl) h1
          refine lv_aload_n hx hb dX8_tellCanHave_29 rfl (lv_at hl 0 rfl) ?_
          refine z_getr C0 hZ hk0 fRX8_66 rfl dX8_tellCanHave_30 ?_
          refine lv_iload_n hx hb dX8_tellCanHave_33 rfl (lv_at hl 2 rfl) ?_
          refine z_iald C0 hZ h1 (zkt8_12 hk0) dX8_tellCanHave_34 (fun h1 => ?_)
          refine lv_aload_n hx hb dX8_tellCanHave_35 rfl (lv_at hl 0 rfl) ?_
          refine lv_iload_n hx hb dX8_tellCanHave_36 rfl (lv_at hl 2 rfl) ?_
          refine lv_aload_n hx hb dX8_tellCanHave_37 rfl (lv_at hl 0 rfl) ?_
          refine z_getr C0 hZ hk0 fRX8_132 rfl dX8_tellCanHave_38 ?_
          refine lv_iload_n hx hb dX8_tellCanHave_41 rfl (lv_at hl 1 rfl) ?_
          refine z_iald C0 hZ h1 (zkt8_69 hk0) dX8_tellCanHave_42 (fun h1 => ?_)
          refine z_cVi (As := [.int x2, .int (σ (k0 + 32) (Int32.toNatClampNeg x1))]) (rest := [.int (σ (k0 + 12) (Int32.toNatClampNeg x2))]) C0 hZ h1 (fun _ hf => kX8_seconds l hk0 hf) mRX8_410 vX8_seconds hk0 rfl rfl hl.1 (Nat.le_of_ble_eq_true rfl) ⟨Nat.le_of_ble_eq_true rfl, Nat.le_of_ble_eq_true rfl⟩ dX8_tellCanHave_43 ⟨Nat.le_of_ble_eq_true rfl, Nat.le_of_ble_eq_true rfl⟩ (fun r_6 σ_5 H locs h1 hZ => ?_)
          refine z_mmin C0 hl.1 mmRX8_198 ⟨Nat.le_of_ble_eq_true rfl, Nat.le_of_ble_eq_true rfl⟩ ⟨Nat.le_of_ble_eq_true rfl, Nat.le_of_ble_eq_true rfl⟩ dX8_tellCanHave_46 ?_
          refine z_istore_n C0 h1 hl (fun x3_8 => [(3, .int x3_8), (0, .ref (zad V k0)), (1, .int x1), (2, .int x2)]) dX8_tellCanHave_49 rfl (by decide) (fun _ => rfl) (fun x3_8 ls h1 hl => ?_)
          refine lv_iconst (v := 0) hx hb dX8_tellCanHave_50 (by decide) ?_
          refine z_istore C0 h1 hl (fun x4_9 => [(4, .int x4_9), (3, .int x3_8), (0, .ref (zad V k0)), (1, .int x1), (2, .int x2)]) dX8_tellCanHave_51 (by decide) (fun _ => rfl) (fun x4_9 ls h1 hl => ?_)
          obtain ⟨n, h1⟩ := zlp_iff.mp h1
          exact J53 n x2 x3_8 x4_9 _ _ _ _  hZ (lv_sub hl [2, 3, 4, 1, 0] rfl) h1
      replace h1 : FX8_tellCanHave_L2 k0 x1 σ = some t1 := h1
      unfold FX8_tellCanHave_L2 at h1
      refine lv_iload_n hx hb dX8_tellCanHave_2 rfl (lv_at hl 1 rfl) ?_
      refine lv_aload_n hx hb dX8_tellCanHave_3 rfl (lv_at hl 0 rfl) ?_
      refine z_geti C0 hZ hk0 fRX8_344 rfl dX8_tellCanHave_4 ?_
      refine z_ic_ge (tgt := 110) C0 h1 dX8_tellCanHave_7 (by decide) (fun h1 => ?_) (fun h1 => ?_)
      · have h1 := zout h1 hz1
        exact J110  _ _ _ _  hZ (lv_sub hl [] rfl) h1
      refine lv_aload_n hx hb dX8_tellCanHave_10 rfl (lv_at hl 0 rfl) ?_
      refine z_getr C0 hZ hk0 fRX8_135 rfl dX8_tellCanHave_11 ?_
      refine lv_iload_n hx hb dX8_tellCanHave_14 rfl (lv_at hl 1 rfl) ?_
      refine lv_iconst (v := 0) hx hb dX8_tellCanHave_15 (by decide) ?_
      refine z_iast C0 hZ h1 (zkt8_70 hk0) dX8_tellCanHave_16 (fun σ_10 H locs h1 hZ => ?_)
      refine lv_iconst (v := 0) hx hb dX8_tellCanHave_17 (by decide) ?_
      refine z_istore_n C0 h1 hl (fun x2_11 => [(2, .int x2_11), (0, .ref (zad V k0)), (1, .int x1)]) dX8_tellCanHave_18 rfl (by decide) (fun _ => rfl) (fun x2_11 ls h1 hl => ?_)
      obtain ⟨n, h1⟩ := zlp_iff.mp h1
      exact J19 n x1 x2_11 _ _ _ _  hZ (lv_sub hl [1, 2, 0] rfl) h1
  refine lv_iconst (v := 0) hx hb dX8_tellCanHave_0 (by decide) ?_
  refine z_istore_n C0 h1 hl (fun x1_12 => [(1, .int x1_12), (0, .ref (zad V k0))]) dX8_tellCanHave_1 rfl (by decide) (fun _ => rfl) (fun x1_12 ls h1 hl => ?_)
  obtain ⟨n, h1⟩ := zlp_iff.mp h1
  exact J2 n x1_12 _ _ _ _  hZ (lv_sub hl [1, 0] rfl) h1
noncomputable def FX8_who_b139 (x2 : Int32) (σ : zS) : Option (Int32 × zS) := some (x2, σ)
noncomputable def FX8_who_b133 (k0 : Nat) (x2 : Int32) (x3 : Int32) (σ : zS) : Option ((Int32 × Int32 × zS) ⊕ (Int32 × zS)) := zlet (x3 + 1) (fun x3_1 => some (.inl (x2, x3_1, σ)))
noncomputable def FX8_who_b126 (k0 : Nat) (x2 : Int32) (x3 : Int32) (x4 : Int32) (σ : zS) : Option ((Int32 × Int32 × zS) ⊕ (Int32 × zS)) := if x4 = 0 then FX8_who_b133 k0 x2 x3 σ else zlet x3 (fun x2_2 => FX8_who_b133 k0 x2_2 x3 σ)
noncomputable def FX8_who_b118 (k0 : Nat) (x2 : Int32) (x3 : Int32) (x5 : Int32) (y0 : Int32) (σ : zS) : Option ((Int32 × Int32 × zS) ⊕ ((Int32 × Int32 × zS) ⊕ (Int32 × zS))) := zlet y0 (fun x4_3 => zlet (x5 + 1) (fun x5_4 => some (.inl (x4_3, x5_4, σ))))
noncomputable def FX8_who_L87 (k0 : Nat) (x2 : Int32) (x3 : Int32) (x4 : Int32) (x5 : Int32) (σ : zS) : Option ((Int32 × Int32 × zS) ⊕ ((Int32 × Int32 × zS) ⊕ (Int32 × zS))) := if (σ k0 37) ≤ x5 then zinr (FX8_who_b126 k0 x2 x3 x4 σ) else if x4 = 0 then zinr (FX8_who_b126 k0 x2 x3 x4 σ) else zin (ln 1 (k0 + 33)) x5 (if ((σ (k0 + 33) (Int32.toNatClampNeg x5)) &&& x3) = 0 then FX8_who_b118 k0 x2 x3 x5 0 σ else FX8_who_b118 k0 x2 x3 x5 1 σ)
noncomputable def FX8_who_b82 (k0 : Nat) (x2 : Int32) (x3 : Int32) (y0 : Int32) (σ : zS) : Option ((Int32 × Int32 × zS) ⊕ (Int32 × zS)) := zlet y0 (fun x4_5 => zlet 0 (fun x5_6 => zlp (fun q => FX8_who_L87 k0 x2 x3 q.1 q.2.1 q.2.2) (x4_5, x5_6, σ)))
noncomputable def FX8_who_b77 (k0 : Nat) (x2 : Int32) (x3 : Int32) (σ : zS) : Option ((Int32 × Int32 × zS) ⊕ (Int32 × zS)) := FX8_who_b82 k0 x2 x3 1 σ
noncomputable def FX8_who_L49 (k0 : Nat) (x2 : Int32) (x3 : Int32) (σ : zS) : Option ((Int32 × Int32 × zS) ⊕ (Int32 × zS)) := zin (ln 1 (k0 + 3)) 3 (if ((1 : Int32) <<< ((σ (k0 + 3) (Int32.toNatClampNeg 3)) &&& 31)) ≤ x3 then zinr (FX8_who_b139 x2 σ) else if x2 = (-1) then FX8_who_b77 k0 x2 x3 σ else zbd (FX8_bitsOf x3 σ) (fun r_8 σ_7 => zbd (FX8_bitsOf x2 σ_7) (fun r_10 σ_9 => if r_10 ≤ r_8 then FX8_who_b82 k0 x2 x3 0 σ_9 else FX8_who_b77 k0 x2 x3 σ_9)))
noncomputable def FX8_who (k0 : Nat) (x1 : Int32) (σ : zS) : Option (Int32 × zS) := zlet (zup σ k0 2 0) (fun σ_11 => zbd (FX8_isIn (Int32.toInt64 x1) (-1) (Int32.toInt64 ((σ_11 k0 37) - 1)) σ_11) (fun r_13 σ_12 => if r_13 = 0 then zbd (FX8_fail k0 1 σ_12) (fun r_19 σ_18 => some (r_19, σ_18)) else zbd (FX8_tellCanHave k0 σ_12) (fun _ σ_14 => if x1 = (-1) then zlet (-1) (fun x2_16 => zlet 0 (fun x3_17 => zlp (fun q => FX8_who_L49 k0 q.1 q.2.1 q.2.2) (x2_16, x3_17, σ_14))) else zin (ln 1 (k0 + 33)) x1 (some ((σ_14 (k0 + 33) (Int32.toNatClampNeg x1)), σ_14)))))
set_option maxHeartbeats 4000000 in
set_option maxRecDepth 100000 in
theorem kX8_who (l : Launch) {V : zV} {σ : zS} {t0 : Int32 × zS} {k0 : Nat} {x1 : Int32} (hk0 : kd 1 k0 = 8) (h1 : FX8_who k0 x1 σ = some t0) : zMi l yX8_who cX8_who 6 (some .int) 2 64 1 V σ t0 [.ref (zad V k0), .int x1] := by
  refine zMi_of (by decide) (Nat.le_of_ble_eq_true rfl) ?_
  intro p e s m below meth c A C0 hr hlk hZ ls hl
  generalize ([.ref (zad V k0), .int x1] : List Value).toArray = args at C0 ⊢
  obtain ⟨Q, hQ⟩ : ∃ Q, Q = MQ below (zQi 1 V t0 A) args s 0 0 A := ⟨_, rfl⟩
  rw [← hQ]
  have hx := C0.1
  have hb := C0.2.1
  have hl : lv_has ls 6 [(0, .ref (zad V k0)), (1, .int x1)] := hl
  unfold FX8_who at h1
  have J139 : ∀ (x2 : Int32) (σ : zS) (H : Heap) (locs : List Loc) (ls : Array Slot), zZ 1 V A σ s H locs → lv_has ls 6 [(2, .int x2)] → FX8_who_b139 x2 σ = some t0 → W p l e (zrm 2 64) s m args below meth c H locs 0 0 Q (F0 m 139 ls []) := by
    intro x2 σ H locs ls  hZ hl h1
    unfold FX8_who_b139 at h1
    refine lv_iload_n hx hb dX8_who_139 rfl (lv_at hl 0 rfl) ?_
    rw [hQ]; exact z_iret C0 hr hlk hZ h1 dX8_who_140
  have J49 : ∀ (n : Nat) (x2 : Int32) (x3 : Int32) (σ : zS) (H : Heap) (locs : List Loc) (ls : Array Slot), zZ 1 V A σ s H locs → lv_has ls 6 [(0, .ref (zad V k0)), (2, .int x2), (3, .int x3)] → zit (fun q => FX8_who_L49 k0 q.1 q.2.1 q.2.2) n (x2, x3, σ) = some t0 → W p l e (zrm 2 64) s m args below meth c H locs 0 0 Q (F0 m 49 ls []) := by
    intro n
    induction n with
    | zero => intro x2 x3 σ H locs ls  _ _ h1; cases h1
    | succ n ih49 =>
      intro x2 x3 σ H locs ls  hZ hl h1
      obtain ⟨t1, h1, hz1⟩ := zit_1 h1
      have J133 : ∀ (x2 : Int32) (x3 : Int32) (σ : zS) (H : Heap) (locs : List Loc) (ls : Array Slot), zZ 1 V A σ s H locs → lv_has ls 6 [(0, .ref (zad V k0)), (2, .int x2), (3, .int x3)] → FX8_who_b133 k0 x2 x3 σ = some t1 → W p l e (zrm 2 64) s m args below meth c H locs 0 0 Q (F0 m 133 ls []) := by
        intro x2 x3 σ H locs ls  hZ hl h1
        unfold FX8_who_b133 at h1
        refine z_iinc (v := 1) C0 h1 hl (fun x3_1 => [(3, .int x3_1), (0, .ref (zad V k0)), (2, .int x2)]) dX8_who_133 (k := 2) rfl (by decide) (by decide) (fun _ => rfl) (fun x3_1 ls h1 hl => ?_)
        refine lv_goto (tgt := 49) hx hb dX8_who_136 (by decide) ?_
        exact ih49 x2 x3_1 _ _ _ _  hZ (lv_sub hl [1, 2, 0] rfl) (zback h1 hz1)
      have J126 : ∀ (x2 : Int32) (x3 : Int32) (x4 : Int32) (σ : zS) (H : Heap) (locs : List Loc) (ls : Array Slot), zZ 1 V A σ s H locs → lv_has ls 6 [(0, .ref (zad V k0)), (2, .int x2), (3, .int x3), (4, .int x4)] → FX8_who_b126 k0 x2 x3 x4 σ = some t1 → W p l e (zrm 2 64) s m args below meth c H locs 0 0 Q (F0 m 126 ls []) := by
        intro x2 x3 x4 σ H locs ls  hZ hl h1
        unfold FX8_who_b126 at h1
        refine lv_iload hx hb dX8_who_126 (lv_at hl 3 rfl) ?_
        refine z_if_eq (tgt := 133) C0 h1 dX8_who_128 (by decide) (fun h1 => ?_) (fun h1 => ?_)
        · exact J133 x2 x3 _ _ _ _  hZ (lv_sub hl [0, 1, 2] rfl) h1
        refine lv_iload_n hx hb dX8_who_131 rfl (lv_at hl 2 rfl) ?_
        refine z_istore_n C0 h1 hl (fun x2_2 => [(2, .int x2_2), (0, .ref (zad V k0)), (3, .int x3), (4, .int x4)]) dX8_who_132 rfl (by decide) (fun _ => rfl) (fun x2_2 ls h1 hl => ?_)
        exact J133 x2_2 x3 _ _ _ _  hZ (lv_sub hl [1, 0, 2] rfl) h1
      have J87 : ∀ (n : Nat) (x2 : Int32) (x3 : Int32) (x4 : Int32) (x5 : Int32) (σ : zS) (H : Heap) (locs : List Loc) (ls : Array Slot), zZ 1 V A σ s H locs → lv_has ls 6 [(0, .ref (zad V k0)), (2, .int x2), (3, .int x3), (4, .int x4), (5, .int x5)] → zit (fun q => FX8_who_L87 k0 x2 x3 q.1 q.2.1 q.2.2) n (x4, x5, σ) = some t1 → W p l e (zrm 2 64) s m args below meth c H locs 0 0 Q (F0 m 87 ls []) := by
        intro n
        induction n with
        | zero => intro x2 x3 x4 x5 σ H locs ls  _ _ h1; cases h1
        | succ n ih87 =>
          intro x2 x3 x4 x5 σ H locs ls  hZ hl h1
          obtain ⟨t2, h1, hz2⟩ := zit_1 h1
          have J118 : ∀ (x5 : Int32) (y0 : Int32) (σ : zS) (H : Heap) (locs : List Loc) (ls : Array Slot), zZ 1 V A σ s H locs → lv_has ls 6 [(0, .ref (zad V k0)), (2, .int x2), (3, .int x3), (5, .int x5)] → FX8_who_b118 k0 x2 x3 x5 y0 σ = some t2 → W p l e (zrm 2 64) s m args below meth c H locs 0 0 Q (F0 m 118 ls [.int y0]) := by
            intro x5 y0 σ H locs ls  hZ hl h1
            unfold FX8_who_b118 at h1
            refine z_istore C0 h1 hl (fun x4_3 => [(4, .int x4_3), (0, .ref (zad V k0)), (2, .int x2), (3, .int x3), (5, .int x5)]) dX8_who_118 (by decide) (fun _ => rfl) (fun x4_3 ls h1 hl => ?_)
            refine z_iinc (v := 1) C0 h1 hl (fun x5_4 => [(5, .int x5_4), (4, .int x4_3), (0, .ref (zad V k0)), (2, .int x2), (3, .int x3)]) dX8_who_120 (k := 4) rfl (by decide) (by decide) (fun _ => rfl) (fun x5_4 ls h1 hl => ?_)
            refine lv_goto (tgt := 87) hx hb dX8_who_123 (by decide) ?_
            exact ih87 x2 x3 x4_3 x5_4 _ _ _ _  hZ (lv_sub hl [2, 3, 4, 1, 0] rfl) (zback h1 hz2)
          replace h1 : FX8_who_L87 k0 x2 x3 x4 x5 σ = some t2 := h1
          unfold FX8_who_L87 at h1
          refine lv_iload hx hb dX8_who_87 (lv_at hl 4 rfl) ?_
          refine lv_aload_n hx hb dX8_who_89 rfl (lv_at hl 0 rfl) ?_
          refine z_geti C0 hZ hk0 fRX8_344 rfl dX8_who_90 ?_
          refine z_ic_ge (tgt := 126) C0 h1 dX8_who_93 (by decide) (fun h1 => ?_) (fun h1 => ?_)
          · have h1 := zout h1 hz2
            exact J126 x2 x3 x4 _ _ _ _  hZ (lv_sub hl [0, 1, 2, 3] rfl) h1
          refine lv_iload hx hb dX8_who_96 (lv_at hl 3 rfl) ?_
          refine z_if_eq (tgt := 126) C0 h1 dX8_who_98 (by decide) (fun h1 => ?_) (fun h1 => ?_)
          · have h1 := zout h1 hz2
            exact J126 x2 x3 x4 _ _ _ _  hZ (lv_sub hl [0, 1, 2, 3] rfl) h1
          refine lv_aload_n hx hb dX8_who_101 rfl (lv_at hl 0 rfl) ?_
          refine z_getr C0 hZ hk0 fRX8_135 rfl dX8_who_102 ?_
          refine lv_iload hx hb dX8_who_105 (lv_at hl 4 rfl) ?_
          refine z_iald C0 hZ h1 (zkt8_70 hk0) dX8_who_107 (fun h1 => ?_)
          refine lv_iload_n hx hb dX8_who_108 rfl (lv_at hl 2 rfl) ?_
          refine lv_iand hx hb dX8_who_109 ?_
          refine z_if_eq (tgt := 117) C0 h1 dX8_who_110 (by decide) (fun h1 => ?_) (fun h1 => ?_)
          · refine lv_iconst (v := 0) hx hb dX8_who_117 (by decide) ?_
            exact J118 x5 0 _ _ _ _  hZ (lv_sub hl [0, 1, 2, 4] rfl) h1
          refine lv_iconst (v := 1) hx hb dX8_who_113 (by decide) ?_
          refine lv_goto (tgt := 118) hx hb dX8_who_114 (by decide) ?_
          exact J118 x5 1 _ _ _ _  hZ (lv_sub hl [0, 1, 2, 4] rfl) h1
      have J82 : ∀ (x2 : Int32) (x3 : Int32) (y0 : Int32) (σ : zS) (H : Heap) (locs : List Loc) (ls : Array Slot), zZ 1 V A σ s H locs → lv_has ls 6 [(0, .ref (zad V k0)), (2, .int x2), (3, .int x3)] → FX8_who_b82 k0 x2 x3 y0 σ = some t1 → W p l e (zrm 2 64) s m args below meth c H locs 0 0 Q (F0 m 82 ls [.int y0]) := by
        intro x2 x3 y0 σ H locs ls  hZ hl h1
        unfold FX8_who_b82 at h1
        refine z_istore C0 h1 hl (fun x4_5 => [(4, .int x4_5), (0, .ref (zad V k0)), (2, .int x2), (3, .int x3)]) dX8_who_82 (by decide) (fun _ => rfl) (fun x4_5 ls h1 hl => ?_)
        refine lv_iconst (v := 0) hx hb dX8_who_84 (by decide) ?_
        refine z_istore C0 h1 hl (fun x5_6 => [(5, .int x5_6), (4, .int x4_5), (0, .ref (zad V k0)), (2, .int x2), (3, .int x3)]) dX8_who_85 (by decide) (fun _ => rfl) (fun x5_6 ls h1 hl => ?_)
        obtain ⟨n, h1⟩ := zlp_iff.mp h1
        exact J87 n x2 x3 x4_5 x5_6 _ _ _ _  hZ (lv_sub hl [2, 3, 4, 1, 0] rfl) h1
      have J77 : ∀ (x2 : Int32) (x3 : Int32) (σ : zS) (H : Heap) (locs : List Loc) (ls : Array Slot), zZ 1 V A σ s H locs → lv_has ls 6 [(0, .ref (zad V k0)), (2, .int x2), (3, .int x3)] → FX8_who_b77 k0 x2 x3 σ = some t1 → W p l e (zrm 2 64) s m args below meth c H locs 0 0 Q (F0 m 77 ls []) := by
        intro x2 x3 σ H locs ls  hZ hl h1
        unfold FX8_who_b77 at h1
        refine lv_iconst (v := 1) hx hb dX8_who_77 (by decide) ?_
        refine lv_goto (tgt := 82) hx hb dX8_who_78 (by decide) ?_
        exact J82 x2 x3 1 _ _ _ _  hZ (lv_sub hl [0, 1, 2] rfl) h1
      replace h1 : FX8_who_L49 k0 x2 x3 σ = some t1 := h1
      unfold FX8_who_L49 at h1
      refine lv_iload_n hx hb dX8_who_49 rfl (lv_at hl 2 rfl) ?_
      refine lv_iconst (v := 1) hx hb dX8_who_50 (by decide) ?_
      refine lv_aload_n hx hb dX8_who_51 rfl (lv_at hl 0 rfl) ?_
      refine z_getr C0 hZ hk0 fRX8_40 rfl dX8_who_52 ?_
      refine lv_iconst (v := 3) hx hb dX8_who_55 (by decide) ?_
      refine z_iald C0 hZ h1 (zkt8_3 hk0) dX8_who_56 (fun h1 => ?_)
      refine lv_ishl hx hb dX8_who_57 ?_
      refine z_ic_ge (tgt := 139) C0 h1 dX8_who_58 (by decide) (fun h1 => ?_) (fun h1 => ?_)
      · have h1 := zout h1 hz1
        exact J139 x2 _ _ _ _  hZ (lv_sub hl [1] rfl) h1
      refine lv_iload_n hx hb dX8_who_61 rfl (lv_at hl 1 rfl) ?_
      refine lv_iconst (v := (-1)) hx hb dX8_who_62 (by decide) ?_
      refine z_ic_eq (tgt := 77) C0 h1 dX8_who_63 (by decide) (fun h1 => ?_) (fun h1 => ?_)
      · exact J77 x2 x3 _ _ _ _  hZ (lv_sub hl [0, 1, 2] rfl) h1
      refine lv_iload_n hx hb dX8_who_66 rfl (lv_at hl 2 rfl) ?_
      refine z_cSi (As := [.int x3]) (rest := []) C0 hZ h1 (fun _ hf => kX8_bitsOf l  hf) mRX8_480 sX8_bitsOf rfl rfl hl.1 (Nat.le_of_ble_eq_true rfl) ⟨Nat.le_of_ble_eq_true rfl, Nat.le_of_ble_eq_true rfl⟩ dX8_who_67 ⟨Nat.le_of_ble_eq_true rfl, Nat.le_of_ble_eq_true rfl⟩ (fun r_8 σ_7 H locs h1 hZ => ?_)
      refine lv_iload_n hx hb dX8_who_70 rfl (lv_at hl 1 rfl) ?_
      refine z_cSi (As := [.int x2]) (rest := [.int r_8]) C0 hZ h1 (fun _ hf => kX8_bitsOf l  hf) mRX8_480 sX8_bitsOf rfl rfl hl.1 (Nat.le_of_ble_eq_true rfl) ⟨Nat.le_of_ble_eq_true rfl, Nat.le_of_ble_eq_true rfl⟩ dX8_who_71 ⟨Nat.le_of_ble_eq_true rfl, Nat.le_of_ble_eq_true rfl⟩ (fun r_10 σ_9 H locs h1 hZ => ?_)
      refine z_ic_ge (tgt := 81) C0 h1 dX8_who_74 (by decide) (fun h1 => ?_) (fun h1 => ?_)
      · refine lv_iconst (v := 0) hx hb dX8_who_81 (by decide) ?_
        exact J82 x2 x3 0 _ _ _ _  hZ (lv_sub hl [0, 1, 2] rfl) h1
      exact J77 x2 x3 _ _ _ _  hZ (lv_sub hl [0, 1, 2] rfl) h1
  refine lv_aload_n hx hb dX8_who_0 rfl (lv_at hl 0 rfl) ?_
  refine lv_iconst (v := 0) hx hb dX8_who_1 (by decide) ?_
  refine z_puti C0 hZ h1 hk0 fRX8_159 rfl tyX8_ok nmX8 rfl rfl rfl dX8_who_2 (fun σ_11 H locs h1 hZ => ?_)
  refine lv_iload_n hx hb dX8_who_5 rfl (lv_at hl 1 rfl) ?_
  refine lv_i2l (v := (Int32.toInt64 x1)) hx hb dX8_who_6 rfl ?_
  refine lv_ldc2 (v := (-1)) hx hb C0.2.2.2.1 (C0.2.2.2.2 _ (zmem 2042 (by decide +kernel) (by decide +kernel))) dX8_who_7 ?_
  refine lv_aload_n hx hb dX8_who_10 rfl (lv_at hl 0 rfl) ?_
  refine z_geti C0 hZ hk0 fRX8_344 rfl dX8_who_11 ?_
  refine lv_iconst (v := 1) hx hb dX8_who_14 (by decide) ?_
  refine lv_isub hx hb dX8_who_15 ?_
  refine lv_i2l (v := (Int32.toInt64 ((σ_11 k0 37) - 1))) hx hb dX8_who_16 rfl ?_
  refine z_cSi (As := [.long (Int32.toInt64 x1), .long (-1), .long (Int32.toInt64 ((σ_11 k0 37) - 1))]) (rest := []) C0 hZ h1 (fun _ hf => kX8_isIn l  hf) mRX8_162 sX8_isIn rfl rfl hl.1 (Nat.le_of_ble_eq_true rfl) ⟨Nat.le_of_ble_eq_true rfl, Nat.le_of_ble_eq_true rfl⟩ dX8_who_17 ⟨Nat.le_of_ble_eq_true rfl, Nat.le_of_ble_eq_true rfl⟩ (fun r_13 σ_12 H locs h1 hZ => ?_)
  refine z_if_ne (tgt := 29) C0 h1 dX8_who_20 (by decide) (fun h1 => ?_) (fun h1 => ?_)
  · refine lv_aload_n hx hb dX8_who_29 rfl (lv_at hl 0 rfl) ?_
    refine z_cVv (As := []) (rest := []) C0 hZ h1 (fun _ hf => kX8_tellCanHave l hk0 hf) mRX8_518 vX8_tellCanHave hk0 rfl rfl hl.1 (Nat.le_of_ble_eq_true rfl) ⟨Nat.le_of_ble_eq_true rfl, Nat.le_of_ble_eq_true rfl⟩ dX8_who_30 ⟨Nat.le_of_ble_eq_true rfl, Nat.le_of_ble_eq_true rfl⟩ (fun _ σ_14 H locs h1 hZ => ?_)
    refine lv_iload_n hx hb dX8_who_33 rfl (lv_at hl 1 rfl) ?_
    refine lv_iconst (v := (-1)) hx hb dX8_who_34 (by decide) ?_
    refine z_ic_eq (tgt := 45) C0 h1 dX8_who_35 (by decide) (fun h1 => ?_) (fun h1 => ?_)
    · refine lv_iconst (v := (-1)) hx hb dX8_who_45 (by decide) ?_
      refine z_istore_n C0 h1 hl (fun x2_16 => [(2, .int x2_16), (0, .ref (zad V k0)), (1, .int x1)]) dX8_who_46 rfl (by decide) (fun _ => rfl) (fun x2_16 ls h1 hl => ?_)
      refine lv_iconst (v := 0) hx hb dX8_who_47 (by decide) ?_
      refine z_istore_n C0 h1 hl (fun x3_17 => [(3, .int x3_17), (2, .int x2_16), (0, .ref (zad V k0)), (1, .int x1)]) dX8_who_48 rfl (by decide) (fun _ => rfl) (fun x3_17 ls h1 hl => ?_)
      obtain ⟨n, h1⟩ := zlp_iff.mp h1
      exact J49 n x2_16 x3_17 _ _ _ _  hZ (lv_sub hl [2, 1, 0] rfl) h1
    refine lv_aload_n hx hb dX8_who_38 rfl (lv_at hl 0 rfl) ?_
    refine z_getr C0 hZ hk0 fRX8_135 rfl dX8_who_39 ?_
    refine lv_iload_n hx hb dX8_who_42 rfl (lv_at hl 1 rfl) ?_
    refine z_iald C0 hZ h1 (zkt8_70 hk0) dX8_who_43 (fun h1 => ?_)
    rw [hQ]; exact z_iret C0 hr hlk hZ h1 dX8_who_44
  refine lv_aload_n hx hb dX8_who_23 rfl (lv_at hl 0 rfl) ?_
  refine lv_iconst (v := 1) hx hb dX8_who_24 (by decide) ?_
  refine z_cVi (As := [.int 1]) (rest := []) C0 hZ h1 (fun _ hf => kX8_fail l hk0 hf) mRX8_310 vX8_fail hk0 rfl rfl hl.1 (Nat.le_of_ble_eq_true rfl) ⟨Nat.le_of_ble_eq_true rfl, Nat.le_of_ble_eq_true rfl⟩ dX8_who_25 ⟨Nat.le_of_ble_eq_true rfl, Nat.le_of_ble_eq_true rfl⟩ (fun r_19 σ_18 H locs h1 hZ => ?_)
  rw [hQ]; exact z_iret C0 hr hlk hZ h1 dX8_who_28
noncomputable def FX8_gain_b38 (y0 : Int32) (σ : zS) : Option (Int32 × zS) := some (y0, σ)
noncomputable def FX8_gain_b18 (k0 : Nat) (σ : zS) : Option (Int32 × zS) := zin (ln 1 (k0 + 3)) 6 (zgd (10 != 0) (FX8_gain_b38 (-((σ (k0 + 3) (Int32.toNatClampNeg 6)) / 10)) σ))
noncomputable def FX8_gain (k0 : Nat) (x1 : Int32) (x2 : Int32) (σ : zS) : Option (Int32 × zS) := if x2 = x1 then FX8_gain_b18 k0 σ else zin (ln 1 (k0 + 7)) x2 (zbd (FX8_isOf (σ (k0 + 7) (Int32.toNatClampNeg x2)) x1 σ) (fun r_2 σ_1 => if r_2 = 0 then zin (ln 1 (k0 + 4)) x1 (FX8_gain_b38 (σ_1 (k0 + 4) (Int32.toNatClampNeg x1)) σ_1) else FX8_gain_b18 k0 σ_1))
set_option maxHeartbeats 4000000 in
set_option maxRecDepth 100000 in
theorem kX8_gain (l : Launch) {V : zV} {σ : zS} {t0 : Int32 × zS} {k0 : Nat} {x1 : Int32} {x2 : Int32} (hk0 : kd 1 k0 = 8) (h1 : FX8_gain k0 x1 x2 σ = some t0) : zMi l yX8_gain cX8_gain 3 (some .int) 1 21 1 V σ t0 [.ref (zad V k0), .int x1, .int x2] := by
  refine zMi_of (by decide) (Nat.le_of_ble_eq_true rfl) ?_
  intro p e s m below meth c A C0 hr hlk hZ ls hl
  generalize ([.ref (zad V k0), .int x1, .int x2] : List Value).toArray = args at C0 ⊢
  obtain ⟨Q, hQ⟩ : ∃ Q, Q = MQ below (zQi 1 V t0 A) args s 0 0 A := ⟨_, rfl⟩
  rw [← hQ]
  have hx := C0.1
  have hb := C0.2.1
  have hl : lv_has ls 3 [(0, .ref (zad V k0)), (1, .int x1), (2, .int x2)] := hl
  unfold FX8_gain at h1
  have J38 : ∀ (y0 : Int32) (σ : zS) (H : Heap) (locs : List Loc) (ls : Array Slot), zZ 1 V A σ s H locs → lv_has ls 3 [] → FX8_gain_b38 y0 σ = some t0 → W p l e (zrm 1 21) s m args below meth c H locs 0 0 Q (F0 m 38 ls [.int y0]) := by
    intro y0 σ H locs ls  hZ hl h1
    unfold FX8_gain_b38 at h1
    rw [hQ]; exact z_iret C0 hr hlk hZ h1 dX8_gain_38
  have J18 : ∀  (σ : zS) (H : Heap) (locs : List Loc) (ls : Array Slot), zZ 1 V A σ s H locs → lv_has ls 3 [(0, .ref (zad V k0))] → FX8_gain_b18 k0 σ = some t0 → W p l e (zrm 1 21) s m args below meth c H locs 0 0 Q (F0 m 18 ls []) := by
    intro  σ H locs ls  hZ hl h1
    unfold FX8_gain_b18 at h1
    refine lv_aload_n hx hb dX8_gain_18 rfl (lv_at hl 0 rfl) ?_
    refine z_getr C0 hZ hk0 fRX8_40 rfl dX8_gain_19 ?_
    refine lv_bipush (v := 6) hx hb dX8_gain_22 (by decide) ?_
    refine z_iald C0 hZ h1 (zkt8_3 hk0) dX8_gain_24 (fun h1 => ?_)
    refine lv_bipush (v := 10) hx hb dX8_gain_25 (by decide) ?_
    refine z_idiv C0 h1 dX8_gain_27 (fun h1 => ?_)
    refine lv_ineg hx hb dX8_gain_28 ?_
    refine lv_goto (tgt := 38) hx hb dX8_gain_29 (by decide) ?_
    exact J38 (-((σ (k0 + 3) (Int32.toNatClampNeg 6)) / 10)) _ _ _ _  hZ (lv_sub hl [] rfl) h1
  refine lv_iload_n hx hb dX8_gain_0 rfl (lv_at hl 2 rfl) ?_
  refine lv_iload_n hx hb dX8_gain_1 rfl (lv_at hl 1 rfl) ?_
  refine z_ic_eq (tgt := 18) C0 h1 dX8_gain_2 (by decide) (fun h1 => ?_) (fun h1 => ?_)
  · exact J18  _ _ _ _  hZ (lv_sub hl [0] rfl) h1
  refine lv_aload_n hx hb dX8_gain_5 rfl (lv_at hl 0 rfl) ?_
  refine z_getr C0 hZ hk0 fRX8_52 rfl dX8_gain_6 ?_
  refine lv_iload_n hx hb dX8_gain_9 rfl (lv_at hl 2 rfl) ?_
  refine z_iald C0 hZ h1 (zkt8_7 hk0) dX8_gain_10 (fun h1 => ?_)
  refine lv_iload_n hx hb dX8_gain_11 rfl (lv_at hl 1 rfl) ?_
  refine z_cSi (As := [.int (σ (k0 + 7) (Int32.toNatClampNeg x2)), .int x1]) (rest := []) C0 hZ h1 (fun _ hf => kX8_isOf l  hf) mRX8_383 sX8_isOf rfl rfl hl.1 (Nat.le_of_ble_eq_true rfl) ⟨Nat.le_of_ble_eq_true rfl, Nat.le_of_ble_eq_true rfl⟩ dX8_gain_12 ⟨Nat.le_of_ble_eq_true rfl, Nat.le_of_ble_eq_true rfl⟩ (fun r_2 σ_1 H locs h1 hZ => ?_)
  refine z_if_eq (tgt := 32) C0 h1 dX8_gain_15 (by decide) (fun h1 => ?_) (fun h1 => ?_)
  · refine lv_aload_n hx hb dX8_gain_32 rfl (lv_at hl 0 rfl) ?_
    refine z_getr C0 hZ hk0 fRX8_44 rfl dX8_gain_33 ?_
    refine lv_iload_n hx hb dX8_gain_36 rfl (lv_at hl 1 rfl) ?_
    refine z_iald C0 hZ h1 (zkt8_4 hk0) dX8_gain_37 (fun h1 => ?_)
    exact J38 (σ_1 (k0 + 4) (Int32.toNatClampNeg x1)) _ _ _ _  hZ (lv_sub hl [] rfl) h1
  exact J18  _ _ _ _  hZ (lv_sub hl [0] rfl) h1
noncomputable def FX8_mostBy_b36 (x2 : Int32) (σ : zS) : Option (Int32 × zS) := some (x2, σ)
noncomputable def FX8_mostBy_L9 (k0 : Nat) (x1 : Int32) (x2 : Int32) (x3 : Int32) (σ : zS) : Option ((Int32 × Int32 × zS) ⊕ (Int32 × zS)) := zin (ln 1 (k0 + 3)) 0 (if (σ (k0 + 3) (Int32.toNatClampNeg 0)) ≤ x3 then zinr (FX8_mostBy_b36 x2 σ) else zbd (FX8_gain k0 x3 x1 σ) (fun r_2 σ_1 => zlet (if x2 < r_2 then r_2 else x2) (fun x2_4 => zlet (x3 + 1) (fun x3_5 => some (.inl (x2_4, x3_5, σ_1))))))
noncomputable def FX8_mostBy (k0 : Nat) (x1 : Int32) (σ : zS) : Option (Int32 × zS) := zbd (FX8_gain k0 0 x1 σ) (fun r_7 σ_6 => zlet r_7 (fun x2_8 => zlet 1 (fun x3_9 => zlp (fun q => FX8_mostBy_L9 k0 x1 q.1 q.2.1 q.2.2) (x2_8, x3_9, σ_6))))
set_option maxHeartbeats 4000000 in
set_option maxRecDepth 100000 in
theorem kX8_mostBy (l : Launch) {V : zV} {σ : zS} {t0 : Int32 × zS} {k0 : Nat} {x1 : Int32} (hk0 : kd 1 k0 = 8) (h1 : FX8_mostBy k0 x1 σ = some t0) : zMi l yX8_mostBy cX8_mostBy 4 (some .int) 2 43 1 V σ t0 [.ref (zad V k0), .int x1] := by
  refine zMi_of (by decide) (Nat.le_of_ble_eq_true rfl) ?_
  intro p e s m below meth c A C0 hr hlk hZ ls hl
  generalize ([.ref (zad V k0), .int x1] : List Value).toArray = args at C0 ⊢
  obtain ⟨Q, hQ⟩ : ∃ Q, Q = MQ below (zQi 1 V t0 A) args s 0 0 A := ⟨_, rfl⟩
  rw [← hQ]
  have hx := C0.1
  have hb := C0.2.1
  have hl : lv_has ls 4 [(0, .ref (zad V k0)), (1, .int x1)] := hl
  unfold FX8_mostBy at h1
  have J36 : ∀ (x2 : Int32) (σ : zS) (H : Heap) (locs : List Loc) (ls : Array Slot), zZ 1 V A σ s H locs → lv_has ls 4 [(2, .int x2)] → FX8_mostBy_b36 x2 σ = some t0 → W p l e (zrm 2 43) s m args below meth c H locs 0 0 Q (F0 m 36 ls []) := by
    intro x2 σ H locs ls  hZ hl h1
    unfold FX8_mostBy_b36 at h1
    refine lv_iload_n hx hb dX8_mostBy_36 rfl (lv_at hl 0 rfl) ?_
    rw [hQ]; exact z_iret C0 hr hlk hZ h1 dX8_mostBy_37
  have J9 : ∀ (n : Nat) (x2 : Int32) (x3 : Int32) (σ : zS) (H : Heap) (locs : List Loc) (ls : Array Slot), zZ 1 V A σ s H locs → lv_has ls 4 [(0, .ref (zad V k0)), (1, .int x1), (2, .int x2), (3, .int x3)] → zit (fun q => FX8_mostBy_L9 k0 x1 q.1 q.2.1 q.2.2) n (x2, x3, σ) = some t0 → W p l e (zrm 2 43) s m args below meth c H locs 0 0 Q (F0 m 9 ls []) := by
    intro n
    induction n with
    | zero => intro x2 x3 σ H locs ls  _ _ h1; cases h1
    | succ n ih9 =>
      intro x2 x3 σ H locs ls  hZ hl h1
      obtain ⟨t1, h1, hz1⟩ := zit_1 h1
      replace h1 : FX8_mostBy_L9 k0 x1 x2 x3 σ = some t1 := h1
      unfold FX8_mostBy_L9 at h1
      refine lv_iload_n hx hb dX8_mostBy_9 rfl (lv_at hl 3 rfl) ?_
      refine lv_aload_n hx hb dX8_mostBy_10 rfl (lv_at hl 0 rfl) ?_
      refine z_getr C0 hZ hk0 fRX8_40 rfl dX8_mostBy_11 ?_
      refine lv_iconst (v := 0) hx hb dX8_mostBy_14 (by decide) ?_
      refine z_iald C0 hZ h1 (zkt8_3 hk0) dX8_mostBy_15 (fun h1 => ?_)
      refine z_ic_ge (tgt := 36) C0 h1 dX8_mostBy_16 (by decide) (fun h1 => ?_) (fun h1 => ?_)
      · have h1 := zout h1 hz1
        exact J36 x2 _ _ _ _  hZ (lv_sub hl [2] rfl) h1
      refine lv_iload_n hx hb dX8_mostBy_19 rfl (lv_at hl 2 rfl) ?_
      refine lv_aload_n hx hb dX8_mostBy_20 rfl (lv_at hl 0 rfl) ?_
      refine lv_iload_n hx hb dX8_mostBy_21 rfl (lv_at hl 3 rfl) ?_
      refine lv_iload_n hx hb dX8_mostBy_22 rfl (lv_at hl 1 rfl) ?_
      refine z_cVi (As := [.int x3, .int x1]) (rest := [.int x2]) C0 hZ h1 (fun _ hf => kX8_gain l hk0 hf) mRX8_521 vX8_gain hk0 rfl rfl hl.1 (Nat.le_of_ble_eq_true rfl) ⟨Nat.le_of_ble_eq_true rfl, Nat.le_of_ble_eq_true rfl⟩ dX8_mostBy_23 ⟨Nat.le_of_ble_eq_true rfl, Nat.le_of_ble_eq_true rfl⟩ (fun r_2 σ_1 H locs h1 hZ => ?_)
      refine z_mmax C0 hl.1 mmRX8_524 ⟨Nat.le_of_ble_eq_true rfl, Nat.le_of_ble_eq_true rfl⟩ ⟨Nat.le_of_ble_eq_true rfl, Nat.le_of_ble_eq_true rfl⟩ dX8_mostBy_26 ?_
      refine z_istore_n C0 h1 hl (fun x2_4 => [(2, .int x2_4), (0, .ref (zad V k0)), (1, .int x1), (3, .int x3)]) dX8_mostBy_29 rfl (by decide) (fun _ => rfl) (fun x2_4 ls h1 hl => ?_)
      refine z_iinc (v := 1) C0 h1 hl (fun x3_5 => [(3, .int x3_5), (2, .int x2_4), (0, .ref (zad V k0)), (1, .int x1)]) dX8_mostBy_30 (k := 3) rfl (by decide) (by decide) (fun _ => rfl) (fun x3_5 ls h1 hl => ?_)
      refine lv_goto (tgt := 9) hx hb dX8_mostBy_33 (by decide) ?_
      exact ih9 x2_4 x3_5 _ _ _ _  hZ (lv_sub hl [2, 3, 1, 0] rfl) (zback h1 hz1)
  refine lv_aload_n hx hb dX8_mostBy_0 rfl (lv_at hl 0 rfl) ?_
  refine lv_iconst (v := 0) hx hb dX8_mostBy_1 (by decide) ?_
  refine lv_iload_n hx hb dX8_mostBy_2 rfl (lv_at hl 1 rfl) ?_
  refine z_cVi (As := [.int 0, .int x1]) (rest := []) C0 hZ h1 (fun _ hf => kX8_gain l hk0 hf) mRX8_521 vX8_gain hk0 rfl rfl hl.1 (Nat.le_of_ble_eq_true rfl) ⟨Nat.le_of_ble_eq_true rfl, Nat.le_of_ble_eq_true rfl⟩ dX8_mostBy_3 ⟨Nat.le_of_ble_eq_true rfl, Nat.le_of_ble_eq_true rfl⟩ (fun r_7 σ_6 H locs h1 hZ => ?_)
  refine z_istore_n C0 h1 hl (fun x2_8 => [(2, .int x2_8), (0, .ref (zad V k0)), (1, .int x1)]) dX8_mostBy_6 rfl (by decide) (fun _ => rfl) (fun x2_8 ls h1 hl => ?_)
  refine lv_iconst (v := 1) hx hb dX8_mostBy_7 (by decide) ?_
  refine z_istore_n C0 h1 hl (fun x3_9 => [(3, .int x3_9), (2, .int x2_8), (0, .ref (zad V k0)), (1, .int x1)]) dX8_mostBy_8 rfl (by decide) (fun _ => rfl) (fun x3_9 ls h1 hl => ?_)
  obtain ⟨n, h1⟩ := zlp_iff.mp h1
  exact J9 n x2_8 x3_9 _ _ _ _  hZ (lv_sub hl [2, 3, 1, 0] rfl) h1
noncomputable def FX8_rests_b50  (σ : zS) : Option (Int32 × zS) := zgd (1 == 0 || 1 == 1) (some (1, σ))
noncomputable def FX8_rests_b42  (σ : zS) : Option (Int32 × zS) := zgd (0 == 0 || 0 == 1) (some (0, σ))
noncomputable def FX8_rests_L2 (k0 : Nat) (x1 : Int32) (x2 : Int32) (x3 : Int32) (σ : zS) : Option ((Int32 × zS) ⊕ (Int32 × zS)) := zin (ln 1 (k0 + 3)) 0 (if (σ (k0 + 3) (Int32.toNatClampNeg 0)) ≤ x3 then zinr (FX8_rests_b50  σ) else zbd (FX8_gain k0 x3 x2 σ) (fun r_2 σ_1 => zbd (FX8_gain k0 x1 x2 σ_1) (fun r_4 σ_3 => if r_4 < r_2 then zinr (FX8_rests_b42  σ_3) else zbd (FX8_gain k0 x1 x3 σ_3) (fun r_6 σ_5 => zbd (FX8_gain k0 x1 x2 σ_5) (fun r_8 σ_7 => if r_8 ≤ r_6 then zlet (x3 + 1) (fun x3_9 => some (.inl (x3_9, σ_7))) else zinr (FX8_rests_b42  σ_7))))))
noncomputable def FX8_rests (k0 : Nat) (x1 : Int32) (x2 : Int32) (σ : zS) : Option (Int32 × zS) := zlet 0 (fun x3_10 => zlp (fun q => FX8_rests_L2 k0 x1 x2 q.1 q.2) (x3_10, σ))
set_option maxHeartbeats 4000000 in
set_option maxRecDepth 100000 in
theorem kX8_rests (l : Launch) {V : zV} {σ : zS} {t0 : Int32 × zS} {k0 : Nat} {x1 : Int32} {x2 : Int32} (hk0 : kd 1 k0 = 8) (h1 : FX8_rests k0 x1 x2 σ = some t0) : zMi l yX8_rests cX8_rests 4 (some .boolean) 2 43 1 V σ t0 [.ref (zad V k0), .int x1, .int x2] := by
  refine zMi_of (by decide) (Nat.le_of_ble_eq_true rfl) ?_
  intro p e s m below meth c A C0 hr hlk hZ ls hl
  generalize ([.ref (zad V k0), .int x1, .int x2] : List Value).toArray = args at C0 ⊢
  obtain ⟨Q, hQ⟩ : ∃ Q, Q = MQ below (zQi 1 V t0 A) args s 0 0 A := ⟨_, rfl⟩
  rw [← hQ]
  have hx := C0.1
  have hb := C0.2.1
  have hl : lv_has ls 4 [(0, .ref (zad V k0)), (1, .int x1), (2, .int x2)] := hl
  unfold FX8_rests at h1
  have J50 : ∀  (σ : zS) (H : Heap) (locs : List Loc) (ls : Array Slot), zZ 1 V A σ s H locs → lv_has ls 4 [] → FX8_rests_b50  σ = some t0 → W p l e (zrm 2 43) s m args below meth c H locs 0 0 Q (F0 m 50 ls []) := by
    intro  σ H locs ls  hZ hl h1
    unfold FX8_rests_b50 at h1
    refine lv_iconst (v := 1) hx hb dX8_rests_50 (by decide) ?_
    rw [hQ]; exact z_zret C0 hr hlk hZ h1 dX8_rests_51
  have J42 : ∀  (σ : zS) (H : Heap) (locs : List Loc) (ls : Array Slot), zZ 1 V A σ s H locs → lv_has ls 4 [] → FX8_rests_b42  σ = some t0 → W p l e (zrm 2 43) s m args below meth c H locs 0 0 Q (F0 m 42 ls []) := by
    intro  σ H locs ls  hZ hl h1
    unfold FX8_rests_b42 at h1
    refine lv_iconst (v := 0) hx hb dX8_rests_42 (by decide) ?_
    rw [hQ]; exact z_zret C0 hr hlk hZ h1 dX8_rests_43
  have J2 : ∀ (n : Nat) (x3 : Int32) (σ : zS) (H : Heap) (locs : List Loc) (ls : Array Slot), zZ 1 V A σ s H locs → lv_has ls 4 [(0, .ref (zad V k0)), (1, .int x1), (2, .int x2), (3, .int x3)] → zit (fun q => FX8_rests_L2 k0 x1 x2 q.1 q.2) n (x3, σ) = some t0 → W p l e (zrm 2 43) s m args below meth c H locs 0 0 Q (F0 m 2 ls []) := by
    intro n
    induction n with
    | zero => intro x3 σ H locs ls  _ _ h1; cases h1
    | succ n ih2 =>
      intro x3 σ H locs ls  hZ hl h1
      obtain ⟨t1, h1, hz1⟩ := zit_1 h1
      replace h1 : FX8_rests_L2 k0 x1 x2 x3 σ = some t1 := h1
      unfold FX8_rests_L2 at h1
      refine lv_iload_n hx hb dX8_rests_2 rfl (lv_at hl 3 rfl) ?_
      refine lv_aload_n hx hb dX8_rests_3 rfl (lv_at hl 0 rfl) ?_
      refine z_getr C0 hZ hk0 fRX8_40 rfl dX8_rests_4 ?_
      refine lv_iconst (v := 0) hx hb dX8_rests_7 (by decide) ?_
      refine z_iald C0 hZ h1 (zkt8_3 hk0) dX8_rests_8 (fun h1 => ?_)
      refine z_ic_ge (tgt := 50) C0 h1 dX8_rests_9 (by decide) (fun h1 => ?_) (fun h1 => ?_)
      · have h1 := zout h1 hz1
        exact J50  _ _ _ _  hZ (lv_sub hl [] rfl) h1
      refine lv_aload_n hx hb dX8_rests_12 rfl (lv_at hl 0 rfl) ?_
      refine lv_iload_n hx hb dX8_rests_13 rfl (lv_at hl 3 rfl) ?_
      refine lv_iload_n hx hb dX8_rests_14 rfl (lv_at hl 2 rfl) ?_
      refine z_cVi (As := [.int x3, .int x2]) (rest := []) C0 hZ h1 (fun _ hf => kX8_gain l hk0 hf) mRX8_521 vX8_gain hk0 rfl rfl hl.1 (Nat.le_of_ble_eq_true rfl) ⟨Nat.le_of_ble_eq_true rfl, Nat.le_of_ble_eq_true rfl⟩ dX8_rests_15 ⟨Nat.le_of_ble_eq_true rfl, Nat.le_of_ble_eq_true rfl⟩ (fun r_2 σ_1 H locs h1 hZ => ?_)
      refine lv_aload_n hx hb dX8_rests_18 rfl (lv_at hl 0 rfl) ?_
      refine lv_iload_n hx hb dX8_rests_19 rfl (lv_at hl 1 rfl) ?_
      refine lv_iload_n hx hb dX8_rests_20 rfl (lv_at hl 2 rfl) ?_
      refine z_cVi (As := [.int x1, .int x2]) (rest := [.int r_2]) C0 hZ h1 (fun _ hf => kX8_gain l hk0 hf) mRX8_521 vX8_gain hk0 rfl rfl hl.1 (Nat.le_of_ble_eq_true rfl) ⟨Nat.le_of_ble_eq_true rfl, Nat.le_of_ble_eq_true rfl⟩ dX8_rests_21 ⟨Nat.le_of_ble_eq_true rfl, Nat.le_of_ble_eq_true rfl⟩ (fun r_4 σ_3 H locs h1 hZ => ?_)
      refine z_ic_gt (tgt := 42) C0 h1 dX8_rests_24 (by decide) (fun h1 => ?_) (fun h1 => ?_)
      · have h1 := zout h1 hz1
        exact J42  _ _ _ _  hZ (lv_sub hl [] rfl) h1
      refine lv_aload_n hx hb dX8_rests_27 rfl (lv_at hl 0 rfl) ?_
      refine lv_iload_n hx hb dX8_rests_28 rfl (lv_at hl 1 rfl) ?_
      refine lv_iload_n hx hb dX8_rests_29 rfl (lv_at hl 3 rfl) ?_
      refine z_cVi (As := [.int x1, .int x3]) (rest := []) C0 hZ h1 (fun _ hf => kX8_gain l hk0 hf) mRX8_521 vX8_gain hk0 rfl rfl hl.1 (Nat.le_of_ble_eq_true rfl) ⟨Nat.le_of_ble_eq_true rfl, Nat.le_of_ble_eq_true rfl⟩ dX8_rests_30 ⟨Nat.le_of_ble_eq_true rfl, Nat.le_of_ble_eq_true rfl⟩ (fun r_6 σ_5 H locs h1 hZ => ?_)
      refine lv_aload_n hx hb dX8_rests_33 rfl (lv_at hl 0 rfl) ?_
      refine lv_iload_n hx hb dX8_rests_34 rfl (lv_at hl 1 rfl) ?_
      refine lv_iload_n hx hb dX8_rests_35 rfl (lv_at hl 2 rfl) ?_
      refine z_cVi (As := [.int x1, .int x2]) (rest := [.int r_6]) C0 hZ h1 (fun _ hf => kX8_gain l hk0 hf) mRX8_521 vX8_gain hk0 rfl rfl hl.1 (Nat.le_of_ble_eq_true rfl) ⟨Nat.le_of_ble_eq_true rfl, Nat.le_of_ble_eq_true rfl⟩ dX8_rests_36 ⟨Nat.le_of_ble_eq_true rfl, Nat.le_of_ble_eq_true rfl⟩ (fun r_8 σ_7 H locs h1 hZ => ?_)
      refine z_ic_ge (tgt := 44) C0 h1 dX8_rests_39 (by decide) (fun h1 => ?_) (fun h1 => ?_)
      · refine z_iinc (v := 1) C0 h1 hl (fun x3_9 => [(3, .int x3_9), (0, .ref (zad V k0)), (1, .int x1), (2, .int x2)]) dX8_rests_44 (k := 3) rfl (by decide) (by decide) (fun _ => rfl) (fun x3_9 ls h1 hl => ?_)
        refine lv_goto (tgt := 2) hx hb dX8_rests_47 (by decide) ?_
        exact ih2 x3_9 _ _ _ _  hZ (lv_sub hl [1, 2, 3, 0] rfl) (zback h1 hz1)
      have h1 := zout h1 hz1
      exact J42  _ _ _ _  hZ (lv_sub hl [] rfl) h1
  refine lv_iconst (v := 0) hx hb dX8_rests_0 (by decide) ?_
  refine z_istore_n C0 h1 hl (fun x3_10 => [(3, .int x3_10), (0, .ref (zad V k0)), (1, .int x1), (2, .int x2)]) dX8_rests_1 rfl (by decide) (fun _ => rfl) (fun x3_10 ls h1 hl => ?_)
  obtain ⟨n, h1⟩ := zlp_iff.mp h1
  exact J2 n x3_10 _ _ _ _  hZ (lv_sub hl [1, 2, 3, 0] rfl) h1
