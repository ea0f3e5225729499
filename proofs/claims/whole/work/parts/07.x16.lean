noncomputable def FX6_undoLast_b159  (σ : zS) : Option (Int32 × zS) := some (0, σ)
noncomputable def FX6_undoLast_L102 (k0 : Nat) (x1 : Int32) (x2 : Int32) (σ : zS) : Option ((Int32 × zS) ⊕ (Int32 × zS)) := if 10 ≤ x2 then zinr (FX6_undoLast_b159  σ) else zbd (FX7_at (k0 + 3) ((x1 + 6) + x2) σ) (fun r_2 σ_1 => zbd (FX7_put (k0 + 1) x2 r_2 σ_1) (fun _ σ_3 => zbd (FX7_at (k0 + 3) (((x1 + 6) + 10) + x2) σ_3) (fun r_6 σ_5 => zbd (FX7_put (k0 + 2) x2 r_6 σ_5) (fun _ σ_7 => zlet (x2 + 1) (fun x2_9 => some (.inl (x2_9, σ_7)))))))
noncomputable def FX6_undoLast (k0 : Nat) (σ : zS) : Option (Int32 × zS) := zlet (zup σ k0 8 ((σ k0 8) - 1)) (fun σ_10 => zlet ((σ_10 k0 8) * 26) (fun x1_11 => zbd (FX7_at (k0 + 3) x1_11 σ_10) (fun r_13 σ_12 => zlet (zup σ_12 k0 0 r_13) (fun σ_14 => zbd (FX7_at (k0 + 3) (x1_11 + 1) σ_14) (fun r_16 σ_15 => zlet (zup σ_15 k0 1 r_16) (fun σ_17 => zbd (FX7_at (k0 + 3) (x1_11 + 2) σ_17) (fun r_19 σ_18 => zlet (zup σ_18 k0 2 r_19) (fun σ_20 => zbd (FX7_at (k0 + 3) (x1_11 + 3) σ_20) (fun r_22 σ_21 => zlet (zup σ_21 k0 3 r_22) (fun σ_23 => zbd (FX7_at (k0 + 3) (x1_11 + 4) σ_23) (fun r_25 σ_24 => zlet (zup σ_24 k0 4 r_25) (fun σ_26 => zbd (FX7_at (k0 + 3) (x1_11 + 5) σ_26) (fun r_28 σ_27 => zlet (zup σ_27 k0 5 r_28) (fun σ_29 => zlet 0 (fun x2_30 => zlp (fun q => FX6_undoLast_L102 k0 x1_11 q.1 q.2) (x2_30, σ_29))))))))))))))))
set_option maxHeartbeats 4000000 in
set_option maxRecDepth 100000 in
theorem kX6_undoLast (l : Launch) {V : zV} {σ : zS} {t0 : Int32 × zS} {k0 : Nat} (hk0 : kd 0 k0 = 6) (h1 : FX6_undoLast k0 σ = some t0) : zMv l yX6_undoLast cX6_undoLast 3 1 22 0 V σ t0 [.ref (zad V k0)] := by
  refine zMv_of (by decide) (Nat.le_of_ble_eq_true rfl) ?_
  intro p e s m below meth c A C0 hr hlk hZ ls hl
  generalize ([.ref (zad V k0)] : List Value).toArray = args at C0 ⊢
  obtain ⟨Q, hQ⟩ : ∃ Q, Q = MQ below (zQv 0 V t0 A) args s 0 0 A := ⟨_, rfl⟩
  rw [← hQ]
  have hx := C0.1
  have hb := C0.2.1
  have hl : lv_has ls 3 [(0, .ref (zad V k0))] := hl
  unfold FX6_undoLast at h1
  have J159 : ∀  (σ : zS) (H : Heap) (locs : List Loc) (ls : Array Slot), zZ 0 V A σ s H locs → lv_has ls 3 [] → FX6_undoLast_b159  σ = some t0 → W p l e (zrm 1 22) s m args below meth c H locs 0 0 Q (F0 m 159 ls []) := by
    intro  σ H locs ls  hZ hl h1
    unfold FX6_undoLast_b159 at h1
    rw [hQ]; exact z_vret C0 hr hlk hZ h1 dX6_undoLast_159
  have J102 : ∀ (n : Nat) (x1 : Int32) (x2 : Int32) (σ : zS) (H : Heap) (locs : List Loc) (ls : Array Slot), zZ 0 V A σ s H locs → lv_has ls 3 [(0, .ref (zad V k0)), (1, .int x1), (2, .int x2)] → zit (fun q => FX6_undoLast_L102 k0 x1 q.1 q.2) n (x2, σ) = some t0 → W p l e (zrm 1 22) s m args below meth c H locs 0 0 Q (F0 m 102 ls []) := by
    intro n
    induction n with
    | zero => intro x1 x2 σ H locs ls  _ _ h1; cases h1
    | succ n ih102 =>
      intro x1 x2 σ H locs ls  hZ hl h1
      obtain ⟨t1, h1, hz1⟩ := zit_1 h1
      replace h1 : FX6_undoLast_L102 k0 x1 x2 σ = some t1 := h1
      unfold FX6_undoLast_L102 at h1
      refine lv_iload_n hx hb dX6_undoLast_102 rfl (lv_at hl 2 rfl) ?_
      refine lv_bipush (v := 10) hx hb dX6_undoLast_103 (by decide) ?_
      refine z_ic_ge (tgt := 159) C0 h1 dX6_undoLast_105 (by decide) (fun h1 => ?_) (fun h1 => ?_)
      · have h1 := zout h1 hz1
        exact J159  _ _ _ _  hZ (lv_sub hl [] rfl) h1
      refine lv_aload_n hx hb dX6_undoLast_108 rfl (lv_at hl 0 rfl) ?_
      refine z_getr C0 hZ hk0 fRX6_30 rfl dX6_undoLast_109 ?_
      refine lv_iload_n hx hb dX6_undoLast_112 rfl (lv_at hl 2 rfl) ?_
      refine lv_aload_n hx hb dX6_undoLast_113 rfl (lv_at hl 0 rfl) ?_
      refine z_getr C0 hZ hk0 fRX6_40 rfl dX6_undoLast_114 ?_
      refine lv_iload_n hx hb dX6_undoLast_117 rfl (lv_at hl 1 rfl) ?_
      refine lv_bipush (v := 6) hx hb dX6_undoLast_118 (by decide) ?_
      refine lv_iadd hx hb dX6_undoLast_120 ?_
      refine lv_iload_n hx hb dX6_undoLast_121 rfl (lv_at hl 2 rfl) ?_
      refine lv_iadd hx hb dX6_undoLast_122 ?_
      refine z_cSi (As := [.ref (zad V (k0 + 3)), .int ((x1 + 6) + x2)]) (rest := [.int x2, .ref (zad V (k0 + 1))]) C0 hZ h1 (fun _ hf => kX7_at l (zkt6_9 hk0) hf) mRX6_89 sX7_at rfl rfl hl.1 (Nat.le_of_ble_eq_true rfl) ⟨Nat.le_of_ble_eq_true rfl, Nat.le_of_ble_eq_true rfl⟩ dX6_undoLast_123 ⟨Nat.le_of_ble_eq_true rfl, Nat.le_of_ble_eq_true rfl⟩ (fun r_2 σ_1 H locs h1 hZ => ?_)
      refine z_cSv (As := [.ref (zad V (k0 + 1)), .int x2, .int r_2]) (rest := []) C0 hZ h1 (fun _ hf => kX7_put l (zkt6_6 hk0) hf) mRX6_93 sX7_put rfl rfl hl.1 (Nat.le_of_ble_eq_true rfl) ⟨Nat.le_of_ble_eq_true rfl, Nat.le_of_ble_eq_true rfl⟩ dX6_undoLast_126 ⟨Nat.le_of_ble_eq_true rfl, Nat.le_of_ble_eq_true rfl⟩ (fun _ σ_3 H locs h1 hZ => ?_)
      refine lv_aload_n hx hb dX6_undoLast_129 rfl (lv_at hl 0 rfl) ?_
      refine z_getr C0 hZ hk0 fRX6_34 rfl dX6_undoLast_130 ?_
      refine lv_iload_n hx hb dX6_undoLast_133 rfl (lv_at hl 2 rfl) ?_
      refine lv_aload_n hx hb dX6_undoLast_134 rfl (lv_at hl 0 rfl) ?_
      refine z_getr C0 hZ hk0 fRX6_40 rfl dX6_undoLast_135 ?_
      refine lv_iload_n hx hb dX6_undoLast_138 rfl (lv_at hl 1 rfl) ?_
      refine lv_bipush (v := 6) hx hb dX6_undoLast_139 (by decide) ?_
      refine lv_iadd hx hb dX6_undoLast_141 ?_
      refine lv_bipush (v := 10) hx hb dX6_undoLast_142 (by decide) ?_
      refine lv_iadd hx hb dX6_undoLast_144 ?_
      refine lv_iload_n hx hb dX6_undoLast_145 rfl (lv_at hl 2 rfl) ?_
      refine lv_iadd hx hb dX6_undoLast_146 ?_
      refine z_cSi (As := [.ref (zad V (k0 + 3)), .int (((x1 + 6) + 10) + x2)]) (rest := [.int x2, .ref (zad V (k0 + 2))]) C0 hZ h1 (fun _ hf => kX7_at l (zkt6_9 hk0) hf) mRX6_89 sX7_at rfl rfl hl.1 (Nat.le_of_ble_eq_true rfl) ⟨Nat.le_of_ble_eq_true rfl, Nat.le_of_ble_eq_true rfl⟩ dX6_undoLast_147 ⟨Nat.le_of_ble_eq_true rfl, Nat.le_of_ble_eq_true rfl⟩ (fun r_6 σ_5 H locs h1 hZ => ?_)
      refine z_cSv (As := [.ref (zad V (k0 + 2)), .int x2, .int r_6]) (rest := []) C0 hZ h1 (fun _ hf => kX7_put l (zkt6_7 hk0) hf) mRX6_93 sX7_put rfl rfl hl.1 (Nat.le_of_ble_eq_true rfl) ⟨Nat.le_of_ble_eq_true rfl, Nat.le_of_ble_eq_true rfl⟩ dX6_undoLast_150 ⟨Nat.le_of_ble_eq_true rfl, Nat.le_of_ble_eq_true rfl⟩ (fun _ σ_7 H locs h1 hZ => ?_)
      refine z_iinc (v := 1) C0 h1 hl (fun x2_9 => [(2, .int x2_9), (0, .ref (zad V k0)), (1, .int x1)]) dX6_undoLast_153 (k := 2) rfl (by decide) (by decide) (fun _ => rfl) (fun x2_9 ls h1 hl => ?_)
      refine lv_goto (tgt := 102) hx hb dX6_undoLast_156 (by decide) ?_
      exact ih102 x1 x2_9 _ _ _ _  hZ (lv_sub hl [1, 2, 0] rfl) (zback h1 hz1)
  refine lv_aload_n hx hb dX6_undoLast_0 rfl (lv_at hl 0 rfl) ?_
  refine lv_dup hx hb dX6_undoLast_1 rfl ?_
  refine z_geti C0 hZ hk0 fRX6_37 rfl dX6_undoLast_2 ?_
  refine lv_iconst (v := 1) hx hb dX6_undoLast_5 (by decide) ?_
  refine lv_isub hx hb dX6_undoLast_6 ?_
  refine z_puti C0 hZ h1 hk0 fRX6_37 rfl tyX6_ok nmX6 rfl rfl rfl dX6_undoLast_7 (fun σ_10 H locs h1 hZ => ?_)
  refine lv_aload_n hx hb dX6_undoLast_10 rfl (lv_at hl 0 rfl) ?_
  refine z_geti C0 hZ hk0 fRX6_37 rfl dX6_undoLast_11 ?_
  refine lv_bipush (v := 26) hx hb dX6_undoLast_14 (by decide) ?_
  refine lv_imul hx hb dX6_undoLast_16 ?_
  refine z_istore_n C0 h1 hl (fun x1_11 => [(1, .int x1_11), (0, .ref (zad V k0))]) dX6_undoLast_17 rfl (by decide) (fun _ => rfl) (fun x1_11 ls h1 hl => ?_)
  refine lv_aload_n hx hb dX6_undoLast_18 rfl (lv_at hl 1 rfl) ?_
  refine lv_aload_n hx hb dX6_undoLast_19 rfl (lv_at hl 1 rfl) ?_
  refine z_getr C0 hZ hk0 fRX6_40 rfl dX6_undoLast_20 ?_
  refine lv_iload_n hx hb dX6_undoLast_23 rfl (lv_at hl 0 rfl) ?_
  refine z_cSi (As := [.ref (zad V (k0 + 3)), .int x1_11]) (rest := [.ref (zad V k0)]) C0 hZ h1 (fun _ hf => kX7_at l (zkt6_9 hk0) hf) mRX6_89 sX7_at rfl rfl hl.1 (Nat.le_of_ble_eq_true rfl) ⟨Nat.le_of_ble_eq_true rfl, Nat.le_of_ble_eq_true rfl⟩ dX6_undoLast_24 ⟨Nat.le_of_ble_eq_true rfl, Nat.le_of_ble_eq_true rfl⟩ (fun r_13 σ_12 H locs h1 hZ => ?_)
  refine z_puti C0 hZ h1 hk0 fRX6_9 rfl tyX6_ok nmX6 rfl rfl rfl dX6_undoLast_27 (fun σ_14 H locs h1 hZ => ?_)
  refine lv_aload_n hx hb dX6_undoLast_30 rfl (lv_at hl 1 rfl) ?_
  refine lv_aload_n hx hb dX6_undoLast_31 rfl (lv_at hl 1 rfl) ?_
  refine z_getr C0 hZ hk0 fRX6_40 rfl dX6_undoLast_32 ?_
  refine lv_iload_n hx hb dX6_undoLast_35 rfl (lv_at hl 0 rfl) ?_
  refine lv_iconst (v := 1) hx hb dX6_undoLast_36 (by decide) ?_
  refine lv_iadd hx hb dX6_undoLast_37 ?_
  refine z_cSi (As := [.ref (zad V (k0 + 3)), .int (x1_11 + 1)]) (rest := [.ref (zad V k0)]) C0 hZ h1 (fun _ hf => kX7_at l (zkt6_9 hk0) hf) mRX6_89 sX7_at rfl rfl hl.1 (Nat.le_of_ble_eq_true rfl) ⟨Nat.le_of_ble_eq_true rfl, Nat.le_of_ble_eq_true rfl⟩ dX6_undoLast_38 ⟨Nat.le_of_ble_eq_true rfl, Nat.le_of_ble_eq_true rfl⟩ (fun r_16 σ_15 H locs h1 hZ => ?_)
  refine z_puti C0 hZ h1 hk0 fRX6_15 rfl tyX6_ok nmX6 rfl rfl rfl dX6_undoLast_41 (fun σ_17 H locs h1 hZ => ?_)
  refine lv_aload_n hx hb dX6_undoLast_44 rfl (lv_at hl 1 rfl) ?_
  refine lv_aload_n hx hb dX6_undoLast_45 rfl (lv_at hl 1 rfl) ?_
  refine z_getr C0 hZ hk0 fRX6_40 rfl dX6_undoLast_46 ?_
  refine lv_iload_n hx hb dX6_undoLast_49 rfl (lv_at hl 0 rfl) ?_
  refine lv_iconst (v := 2) hx hb dX6_undoLast_50 (by decide) ?_
  refine lv_iadd hx hb dX6_undoLast_51 ?_
  refine z_cSi (As := [.ref (zad V (k0 + 3)), .int (x1_11 + 2)]) (rest := [.ref (zad V k0)]) C0 hZ h1 (fun _ hf => kX7_at l (zkt6_9 hk0) hf) mRX6_89 sX7_at rfl rfl hl.1 (Nat.le_of_ble_eq_true rfl) ⟨Nat.le_of_ble_eq_true rfl, Nat.le_of_ble_eq_true rfl⟩ dX6_undoLast_52 ⟨Nat.le_of_ble_eq_true rfl, Nat.le_of_ble_eq_true rfl⟩ (fun r_19 σ_18 H locs h1 hZ => ?_)
  refine z_puti C0 hZ h1 hk0 fRX6_18 rfl tyX6_ok nmX6 rfl rfl rfl dX6_undoLast_55 (fun σ_20 H locs h1 hZ => ?_)
  refine lv_aload_n hx hb dX6_undoLast_58 rfl (lv_at hl 1 rfl) ?_
  refine lv_aload_n hx hb dX6_undoLast_59 rfl (lv_at hl 1 rfl) ?_
  refine z_getr C0 hZ hk0 fRX6_40 rfl dX6_undoLast_60 ?_
  refine lv_iload_n hx hb dX6_undoLast_63 rfl (lv_at hl 0 rfl) ?_
  refine lv_iconst (v := 3) hx hb dX6_undoLast_64 (by decide) ?_
  refine lv_iadd hx hb dX6_undoLast_65 ?_
  refine z_cSi (As := [.ref (zad V (k0 + 3)), .int (x1_11 + 3)]) (rest := [.ref (zad V k0)]) C0 hZ h1 (fun _ hf => kX7_at l (zkt6_9 hk0) hf) mRX6_89 sX7_at rfl rfl hl.1 (Nat.le_of_ble_eq_true rfl) ⟨Nat.le_of_ble_eq_true rfl, Nat.le_of_ble_eq_true rfl⟩ dX6_undoLast_66 ⟨Nat.le_of_ble_eq_true rfl, Nat.le_of_ble_eq_true rfl⟩ (fun r_22 σ_21 H locs h1 hZ => ?_)
  refine z_puti C0 hZ h1 hk0 fRX6_21 rfl tyX6_ok nmX6 rfl rfl rfl dX6_undoLast_69 (fun σ_23 H locs h1 hZ => ?_)
  refine lv_aload_n hx hb dX6_undoLast_72 rfl (lv_at hl 1 rfl) ?_
  refine lv_aload_n hx hb dX6_undoLast_73 rfl (lv_at hl 1 rfl) ?_
  refine z_getr C0 hZ hk0 fRX6_40 rfl dX6_undoLast_74 ?_
  refine lv_iload_n hx hb dX6_undoLast_77 rfl (lv_at hl 0 rfl) ?_
  refine lv_iconst (v := 4) hx hb dX6_undoLast_78 (by decide) ?_
  refine lv_iadd hx hb dX6_undoLast_79 ?_
  refine z_cSi (As := [.ref (zad V (k0 + 3)), .int (x1_11 + 4)]) (rest := [.ref (zad V k0)]) C0 hZ h1 (fun _ hf => kX7_at l (zkt6_9 hk0) hf) mRX6_89 sX7_at rfl rfl hl.1 (Nat.le_of_ble_eq_true rfl) ⟨Nat.le_of_ble_eq_true rfl, Nat.le_of_ble_eq_true rfl⟩ dX6_undoLast_80 ⟨Nat.le_of_ble_eq_true rfl, Nat.le_of_ble_eq_true rfl⟩ (fun r_25 σ_24 H locs h1 hZ => ?_)
  refine z_puti C0 hZ h1 hk0 fRX6_24 rfl tyX6_ok nmX6 rfl rfl rfl dX6_undoLast_83 (fun σ_26 H locs h1 hZ => ?_)
  refine lv_aload_n hx hb dX6_undoLast_86 rfl (lv_at hl 1 rfl) ?_
  refine lv_aload_n hx hb dX6_undoLast_87 rfl (lv_at hl 1 rfl) ?_
  refine z_getr C0 hZ hk0 fRX6_40 rfl dX6_undoLast_88 ?_
  refine lv_iload_n hx hb dX6_undoLast_91 rfl (lv_at hl 0 rfl) ?_
  refine lv_iconst (v := 5) hx hb dX6_undoLast_92 (by decide) ?_
  refine lv_iadd hx hb dX6_undoLast_93 ?_
  refine z_cSi (As := [.ref (zad V (k0 + 3)), .int (x1_11 + 5)]) (rest := [.ref (zad V k0)]) C0 hZ h1 (fun _ hf => kX7_at l (zkt6_9 hk0) hf) mRX6_89 sX7_at rfl rfl hl.1 (Nat.le_of_ble_eq_true rfl) ⟨Nat.le_of_ble_eq_true rfl, Nat.le_of_ble_eq_true rfl⟩ dX6_undoLast_94 ⟨Nat.le_of_ble_eq_true rfl, Nat.le_of_ble_eq_true rfl⟩ (fun r_28 σ_27 H locs h1 hZ => ?_)
  refine z_puti C0 hZ h1 hk0 fRX6_27 rfl tyX6_ok nmX6 rfl rfl rfl dX6_undoLast_97 (fun σ_29 H locs h1 hZ => ?_)
  refine lv_iconst (v := 0) hx hb dX6_undoLast_100 (by decide) ?_
  refine z_istore_n C0 h1 hl (fun x2_30 => [(2, .int x2_30), (1, .int x1_11), (0, .ref (zad V k0))]) dX6_undoLast_101 rfl (by decide) (fun _ => rfl) (fun x2_30 ls h1 hl => ?_)
  obtain ⟨n, h1⟩ := zlp_iff.mp h1
  exact J102 n x1_11 x2_30 _ _ _ _  hZ (lv_sub hl [2, 1, 0] rfl) h1
noncomputable def FX6_toldFrom_b38 (x2 : Int32) (σ : zS) : Option (Int32 × zS) := some (x2, σ)
noncomputable def FX6_toldFrom_b30 (k0 : Nat) (x1 : Int32) (x3 : Int32) (y0 : Int32) (y1 : Int32) (σ : zS) : Option ((Int32 × Int32 × zS) ⊕ (Int32 × zS)) := zlet (y0 + y1) (fun x2_1 => zlet (x3 + 1) (fun x3_2 => some (.inl (x2_1, x3_2, σ))))
noncomputable def FX6_toldFrom_L4 (k0 : Nat) (x1 : Int32) (x2 : Int32) (x3 : Int32) (σ : zS) : Option ((Int32 × Int32 × zS) ⊕ (Int32 × zS)) := if (σ k0 10) ≤ x3 then zinr (FX6_toldFrom_b38 x2 σ) else zbd (FX7_at (k0 + 4) x3 σ) (fun r_4 σ_3 => if r_4 < x1 then FX6_toldFrom_b30 k0 x1 x3 x2 0 σ_3 else FX6_toldFrom_b30 k0 x1 x3 x2 1 σ_3)
noncomputable def FX6_toldFrom (k0 : Nat) (x1 : Int32) (σ : zS) : Option (Int32 × zS) := zlet 0 (fun x2_5 => zlet 0 (fun x3_6 => zlp (fun q => FX6_toldFrom_L4 k0 x1 q.1 q.2.1 q.2.2) (x2_5, x3_6, σ)))
set_option maxHeartbeats 4000000 in
set_option maxRecDepth 100000 in
theorem kX6_toldFrom (l : Launch) {V : zV} {σ : zS} {t0 : Int32 × zS} {k0 : Nat} {x1 : Int32} (hk0 : kd 0 k0 = 6) (h1 : FX6_toldFrom k0 x1 σ = some t0) : zMi l yX6_toldFrom cX6_toldFrom 4 (some .int) 1 21 0 V σ t0 [.ref (zad V k0), .int x1] := by
  refine zMi_of (by decide) (Nat.le_of_ble_eq_true rfl) ?_
  intro p e s m below meth c A C0 hr hlk hZ ls hl
  generalize ([.ref (zad V k0), .int x1] : List Value).toArray = args at C0 ⊢
  obtain ⟨Q, hQ⟩ : ∃ Q, Q = MQ below (zQi 0 V t0 A) args s 0 0 A := ⟨_, rfl⟩
  rw [← hQ]
  have hx := C0.1
  have hb := C0.2.1
  have hl : lv_has ls 4 [(0, .ref (zad V k0)), (1, .int x1)] := hl
  unfold FX6_toldFrom at h1
  have J38 : ∀ (x2 : Int32) (σ : zS) (H : Heap) (locs : List Loc) (ls : Array Slot), zZ 0 V A σ s H locs → lv_has ls 4 [(2, .int x2)] → FX6_toldFrom_b38 x2 σ = some t0 → W p l e (zrm 1 21) s m args below meth c H locs 0 0 Q (F0 m 38 ls []) := by
    intro x2 σ H locs ls  hZ hl h1
    unfold FX6_toldFrom_b38 at h1
    refine lv_iload_n hx hb dX6_toldFrom_38 rfl (lv_at hl 0 rfl) ?_
    rw [hQ]; exact z_iret C0 hr hlk hZ h1 dX6_toldFrom_39
  have J4 : ∀ (n : Nat) (x2 : Int32) (x3 : Int32) (σ : zS) (H : Heap) (locs : List Loc) (ls : Array Slot), zZ 0 V A σ s H locs → lv_has ls 4 [(0, .ref (zad V k0)), (1, .int x1), (2, .int x2), (3, .int x3)] → zit (fun q => FX6_toldFrom_L4 k0 x1 q.1 q.2.1 q.2.2) n (x2, x3, σ) = some t0 → W p l e (zrm 1 21) s m args below meth c H locs 0 0 Q (F0 m 4 ls []) := by
    intro n
    induction n with
    | zero => intro x2 x3 σ H locs ls  _ _ h1; cases h1
    | succ n ih4 =>
      intro x2 x3 σ H locs ls  hZ hl h1
      obtain ⟨t1, h1, hz1⟩ := zit_1 h1
      have J30 : ∀ (x3 : Int32) (y0 : Int32) (y1 : Int32) (σ : zS) (H : Heap) (locs : List Loc) (ls : Array Slot), zZ 0 V A σ s H locs → lv_has ls 4 [(0, .ref (zad V k0)), (1, .int x1), (3, .int x3)] → FX6_toldFrom_b30 k0 x1 x3 y0 y1 σ = some t1 → W p l e (zrm 1 21) s m args below meth c H locs 0 0 Q (F0 m 30 ls [.int y1, .int y0]) := by
        intro x3 y0 y1 σ H locs ls  hZ hl h1
        unfold FX6_toldFrom_b30 at h1
        refine lv_iadd hx hb dX6_toldFrom_30 ?_
        refine z_istore_n C0 h1 hl (fun x2_1 => [(2, .int x2_1), (0, .ref (zad V k0)), (1, .int x1), (3, .int x3)]) dX6_toldFrom_31 rfl (by decide) (fun _ => rfl) (fun x2_1 ls h1 hl => ?_)
        refine z_iinc (v := 1) C0 h1 hl (fun x3_2 => [(3, .int x3_2), (2, .int x2_1), (0, .ref (zad V k0)), (1, .int x1)]) dX6_toldFrom_32 (k := 3) rfl (by decide) (by decide) (fun _ => rfl) (fun x3_2 ls h1 hl => ?_)
        refine lv_goto (tgt := 4) hx hb dX6_toldFrom_35 (by decide) ?_
        exact ih4 x2_1 x3_2 _ _ _ _  hZ (lv_sub hl [2, 3, 1, 0] rfl) (zback h1 hz1)
      replace h1 : FX6_toldFrom_L4 k0 x1 x2 x3 σ = some t1 := h1
      unfold FX6_toldFrom_L4 at h1
      refine lv_iload_n hx hb dX6_toldFrom_4 rfl (lv_at hl 3 rfl) ?_
      refine lv_aload_n hx hb dX6_toldFrom_5 rfl (lv_at hl 0 rfl) ?_
      refine z_geti C0 hZ hk0 fRX6_43 rfl dX6_toldFrom_6 ?_
      refine z_ic_ge (tgt := 38) C0 h1 dX6_toldFrom_9 (by decide) (fun h1 => ?_) (fun h1 => ?_)
      · have h1 := zout h1 hz1
        exact J38 x2 _ _ _ _  hZ (lv_sub hl [2] rfl) h1
      refine lv_iload_n hx hb dX6_toldFrom_12 rfl (lv_at hl 2 rfl) ?_
      refine lv_aload_n hx hb dX6_toldFrom_13 rfl (lv_at hl 0 rfl) ?_
      refine z_getr C0 hZ hk0 fRX6_46 rfl dX6_toldFrom_14 ?_
      refine lv_iload_n hx hb dX6_toldFrom_17 rfl (lv_at hl 3 rfl) ?_
      refine z_cSi (As := [.ref (zad V (k0 + 4)), .int x3]) (rest := [.int x2]) C0 hZ h1 (fun _ hf => kX7_at l (zkt6_11 hk0) hf) mRX6_89 sX7_at rfl rfl hl.1 (Nat.le_of_ble_eq_true rfl) ⟨Nat.le_of_ble_eq_true rfl, Nat.le_of_ble_eq_true rfl⟩ dX6_toldFrom_18 ⟨Nat.le_of_ble_eq_true rfl, Nat.le_of_ble_eq_true rfl⟩ (fun r_4 σ_3 H locs h1 hZ => ?_)
      refine lv_iload_n hx hb dX6_toldFrom_21 rfl (lv_at hl 1 rfl) ?_
      refine z_ic_lt (tgt := 29) C0 h1 dX6_toldFrom_22 (by decide) (fun h1 => ?_) (fun h1 => ?_)
      · refine lv_iconst (v := 0) hx hb dX6_toldFrom_29 (by decide) ?_
        exact J30 x3 x2 0 _ _ _ _  hZ (lv_sub hl [0, 1, 3] rfl) h1
      refine lv_iconst (v := 1) hx hb dX6_toldFrom_25 (by decide) ?_
      refine lv_goto (tgt := 30) hx hb dX6_toldFrom_26 (by decide) ?_
      exact J30 x3 x2 1 _ _ _ _  hZ (lv_sub hl [0, 1, 3] rfl) h1
  refine lv_iconst (v := 0) hx hb dX6_toldFrom_0 (by decide) ?_
  refine z_istore_n C0 h1 hl (fun x2_5 => [(2, .int x2_5), (0, .ref (zad V k0)), (1, .int x1)]) dX6_toldFrom_1 rfl (by decide) (fun _ => rfl) (fun x2_5 ls h1 hl => ?_)
  refine lv_iconst (v := 0) hx hb dX6_toldFrom_2 (by decide) ?_
  refine z_istore_n C0 h1 hl (fun x3_6 => [(3, .int x3_6), (2, .int x2_5), (0, .ref (zad V k0)), (1, .int x1)]) dX6_toldFrom_3 rfl (by decide) (fun _ => rfl) (fun x3_6 ls h1 hl => ?_)
  obtain ⟨n, h1⟩ := zlp_iff.mp h1
  exact J4 n x2_5 x3_6 _ _ _ _  hZ (lv_sub hl [2, 3, 1, 0] rfl) h1
noncomputable def FX6_hadFrom_b45 (x2 : Int32) (σ : zS) : Option (Int32 × zS) := some (x2, σ)
noncomputable def FX6_hadFrom_b37 (k0 : Nat) (x1 : Int32) (x3 : Int32) (y0 : Int32) (y1 : Int32) (σ : zS) : Option ((Int32 × Int32 × zS) ⊕ (Int32 × zS)) := zlet (y0 + y1) (fun x2_1 => zlet (x3 + 1) (fun x3_2 => some (.inl (x2_1, x3_2, σ))))
noncomputable def FX6_hadFrom_L4 (k0 : Nat) (x1 : Int32) (x2 : Int32) (x3 : Int32) (σ : zS) : Option ((Int32 × Int32 × zS) ⊕ (Int32 × zS)) := if (σ k0 10) ≤ x3 then zinr (FX6_hadFrom_b45 x2 σ) else zbd (FX7_at (k0 + 4) x3 σ) (fun r_4 σ_3 => if r_4 < x1 then FX6_hadFrom_b37 k0 x1 x3 x2 0 σ_3 else zbd (FX7_at (k0 + 5) x3 σ_3) (fun r_6 σ_5 => FX6_hadFrom_b37 k0 x1 x3 x2 r_6 σ_5))
noncomputable def FX6_hadFrom (k0 : Nat) (x1 : Int32) (σ : zS) : Option (Int32 × zS) := zlet 0 (fun x2_7 => zlet 0 (fun x3_8 => zlp (fun q => FX6_hadFrom_L4 k0 x1 q.1 q.2.1 q.2.2) (x2_7, x3_8, σ)))
set_option maxHeartbeats 4000000 in
set_option maxRecDepth 100000 in
theorem kX6_hadFrom (l : Launch) {V : zV} {σ : zS} {t0 : Int32 × zS} {k0 : Nat} {x1 : Int32} (hk0 : kd 0 k0 = 6) (h1 : FX6_hadFrom k0 x1 σ = some t0) : zMi l yX6_hadFrom cX6_hadFrom 4 (some .int) 1 21 0 V σ t0 [.ref (zad V k0), .int x1] := by
  refine zMi_of (by decide) (Nat.le_of_ble_eq_true rfl) ?_
  intro p e s m below meth c A C0 hr hlk hZ ls hl
  generalize ([.ref (zad V k0), .int x1] : List Value).toArray = args at C0 ⊢
  obtain ⟨Q, hQ⟩ : ∃ Q, Q = MQ below (zQi 0 V t0 A) args s 0 0 A := ⟨_, rfl⟩
  rw [← hQ]
  have hx := C0.1
  have hb := C0.2.1
  have hl : lv_has ls 4 [(0, .ref (zad V k0)), (1, .int x1)] := hl
  unfold FX6_hadFrom at h1
  have J45 : ∀ (x2 : Int32) (σ : zS) (H : Heap) (locs : List Loc) (ls : Array Slot), zZ 0 V A σ s H locs → lv_has ls 4 [(2, .int x2)] → FX6_hadFrom_b45 x2 σ = some t0 → W p l e (zrm 1 21) s m args below meth c H locs 0 0 Q (F0 m 45 ls []) := by
    intro x2 σ H locs ls  hZ hl h1
    unfold FX6_hadFrom_b45 at h1
    refine lv_iload_n hx hb dX6_hadFrom_45 rfl (lv_at hl 0 rfl) ?_
    rw [hQ]; exact z_iret C0 hr hlk hZ h1 dX6_hadFrom_46
  have J4 : ∀ (n : Nat) (x2 : Int32) (x3 : Int32) (σ : zS) (H : Heap) (locs : List Loc) (ls : Array Slot), zZ 0 V A σ s H locs → lv_has ls 4 [(0, .ref (zad V k0)), (1, .int x1), (2, .int x2), (3, .int x3)] → zit (fun q => FX6_hadFrom_L4 k0 x1 q.1 q.2.1 q.2.2) n (x2, x3, σ) = some t0 → W p l e (zrm 1 21) s m args below meth c H locs 0 0 Q (F0 m 4 ls []) := by
    intro n
    induction n with
    | zero => intro x2 x3 σ H locs ls  _ _ h1; cases h1
    | succ n ih4 =>
      intro x2 x3 σ H locs ls  hZ hl h1
      obtain ⟨t1, h1, hz1⟩ := zit_1 h1
      have J37 : ∀ (x3 : Int32) (y0 : Int32) (y1 : Int32) (σ : zS) (H : Heap) (locs : List Loc) (ls : Array Slot), zZ 0 V A σ s H locs → lv_has ls 4 [(0, .ref (zad V k0)), (1, .int x1), (3, .int x3)] → FX6_hadFrom_b37 k0 x1 x3 y0 y1 σ = some t1 → W p l e (zrm 1 21) s m args below meth c H locs 0 0 Q (F0 m 37 ls [.int y1, .int y0]) := by
        intro x3 y0 y1 σ H locs ls  hZ hl h1
        unfold FX6_hadFrom_b37 at h1
        refine lv_iadd hx hb dX6_hadFrom_37 ?_
        refine z_istore_n C0 h1 hl (fun x2_1 => [(2, .int x2_1), (0, .ref (zad V k0)), (1, .int x1), (3, .int x3)]) dX6_hadFrom_38 rfl (by decide) (fun _ => rfl) (fun x2_1 ls h1 hl => ?_)
        refine z_iinc (v := 1) C0 h1 hl (fun x3_2 => [(3, .int x3_2), (2, .int x2_1), (0, .ref (zad V k0)), (1, .int x1)]) dX6_hadFrom_39 (k := 3) rfl (by decide) (by decide) (fun _ => rfl) (fun x3_2 ls h1 hl => ?_)
        refine lv_goto (tgt := 4) hx hb dX6_hadFrom_42 (by decide) ?_
        exact ih4 x2_1 x3_2 _ _ _ _  hZ (lv_sub hl [2, 3, 1, 0] rfl) (zback h1 hz1)
      replace h1 : FX6_hadFrom_L4 k0 x1 x2 x3 σ = some t1 := h1
      unfold FX6_hadFrom_L4 at h1
      refine lv_iload_n hx hb dX6_hadFrom_4 rfl (lv_at hl 3 rfl) ?_
      refine lv_aload_n hx hb dX6_hadFrom_5 rfl (lv_at hl 0 rfl) ?_
      refine z_geti C0 hZ hk0 fRX6_43 rfl dX6_hadFrom_6 ?_
      refine z_ic_ge (tgt := 45) C0 h1 dX6_hadFrom_9 (by decide) (fun h1 => ?_) (fun h1 => ?_)
      · have h1 := zout h1 hz1
        exact J45 x2 _ _ _ _  hZ (lv_sub hl [2] rfl) h1
      refine lv_iload_n hx hb dX6_hadFrom_12 rfl (lv_at hl 2 rfl) ?_
      refine lv_aload_n hx hb dX6_hadFrom_13 rfl (lv_at hl 0 rfl) ?_
      refine z_getr C0 hZ hk0 fRX6_46 rfl dX6_hadFrom_14 ?_
      refine lv_iload_n hx hb dX6_hadFrom_17 rfl (lv_at hl 3 rfl) ?_
      refine z_cSi (As := [.ref (zad V (k0 + 4)), .int x3]) (rest := [.int x2]) C0 hZ h1 (fun _ hf => kX7_at l (zkt6_11 hk0) hf) mRX6_89 sX7_at rfl rfl hl.1 (Nat.le_of_ble_eq_true rfl) ⟨Nat.le_of_ble_eq_true rfl, Nat.le_of_ble_eq_true rfl⟩ dX6_hadFrom_18 ⟨Nat.le_of_ble_eq_true rfl, Nat.le_of_ble_eq_true rfl⟩ (fun r_4 σ_3 H locs h1 hZ => ?_)
      refine lv_iload_n hx hb dX6_hadFrom_21 rfl (lv_at hl 1 rfl) ?_
      refine z_ic_lt (tgt := 36) C0 h1 dX6_hadFrom_22 (by decide) (fun h1 => ?_) (fun h1 => ?_)
      · refine lv_iconst (v := 0) hx hb dX6_hadFrom_36 (by decide) ?_
        exact J37 x3 x2 0 _ _ _ _  hZ (lv_sub hl [0, 1, 3] rfl) h1
      refine lv_aload_n hx hb dX6_hadFrom_25 rfl (lv_at hl 0 rfl) ?_
      refine z_getr C0 hZ hk0 fRX6_49 rfl dX6_hadFrom_26 ?_
      refine lv_iload_n hx hb dX6_hadFrom_29 rfl (lv_at hl 3 rfl) ?_
      refine z_cSi (As := [.ref (zad V (k0 + 5)), .int x3]) (rest := [.int x2]) C0 hZ h1 (fun _ hf => kX7_at l (zkt6_12 hk0) hf) mRX6_89 sX7_at rfl rfl hl.1 (Nat.le_of_ble_eq_true rfl) ⟨Nat.le_of_ble_eq_true rfl, Nat.le_of_ble_eq_true rfl⟩ dX6_hadFrom_30 ⟨Nat.le_of_ble_eq_true rfl, Nat.le_of_ble_eq_true rfl⟩ (fun r_6 σ_5 H locs h1 hZ => ?_)
      refine lv_goto (tgt := 37) hx hb dX6_hadFrom_33 (by decide) ?_
      exact J37 x3 x2 r_6 _ _ _ _  hZ (lv_sub hl [0, 1, 3] rfl) h1
  refine lv_iconst (v := 0) hx hb dX6_hadFrom_0 (by decide) ?_
  refine z_istore_n C0 h1 hl (fun x2_7 => [(2, .int x2_7), (0, .ref (zad V k0)), (1, .int x1)]) dX6_hadFrom_1 rfl (by decide) (fun _ => rfl) (fun x2_7 ls h1 hl => ?_)
  refine lv_iconst (v := 0) hx hb dX6_hadFrom_2 (by decide) ?_
  refine z_istore_n C0 h1 hl (fun x3_8 => [(3, .int x3_8), (2, .int x2_7), (0, .ref (zad V k0)), (1, .int x1)]) dX6_hadFrom_3 rfl (by decide) (fun _ => rfl) (fun x3_8 ls h1 hl => ?_)
  obtain ⟨n, h1⟩ := zlp_iff.mp h1
  exact J4 n x2_7 x3_8 _ _ _ _  hZ (lv_sub hl [2, 3, 1, 0] rfl) h1
noncomputable def FX7_tellBytes_b44  (σ : zS) : Option (Int32 × zS) := some (0, σ)
noncomputable def FX7_tellBytes_L3 (k0 : Nat) (x1 : Int32) (x2 : Int32) (σ : zS) : Option ((Int32 × zS) ⊕ (Int32 × zS)) := if x2 < 0 then zinr (FX7_tellBytes_b44  σ) else zbd (FX7_put ((k0 + 4) + 1) (σ k0 0) ((x1 >>> (x2 &&& 31)) &&& 255) σ) (fun _ σ_1 => zlet (zup σ_1 k0 0 ((σ_1 k0 0) + 1)) (fun σ_3 => zlet (x2 + (-8)) (fun x2_4 => some (.inl (x2_4, σ_3)))))
noncomputable def FX7_tellBytes (k0 : Nat) (x1 : Int32) (σ : zS) : Option (Int32 × zS) := zlet 24 (fun x2_5 => zlp (fun q => FX7_tellBytes_L3 k0 x1 q.1 q.2) (x2_5, σ))
set_option maxHeartbeats 4000000 in
set_option maxRecDepth 100000 in
theorem kX7_tellBytes (l : Launch) {V : zV} {σ : zS} {t0 : Int32 × zS} {k0 : Nat} {x1 : Int32} (hk0 : kd 0 k0 = 7) (h1 : FX7_tellBytes k0 x1 σ = some t0) : zMv l yX7_tellBytes cX7_tellBytes 3 1 22 0 V σ t0 [.ref (zad V k0), .int x1] := by
  refine zMv_of (by decide) (Nat.le_of_ble_eq_true rfl) ?_
  intro p e s m below meth c A C0 hr hlk hZ ls hl
  generalize ([.ref (zad V k0), .int x1] : List Value).toArray = args at C0 ⊢
  obtain ⟨Q, hQ⟩ : ∃ Q, Q = MQ below (zQv 0 V t0 A) args s 0 0 A := ⟨_, rfl⟩
  rw [← hQ]
  have hx := C0.1
  have hb := C0.2.1
  have hl : lv_has ls 3 [(0, .ref (zad V k0)), (1, .int x1)] := hl
  unfold FX7_tellBytes at h1
  have J44 : ∀  (σ : zS) (H : Heap) (locs : List Loc) (ls : Array Slot), zZ 0 V A σ s H locs → lv_has ls 3 [] → FX7_tellBytes_b44  σ = some t0 → W p l e (zrm 1 22) s m args below meth c H locs 0 0 Q (F0 m 44 ls []) := by
    intro  σ H locs ls  hZ hl h1
    unfold FX7_tellBytes_b44 at h1
    rw [hQ]; exact z_vret C0 hr hlk hZ h1 dX7_tellBytes_44
  have J3 : ∀ (n : Nat) (x2 : Int32) (σ : zS) (H : Heap) (locs : List Loc) (ls : Array Slot), zZ 0 V A σ s H locs → lv_has ls 3 [(0, .ref (zad V k0)), (1, .int x1), (2, .int x2)] → zit (fun q => FX7_tellBytes_L3 k0 x1 q.1 q.2) n (x2, σ) = some t0 → W p l e (zrm 1 22) s m args below meth c H locs 0 0 Q (F0 m 3 ls []) := by
    intro n
    induction n with
    | zero => intro x2 σ H locs ls  _ _ h1; cases h1
    | succ n ih3 =>
      intro x2 σ H locs ls  hZ hl h1
      obtain ⟨t1, h1, hz1⟩ := zit_1 h1
      replace h1 : FX7_tellBytes_L3 k0 x1 x2 σ = some t1 := h1
      unfold FX7_tellBytes_L3 at h1
      refine lv_iload_n hx hb dX7_tellBytes_3 rfl (lv_at hl 2 rfl) ?_
      refine z_if_lt (tgt := 44) C0 h1 dX7_tellBytes_4 (by decide) (fun h1 => ?_) (fun h1 => ?_)
      · have h1 := zout h1 hz1
        exact J44  _ _ _ _  hZ (lv_sub hl [] rfl) h1
      refine lv_aload_n hx hb dX7_tellBytes_7 rfl (lv_at hl 0 rfl) ?_
      refine z_getr C0 hZ hk0 fRX7_26 rfl dX7_tellBytes_8 ?_
      refine z_getr C0 hZ (zkt7_3 hk0) fRX7_76 rfl dX7_tellBytes_11 ?_
      refine lv_aload_n hx hb dX7_tellBytes_14 rfl (lv_at hl 0 rfl) ?_
      refine z_geti C0 hZ hk0 fRX7_7 rfl dX7_tellBytes_15 ?_
      refine lv_iload_n hx hb dX7_tellBytes_18 rfl (lv_at hl 1 rfl) ?_
      refine lv_iload_n hx hb dX7_tellBytes_19 rfl (lv_at hl 2 rfl) ?_
      refine lv_ishr hx hb dX7_tellBytes_20 ?_
      refine lv_sipush (v := 255) hx hb dX7_tellBytes_21 (by decide) ?_
      refine lv_iand hx hb dX7_tellBytes_24 ?_
      refine z_cSv (As := [.ref (zad V ((k0 + 4) + 1)), .int (σ k0 0), .int ((x1 >>> (x2 &&& 31)) &&& 255)]) (rest := []) C0 hZ h1 (fun _ hf => kX7_put l (zkt3_0 (zkt7_3 hk0)) hf) mRX7_79 sX7_put rfl rfl hl.1 (Nat.le_of_ble_eq_true rfl) ⟨Nat.le_of_ble_eq_true rfl, Nat.le_of_ble_eq_true rfl⟩ dX7_tellBytes_25 ⟨Nat.le_of_ble_eq_true rfl, Nat.le_of_ble_eq_true rfl⟩ (fun _ σ_1 H locs h1 hZ => ?_)
      refine lv_aload_n hx hb dX7_tellBytes_28 rfl (lv_at hl 0 rfl) ?_
      refine lv_dup hx hb dX7_tellBytes_29 rfl ?_
      refine z_geti C0 hZ hk0 fRX7_7 rfl dX7_tellBytes_30 ?_
      refine lv_iconst (v := 1) hx hb dX7_tellBytes_33 (by decide) ?_
      refine lv_iadd hx hb dX7_tellBytes_34 ?_
      refine z_puti C0 hZ h1 hk0 fRX7_7 rfl tyX7_ok nmX7 rfl rfl rfl dX7_tellBytes_35 (fun σ_3 H locs h1 hZ => ?_)
      refine z_iinc (v := (-8)) C0 h1 hl (fun x2_4 => [(2, .int x2_4), (0, .ref (zad V k0)), (1, .int x1)]) dX7_tellBytes_38 (k := 2) rfl (by decide) (by decide) (fun _ => rfl) (fun x2_4 ls h1 hl => ?_)
      refine lv_goto (tgt := 3) hx hb dX7_tellBytes_41 (by decide) ?_
      exact ih3 x2_4 _ _ _ _  hZ (lv_sub hl [1, 2, 0] rfl) (zback h1 hz1)
  refine lv_bipush (v := 24) hx hb dX7_tellBytes_0 (by decide) ?_
  refine z_istore_n C0 h1 hl (fun x2_5 => [(2, .int x2_5), (0, .ref (zad V k0)), (1, .int x1)]) dX7_tellBytes_2 rfl (by decide) (fun _ => rfl) (fun x2_5 ls h1 hl => ?_)
  obtain ⟨n, h1⟩ := zlp_iff.mp h1
  exact J3 n x2_5 _ _ _ _  hZ (lv_sub hl [1, 2, 0] rfl) h1
noncomputable def FX7_feed (k0 : Nat) (x1 : Int32) (x2 : Int32) (x3 : Int32) (x4 : Int32) (x5 : Int32) (σ : zS) : Option (Int32 × zS) := if ((σ k0 0) + 20) ≤ 700 then zbd (FX7_tellBytes k0 x1 σ) (fun _ σ_1 => zbd (FX7_tellBytes k0 x2 σ_1) (fun _ σ_3 => zbd (FX7_tellBytes k0 x3 σ_3) (fun _ σ_5 => zbd (FX7_tellBytes k0 x4 σ_5) (fun _ σ_7 => zbd (FX7_tellBytes k0 x5 σ_7) (fun _ σ_9 => some ((σ_9 k0 0), σ_9)))))) else some ((-1), σ)
set_option maxHeartbeats 4000000 in
set_option maxRecDepth 100000 in
theorem kX7_feed (l : Launch) {V : zV} {σ : zS} {t0 : Int32 × zS} {k0 : Nat} {x1 : Int32} {x2 : Int32} {x3 : Int32} {x4 : Int32} {x5 : Int32} (hk0 : kd 0 k0 = 7) (h1 : FX7_feed k0 x1 x2 x3 x4 x5 σ = some t0) : zMi l yX7_feed cX7_feed 6 (some .int) 2 44 0 V σ t0 [.ref (zad V k0), .int x1, .int x2, .int x3, .int x4, .int x5] := by
  refine zMi_of (by decide) (Nat.le_of_ble_eq_true rfl) ?_
  intro p e s m below meth c A C0 hr hlk hZ ls hl
  generalize ([.ref (zad V k0), .int x1, .int x2, .int x3, .int x4, .int x5] : List Value).toArray = args at C0 ⊢
  obtain ⟨Q, hQ⟩ : ∃ Q, Q = MQ below (zQi 0 V t0 A) args s 0 0 A := ⟨_, rfl⟩
  rw [← hQ]
  have hx := C0.1
  have hb := C0.2.1
  have hl : lv_has ls 6 [(0, .ref (zad V k0)), (1, .int x1), (2, .int x2), (3, .int x3), (4, .int x4), (5, .int x5)] := hl
  unfold FX7_feed at h1
  refine lv_aload_n hx hb dX7_feed_0 rfl (lv_at hl 0 rfl) ?_
  refine z_geti C0 hZ hk0 fRX7_7 rfl dX7_feed_1 ?_
  refine lv_bipush (v := 20) hx hb dX7_feed_4 (by decide) ?_
  refine lv_iadd hx hb dX7_feed_6 ?_
  refine lv_sipush (v := 700) hx hb dX7_feed_7 (by decide) ?_
  refine z_ic_le (tgt := 15) C0 h1 dX7_feed_10 (by decide) (fun h1 => ?_) (fun h1 => ?_)
  · refine lv_aload_n hx hb dX7_feed_15 rfl (lv_at hl 0 rfl) ?_
    refine lv_iload_n hx hb dX7_feed_16 rfl (lv_at hl 1 rfl) ?_
    refine z_cVv (As := [.int x1]) (rest := []) C0 hZ h1 (fun _ hf => kX7_tellBytes l hk0 hf) mRX7_72 vX7_tellBytes hk0 rfl rfl hl.1 (Nat.le_of_ble_eq_true rfl) ⟨Nat.le_of_ble_eq_true rfl, Nat.le_of_ble_eq_true rfl⟩ dX7_feed_17 ⟨Nat.le_of_ble_eq_true rfl, Nat.le_of_ble_eq_true rfl⟩ (fun _ σ_1 H locs h1 hZ => ?_)
    refine lv_aload_n hx hb dX7_feed_20 rfl (lv_at hl 0 rfl) ?_
    refine lv_iload_n hx hb dX7_feed_21 rfl (lv_at hl 2 rfl) ?_
    refine z_cVv (As := [.int x2]) (rest := []) C0 hZ h1 (fun _ hf => kX7_tellBytes l hk0 hf) mRX7_72 vX7_tellBytes hk0 rfl rfl hl.1 (Nat.le_of_ble_eq_true rfl) ⟨Nat.le_of_ble_eq_true rfl, Nat.le_of_ble_eq_true rfl⟩ dX7_feed_22 ⟨Nat.le_of_ble_eq_true rfl, Nat.le_of_ble_eq_true rfl⟩ (fun _ σ_3 H locs h1 hZ => ?_)
    refine lv_aload_n hx hb dX7_feed_25 rfl (lv_at hl 0 rfl) ?_
    refine lv_iload_n hx hb dX7_feed_26 rfl (lv_at hl 3 rfl) ?_
    refine z_cVv (As := [.int x3]) (rest := []) C0 hZ h1 (fun _ hf => kX7_tellBytes l hk0 hf) mRX7_72 vX7_tellBytes hk0 rfl rfl hl.1 (Nat.le_of_ble_eq_true rfl) ⟨Nat.le_of_ble_eq_true rfl, Nat.le_of_ble_eq_true rfl⟩ dX7_feed_27 ⟨Nat.le_of_ble_eq_true rfl, Nat.le_of_ble_eq_true rfl⟩ (fun _ σ_5 H locs h1 hZ => ?_)
    refine lv_aload_n hx hb dX7_feed_30 rfl (lv_at hl 0 rfl) ?_
    refine lv_iload hx hb dX7_feed_31 (lv_at hl 4 rfl) ?_
    refine z_cVv (As := [.int x4]) (rest := []) C0 hZ h1 (fun _ hf => kX7_tellBytes l hk0 hf) mRX7_72 vX7_tellBytes hk0 rfl rfl hl.1 (Nat.le_of_ble_eq_true rfl) ⟨Nat.le_of_ble_eq_true rfl, Nat.le_of_ble_eq_true rfl⟩ dX7_feed_33 ⟨Nat.le_of_ble_eq_true rfl, Nat.le_of_ble_eq_true rfl⟩ (fun _ σ_7 H locs h1 hZ => ?_)
    refine lv_aload_n hx hb dX7_feed_36 rfl (lv_at hl 0 rfl) ?_
    refine lv_iload hx hb dX7_feed_37 (lv_at hl 5 rfl) ?_
    refine z_cVv (As := [.int x5]) (rest := []) C0 hZ h1 (fun _ hf => kX7_tellBytes l hk0 hf) mRX7_72 vX7_tellBytes hk0 rfl rfl hl.1 (Nat.le_of_ble_eq_true rfl) ⟨Nat.le_of_ble_eq_true rfl, Nat.le_of_ble_eq_true rfl⟩ dX7_feed_39 ⟨Nat.le_of_ble_eq_true rfl, Nat.le_of_ble_eq_true rfl⟩ (fun _ σ_9 H locs h1 hZ => ?_)
    refine lv_aload_n hx hb dX7_feed_42 rfl (lv_at hl 0 rfl) ?_
    refine z_geti C0 hZ hk0 fRX7_7 rfl dX7_feed_43 ?_
    rw [hQ]; exact z_iret C0 hr hlk hZ h1 dX7_feed_46
  refine lv_iconst (v := (-1)) hx hb dX7_feed_13 (by decide) ?_
  rw [hQ]; exact z_iret C0 hr hlk hZ h1 dX7_feed_14
noncomputable def FX7_shop_b12  (σ : zS) : Option zT3 := some (2, 0, σ)
noncomputable def FX7_shop (k0 : Nat) (x1 : Int32) (σ : zS) : Option zT3 := if x1 < 0 then FX7_shop_b12  σ else if x1 ≤ (σ k0 0) then zbd (FX3_read (k0 + 4) x1 σ) (fun r_2 σ_1 => zlet r_2 (fun x2_3 => zlet (zup σ_1 k0 0 0) (fun σ_4 => if x2_3 = 0 then zlet (zup σ_4 k0 1 (-1)) (fun σ_5 => zgd (kd 0 (σ_5 k0 2).toNatClampNeg == 5) (zlet (σ_5 k0 2).toNatClampNeg (fun q_6 => zbd (FX3_changeFor (k0 + 4) q_6 σ_5) (fun r_8 σ_7 => zgd (kd 0 (Int32.toNatClampNeg r_8) == 5) (zlet (Int32.toNatClampNeg r_8) (fun q_9 => zlet (zup σ_7 k0 2 (nI q_9)) (fun σ_10 => zgd (kd 0 (σ_10 k0 2).toNatClampNeg == 5) (zlet (σ_10 k0 2).toNatClampNeg (fun q_11 => zbd (FX6_begin (k0 + 6) q_11 σ_10) (fun _ σ_12 => zlet (zup σ_12 k0 6 0) (fun σ_14 => zlet (zup σ_14 k0 12 0) (fun σ_15 => zlet (zup σ_15 k0 9 0) (fun σ_16 => some (0, 0, σ_16)))))))))))))) else zlet (zup σ_4 k0 1 (σ_4 (k0 + 4) 9)) (fun σ_17 => zbd (FX6_refuse (k0 + 6) 0 σ_17) (fun _ σ_18 => some (0, x2_3, σ_18)))))) else FX7_shop_b12  σ
set_option maxHeartbeats 4000000 in
set_option maxRecDepth 100000 in
theorem kX7_shop (l : Launch) (hfl : l.stackTraces = false) {V : zV} {σ : zS} {t0 : zT3} {k0 : Nat} {x1 : Int32} (hk0 : kd 0 k0 = 7) (h1 : FX7_shop k0 x1 σ = some t0) : zXi l yX7_shop cX7_shop 3 (some .int) 214 8512 1 6 0 V σ t0 [.ref (zad V k0), .int x1] := by
  refine zXi_of (by decide) (Nat.le_of_ble_eq_true rfl) ?_
  intro p e s m below meth c A C0 hr hlk hnt hZ ls hl
  generalize ([.ref (zad V k0), .int x1] : List Value).toArray = args at C0 ⊢
  obtain ⟨Q, hQ⟩ : ∃ Q, Q = vx_MQ below (zxQ 0 V t0 A) (zxX 0 V t0 A) args s 1 6 A := ⟨_, rfl⟩
  rw [← hQ]
  have hx := C0.1
  have hb := C0.2.1
  have hl : lv_has ls 3 [(0, .ref (zad V k0)), (1, .int x1)] := hl
  unfold FX7_shop at h1
  have J12 : ∀  (σ : zS) (H : Heap) (locs : List Loc) (ls : Array Slot), zZ 0 V A σ s H locs → lv_has ls 3 [] → FX7_shop_b12  σ = some t0 → W p l e { frames := 214, cells := 1, slots := 6, locals := 8512 } s m args below meth c H locs 0 0 Q (F0 m 12 ls []) := by
    intro  σ H locs ls  hZ hl h1
    unfold FX7_shop_b12 at h1
    rw [hQ]; exact z_throw (n := 1) C0 hfl hnt hl.1 hlk hZ h1 xxRX7_83 dX7_shop_12 dX7_shop_15 dX7_shop_16 dX7_shop_19 ⟨Nat.le_of_ble_eq_true rfl, Nat.le_of_ble_eq_true rfl, Nat.le_of_ble_eq_true rfl, Nat.le_of_ble_eq_true rfl⟩ ⟨Nat.le_of_ble_eq_true rfl, Nat.le_of_ble_eq_true rfl⟩
  refine lv_iload_n hx hb dX7_shop_0 rfl (lv_at hl 1 rfl) ?_
  refine z_if_lt (tgt := 12) C0 h1 dX7_shop_1 (by decide) (fun h1 => ?_) (fun h1 => ?_)
  · exact J12  _ _ _ _  hZ (lv_sub hl [] rfl) h1
  refine lv_iload_n hx hb dX7_shop_4 rfl (lv_at hl 1 rfl) ?_
  refine lv_aload_n hx hb dX7_shop_5 rfl (lv_at hl 0 rfl) ?_
  refine z_geti C0 hZ hk0 fRX7_7 rfl dX7_shop_6 ?_
  refine z_ic_le (tgt := 20) C0 h1 dX7_shop_9 (by decide) (fun h1 => ?_) (fun h1 => ?_)
  · refine lv_aload_n hx hb dX7_shop_20 rfl (lv_at hl 0 rfl) ?_
    refine z_getr C0 hZ hk0 fRX7_26 rfl dX7_shop_21 ?_
    refine lv_iload_n hx hb dX7_shop_24 rfl (lv_at hl 1 rfl) ?_
    refine z_cVi (As := [.int x1]) (rest := []) C0 hZ h1 (fun _ hf => kX3_read l (zkt7_3 hk0) hf) mRX7_86 vX3_read (zkt7_3 hk0) rfl rfl hl.1 (Nat.le_of_ble_eq_true rfl) ⟨Nat.le_of_ble_eq_true rfl, Nat.le_of_ble_eq_true rfl⟩ dX7_shop_25 ⟨Nat.le_of_ble_eq_true rfl, Nat.le_of_ble_eq_true rfl⟩ (fun r_2 σ_1 H locs h1 hZ => ?_)
    refine z_istore_n C0 h1 hl (fun x2_3 => [(2, .int x2_3), (0, .ref (zad V k0)), (1, .int x1)]) dX7_shop_28 rfl (by decide) (fun _ => rfl) (fun x2_3 ls h1 hl => ?_)
    refine lv_aload_n hx hb dX7_shop_29 rfl (lv_at hl 1 rfl) ?_
    refine lv_iconst (v := 0) hx hb dX7_shop_30 (by decide) ?_
    refine z_puti C0 hZ h1 hk0 fRX7_7 rfl tyX7_ok nmX7 rfl rfl rfl dX7_shop_31 (fun σ_4 H locs h1 hZ => ?_)
    refine lv_iload_n hx hb dX7_shop_34 rfl (lv_at hl 0 rfl) ?_
    refine z_if_eq (tgt := 59) C0 h1 dX7_shop_35 (by decide) (fun h1 => ?_) (fun h1 => ?_)
    · refine lv_aload_n hx hb dX7_shop_59 rfl (lv_at hl 1 rfl) ?_
      refine lv_iconst (v := (-1)) hx hb dX7_shop_60 (by decide) ?_
      refine z_puti C0 hZ h1 hk0 fRX7_13 rfl tyX7_ok nmX7 rfl rfl rfl dX7_shop_61 (fun σ_5 H locs h1 hZ => ?_)
      refine lv_aload_n hx hb dX7_shop_64 rfl (lv_at hl 1 rfl) ?_
      refine lv_aload_n hx hb dX7_shop_65 rfl (lv_at hl 1 rfl) ?_
      refine z_getr C0 hZ hk0 fRX7_26 rfl dX7_shop_66 ?_
      refine lv_aload_n hx hb dX7_shop_69 rfl (lv_at hl 1 rfl) ?_
      refine z_getm C0 hZ h1 hk0 fRX7_19 rfl dX7_shop_70 (fun q_6 hq_6 h1 => ?_)
      refine z_cVr (As := [.ref (zad V q_6)]) (rest := [.ref (zad V k0)]) C0 hZ h1 (fun _ hf => kX3_changeFor l (zkt7_3 hk0) hq_6 hf) mRX7_96 vX3_changeFor (zkt7_3 hk0) rfl rfl hl.1 (Nat.le_of_ble_eq_true rfl) ⟨Nat.le_of_ble_eq_true rfl, Nat.le_of_ble_eq_true rfl⟩ dX7_shop_73 ⟨Nat.le_of_ble_eq_true rfl, Nat.le_of_ble_eq_true rfl⟩ (fun q_9 σ_7 H locs hq_9 h1 hZ => ?_)
      refine z_putm C0 hZ h1 hk0 (zkd_lt hq_9) fRX7_19 rfl tyX7_ok nmX7 rfl (fun _ => rfl) (fun _ => rfl) dX7_shop_76 (fun σ_10 H locs h1 hZ => ?_)
      refine lv_aload_n hx hb dX7_shop_79 rfl (lv_at hl 1 rfl) ?_
      refine z_getr C0 hZ hk0 fRX7_33 rfl dX7_shop_80 ?_
      refine lv_aload_n hx hb dX7_shop_83 rfl (lv_at hl 1 rfl) ?_
      refine z_getm C0 hZ h1 hk0 fRX7_19 rfl dX7_shop_84 (fun q_11 hq_11 h1 => ?_)
      refine z_cVv (As := [.ref (zad V q_11)]) (rest := []) C0 hZ h1 (fun _ hf => kX6_begin l (zkt7_4 hk0) hq_11 hf) mRX7_100 vX6_begin (zkt7_4 hk0) rfl rfl hl.1 (Nat.le_of_ble_eq_true rfl) ⟨Nat.le_of_ble_eq_true rfl, Nat.le_of_ble_eq_true rfl⟩ dX7_shop_87 ⟨Nat.le_of_ble_eq_true rfl, Nat.le_of_ble_eq_true rfl⟩ (fun _ σ_12 H locs h1 hZ => ?_)
      refine lv_aload_n hx hb dX7_shop_90 rfl (lv_at hl 1 rfl) ?_
      refine lv_iconst (v := 0) hx hb dX7_shop_91 (by decide) ?_
      refine z_puti C0 hZ h1 hk0 fRX7_40 rfl tyX7_ok nmX7 rfl rfl rfl dX7_shop_92 (fun σ_14 H locs h1 hZ => ?_)
      refine lv_aload_n hx hb dX7_shop_95 rfl (lv_at hl 1 rfl) ?_
      refine lv_iconst (v := 0) hx hb dX7_shop_96 (by decide) ?_
      refine z_puti C0 hZ h1 hk0 fRX7_66 rfl tyX7_ok nmX7 rfl rfl rfl dX7_shop_97 (fun σ_15 H locs h1 hZ => ?_)
      refine lv_aload_n hx hb dX7_shop_100 rfl (lv_at hl 1 rfl) ?_
      refine lv_iconst (v := 0) hx hb dX7_shop_101 (by decide) ?_
      refine z_puti C0 hZ h1 hk0 fRX7_56 rfl tyX7_ok nmX7 rfl rfl rfl dX7_shop_102 (fun σ_16 H locs h1 hZ => ?_)
      refine lv_iconst (v := 0) hx hb dX7_shop_105 (by decide) ?_
      rw [hQ]; exact z_xiret C0 hr hlk hZ h1 ⟨Nat.le_of_ble_eq_true rfl, Nat.le_of_ble_eq_true rfl⟩ dX7_shop_106
    refine lv_aload_n hx hb dX7_shop_38 rfl (lv_at hl 1 rfl) ?_
    refine lv_aload_n hx hb dX7_shop_39 rfl (lv_at hl 1 rfl) ?_
    refine z_getr C0 hZ hk0 fRX7_26 rfl dX7_shop_40 ?_
    refine z_geti C0 hZ (zkt7_3 hk0) fRX7_90 rfl dX7_shop_43 ?_
    refine z_puti C0 hZ h1 hk0 fRX7_13 rfl tyX7_ok nmX7 rfl rfl rfl dX7_shop_46 (fun σ_17 H locs h1 hZ => ?_)
    refine lv_aload_n hx hb dX7_shop_49 rfl (lv_at hl 1 rfl) ?_
    refine z_getr C0 hZ hk0 fRX7_33 rfl dX7_shop_50 ?_
    refine lv_iconst (v := 0) hx hb dX7_shop_53 (by decide) ?_
    refine z_cVv (As := [.int 0]) (rest := []) C0 hZ h1 (fun _ hf => kX6_refuse l (zkt7_4 hk0) hf) mRX7_93 vX6_refuse (zkt7_4 hk0) rfl rfl hl.1 (Nat.le_of_ble_eq_true rfl) ⟨Nat.le_of_ble_eq_true rfl, Nat.le_of_ble_eq_true rfl⟩ dX7_shop_54 ⟨Nat.le_of_ble_eq_true rfl, Nat.le_of_ble_eq_true rfl⟩ (fun _ σ_18 H locs h1 hZ => ?_)
    refine lv_iload_n hx hb dX7_shop_57 rfl (lv_at hl 0 rfl) ?_
    rw [hQ]; exact z_xiret C0 hr hlk hZ h1 ⟨Nat.le_of_ble_eq_true rfl, Nat.le_of_ble_eq_true rfl⟩ dX7_shop_58
  exact J12  _ _ _ _  hZ (lv_sub hl [] rfl) h1
noncomputable def FX7_fault (k0 : Nat) (σ : zS) : Option (Int32 × zS) := some ((σ k0 1), σ)
set_option maxHeartbeats 4000000 in
set_option maxRecDepth 100000 in
theorem kX7_fault (l : Launch) {V : zV} {σ : zS} {t0 : Int32 × zS} {k0 : Nat} (hk0 : kd 0 k0 = 7) (h1 : FX7_fault k0 σ = some t0) : zMi l yX7_fault cX7_fault 1 (some .int) 0 0 0 V σ t0 [.ref (zad V k0)] := by
  refine zMi_of (by decide) (Nat.le_of_ble_eq_true rfl) ?_
  intro p e s m below meth c A C0 hr hlk hZ ls hl
  generalize ([.ref (zad V k0)] : List Value).toArray = args at C0 ⊢
  obtain ⟨Q, hQ⟩ : ∃ Q, Q = MQ below (zQi 0 V t0 A) args s 0 0 A := ⟨_, rfl⟩
  rw [← hQ]
  have hx := C0.1
  have hb := C0.2.1
  have hl : lv_has ls 1 [(0, .ref (zad V k0))] := hl
  unfold FX7_fault at h1
  refine lv_aload_n hx hb dX7_fault_0 rfl (lv_at hl 0 rfl) ?_
  refine z_geti C0 hZ hk0 fRX7_13 rfl dX7_fault_1 ?_
  rw [hQ]; exact z_iret C0 hr hlk hZ h1 dX7_fault_4
noncomputable def FX7_count_b229 (k0 : Nat) (x1 : Int32) (σ : zS) : Option zT3 := zbd (FX7_at ((k0 + 6) + 8) (x1 - 16) σ) (fun r_2 σ_1 => some (0, r_2, σ_1))
noncomputable def FX7_count (k0 : Nat) (x1 : Int32) (σ : zS) : Option zT3 := if x1 = 0 then zgd (kd 0 (σ k0 2).toNatClampNeg == 5) (zlet (σ k0 2).toNatClampNeg (fun q_3 => some (0, (σ (q_3 + 1) 0), σ))) else if x1 = 1 then zgd (kd 0 (σ k0 2).toNatClampNeg == 5) (zlet (σ k0 2).toNatClampNeg (fun q_4 => some (0, (σ (q_4 + 1) 1), σ))) else if x1 = 2 then some (0, (σ (k0 + 6) 4), σ) else if x1 = 3 then zgd (kd 0 (σ k0 2).toNatClampNeg == 5) (zlet (σ k0 2).toNatClampNeg (fun q_5 => some (0, (σ (q_5 + 7) 0), σ))) else if x1 = 4 then zgd (kd 0 (σ k0 2).toNatClampNeg == 5) (zlet (σ k0 2).toNatClampNeg (fun q_6 => some (0, (σ (q_6 + 14) 0), σ))) else if x1 = 5 then zgd (kd 0 (σ k0 2).toNatClampNeg == 5) (zlet (σ k0 2).toNatClampNeg (fun q_7 => some (0, (σ q_7 3), σ))) else if x1 = 6 then zgd (kd 0 (σ k0 2).toNatClampNeg == 5) (zlet (σ k0 2).toNatClampNeg (fun q_8 => some (0, (σ q_8 4), σ))) else if x1 = 7 then some (0, (σ (k0 + 6) 3), σ) else if x1 = 8 then some (0, (σ (k0 + 6) 0), σ) else if x1 = 9 then some (0, (σ (k0 + 6) 1), σ) else if x1 = 10 then some (0, (σ (k0 + 6) 2), σ) else if x1 = 11 then some (0, (σ (k0 + 6) 5), σ) else if x1 = 12 then some (0, (σ (k0 + 6) 8), σ) else if x1 = 13 then some (0, (σ (k0 + 6) 10), σ) else if x1 = 14 then some (0, (σ (k0 + 6) 13), σ) else if x1 = 15 then some (0, (σ k0 0), σ) else if x1 = 16 then FX7_count_b229 k0 x1 σ else if x1 = 17 then FX7_count_b229 k0 x1 σ else if x1 = 18 then FX7_count_b229 k0 x1 σ else some (1, 0, σ)
set_option maxHeartbeats 4000000 in
set_option maxRecDepth 100000 in
theorem kX7_count (l : Launch) (hfl : l.stackTraces = false) {V : zV} {σ : zS} {t0 : zT3} {k0 : Nat} {x1 : Int32} (hk0 : kd 0 k0 = 7) (h1 : FX7_count k0 x1 σ = some t0) : zXi l yX7_count cX7_count 2 (some .int) 6 90 1 6 0 V σ t0 [.ref (zad V k0), .int x1] := by
  refine zXi_of (by decide) (Nat.le_of_ble_eq_true rfl) ?_
  intro p e s m below meth c A C0 hr hlk hnt hZ ls hl
  generalize ([.ref (zad V k0), .int x1] : List Value).toArray = args at C0 ⊢
  obtain ⟨Q, hQ⟩ : ∃ Q, Q = vx_MQ below (zxQ 0 V t0 A) (zxX 0 V t0 A) args s 1 6 A := ⟨_, rfl⟩
  rw [← hQ]
  have hx := C0.1
  have hb := C0.2.1
  have hl : lv_has ls 2 [(0, .ref (zad V k0)), (1, .int x1)] := hl
  unfold FX7_count at h1
  have J229 : ∀  (σ : zS) (H : Heap) (locs : List Loc) (ls : Array Slot), zZ 0 V A σ s H locs → lv_has ls 2 [(0, .ref (zad V k0)), (1, .int x1)] → FX7_count_b229 k0 x1 σ = some t0 → W p l e { frames := 6, cells := 1, slots := 6, locals := 90 } s m args below meth c H locs 0 0 Q (F0 m 229 ls []) := by
    intro  σ H locs ls  hZ hl h1
    unfold FX7_count_b229 at h1
    refine lv_aload_n hx hb dX7_count_229 rfl (lv_at hl 0 rfl) ?_
    refine z_getr C0 hZ hk0 fRX7_33 rfl dX7_count_230 ?_
    refine z_getr C0 hZ (zkt7_4 hk0) fRX7_164 rfl dX7_count_233 ?_
    refine lv_iload_n hx hb dX7_count_236 rfl (lv_at hl 1 rfl) ?_
    refine lv_bipush (v := 16) hx hb dX7_count_237 (by decide) ?_
    refine lv_isub hx hb dX7_count_239 ?_
    refine z_cSi (As := [.ref (zad V ((k0 + 6) + 8)), .int (x1 - 16)]) (rest := []) C0 hZ h1 (fun _ hf => kX7_at l (zkt6_16 (zkt7_4 hk0)) hf) mRX7_167 sX7_at rfl rfl hl.1 (Nat.le_of_ble_eq_true rfl) ⟨Nat.le_of_ble_eq_true rfl, Nat.le_of_ble_eq_true rfl⟩ dX7_count_240 ⟨Nat.le_of_ble_eq_true rfl, Nat.le_of_ble_eq_true rfl⟩ (fun r_2 σ_1 H locs h1 hZ => ?_)
    rw [hQ]; exact z_xiret C0 hr hlk hZ h1 ⟨Nat.le_of_ble_eq_true rfl, Nat.le_of_ble_eq_true rfl⟩ dX7_count_243
  refine lv_iload_n hx hb dX7_count_0 rfl (lv_at hl 1 rfl) ?_
  refine z_case h1 (fun hv h1 => ?_) (fun e1_0 h1 => ?_)
  · refine lv_tableIn (tgt := 92) hx hb dX7_count_1 (by rw [hv]; decide) (by rw [hv]; decide) (by rw [hv]; rfl) (by decide) ?_
    refine lv_aload_n hx hb dX7_count_92 rfl (lv_at hl 0 rfl) ?_
    refine z_getm C0 hZ h1 hk0 fRX7_19 rfl dX7_count_93 (fun q_3 hq_3 h1 => ?_)
    refine z_getr C0 hZ hq_3 fRX7_103 rfl dX7_count_96 ?_
    refine z_geti C0 hZ (zkt5_0 hq_3) fRX7_107 rfl dX7_count_99 ?_
    rw [hQ]; exact z_xiret C0 hr hlk hZ h1 ⟨Nat.le_of_ble_eq_true rfl, Nat.le_of_ble_eq_true rfl⟩ dX7_count_102
  refine z_case h1 (fun hv h1 => ?_) (fun e1_1 h1 => ?_)
  · refine lv_tableIn (tgt := 103) hx hb dX7_count_1 (by rw [hv]; decide) (by rw [hv]; decide) (by rw [hv]; rfl) (by decide) ?_
    refine lv_aload_n hx hb dX7_count_103 rfl (lv_at hl 0 rfl) ?_
    refine z_getm C0 hZ h1 hk0 fRX7_19 rfl dX7_count_104 (fun q_4 hq_4 h1 => ?_)
    refine z_getr C0 hZ hq_4 fRX7_103 rfl dX7_count_107 ?_
    refine z_geti C0 hZ (zkt5_0 hq_4) fRX7_112 rfl dX7_count_110 ?_
    rw [hQ]; exact z_xiret C0 hr hlk hZ h1 ⟨Nat.le_of_ble_eq_true rfl, Nat.le_of_ble_eq_true rfl⟩ dX7_count_113
  refine z_case h1 (fun hv h1 => ?_) (fun e1_2 h1 => ?_)
  · refine lv_tableIn (tgt := 114) hx hb dX7_count_1 (by rw [hv]; decide) (by rw [hv]; decide) (by rw [hv]; rfl) (by decide) ?_
    refine lv_aload_n hx hb dX7_count_114 rfl (lv_at hl 0 rfl) ?_
    refine z_getr C0 hZ hk0 fRX7_33 rfl dX7_count_115 ?_
    refine z_geti C0 hZ (zkt7_4 hk0) fRX7_115 rfl dX7_count_118 ?_
    rw [hQ]; exact z_xiret C0 hr hlk hZ h1 ⟨Nat.le_of_ble_eq_true rfl, Nat.le_of_ble_eq_true rfl⟩ dX7_count_121
  refine z_case h1 (fun hv h1 => ?_) (fun e1_3 h1 => ?_)
  · refine lv_tableIn (tgt := 122) hx hb dX7_count_1 (by rw [hv]; decide) (by rw [hv]; decide) (by rw [hv]; rfl) (by decide) ?_
    refine lv_aload_n hx hb dX7_count_122 rfl (lv_at hl 0 rfl) ?_
    refine z_getm C0 hZ h1 hk0 fRX7_19 rfl dX7_count_123 (fun q_5 hq_5 h1 => ?_)
    refine z_getr C0 hZ hq_5 fRX7_118 rfl dX7_count_126 ?_
    refine z_geti C0 hZ (zkt5_1 hq_5) fRX7_122 rfl dX7_count_129 ?_
    rw [hQ]; exact z_xiret C0 hr hlk hZ h1 ⟨Nat.le_of_ble_eq_true rfl, Nat.le_of_ble_eq_true rfl⟩ dX7_count_132
  refine z_case h1 (fun hv h1 => ?_) (fun e1_4 h1 => ?_)
  · refine lv_tableIn (tgt := 133) hx hb dX7_count_1 (by rw [hv]; decide) (by rw [hv]; decide) (by rw [hv]; rfl) (by decide) ?_
    refine lv_aload_n hx hb dX7_count_133 rfl (lv_at hl 0 rfl) ?_
    refine z_getm C0 hZ h1 hk0 fRX7_19 rfl dX7_count_134 (fun q_6 hq_6 h1 => ?_)
    refine z_getr C0 hZ hq_6 fRX7_127 rfl dX7_count_137 ?_
    refine z_geti C0 hZ (zkt5_2 hq_6) fRX7_131 rfl dX7_count_140 ?_
    rw [hQ]; exact z_xiret C0 hr hlk hZ h1 ⟨Nat.le_of_ble_eq_true rfl, Nat.le_of_ble_eq_true rfl⟩ dX7_count_143
  refine z_case h1 (fun hv h1 => ?_) (fun e1_5 h1 => ?_)
  · refine lv_tableIn (tgt := 144) hx hb dX7_count_1 (by rw [hv]; decide) (by rw [hv]; decide) (by rw [hv]; rfl) (by decide) ?_
    refine lv_aload_n hx hb dX7_count_144 rfl (lv_at hl 0 rfl) ?_
    refine z_getm C0 hZ h1 hk0 fRX7_19 rfl dX7_count_145 (fun q_7 hq_7 h1 => ?_)
    refine z_geti C0 hZ hq_7 fRX7_134 rfl dX7_count_148 ?_
    rw [hQ]; exact z_xiret C0 hr hlk hZ h1 ⟨Nat.le_of_ble_eq_true rfl, Nat.le_of_ble_eq_true rfl⟩ dX7_count_151
  refine z_case h1 (fun hv h1 => ?_) (fun e1_6 h1 => ?_)
  · refine lv_tableIn (tgt := 152) hx hb dX7_count_1 (by rw [hv]; decide) (by rw [hv]; decide) (by rw [hv]; rfl) (by decide) ?_
    refine lv_aload_n hx hb dX7_count_152 rfl (lv_at hl 0 rfl) ?_
    refine z_getm C0 hZ h1 hk0 fRX7_19 rfl dX7_count_153 (fun q_8 hq_8 h1 => ?_)
    refine z_geti C0 hZ hq_8 fRX7_137 rfl dX7_count_156 ?_
    rw [hQ]; exact z_xiret C0 hr hlk hZ h1 ⟨Nat.le_of_ble_eq_true rfl, Nat.le_of_ble_eq_true rfl⟩ dX7_count_159
  refine z_case h1 (fun hv h1 => ?_) (fun e1_7 h1 => ?_)
  · refine lv_tableIn (tgt := 160) hx hb dX7_count_1 (by rw [hv]; decide) (by rw [hv]; decide) (by rw [hv]; rfl) (by decide) ?_
    refine lv_aload_n hx hb dX7_count_160 rfl (lv_at hl 0 rfl) ?_
    refine z_getr C0 hZ hk0 fRX7_33 rfl dX7_count_161 ?_
    refine z_geti C0 hZ (zkt7_4 hk0) fRX7_140 rfl dX7_count_164 ?_
    rw [hQ]; exact z_xiret C0 hr hlk hZ h1 ⟨Nat.le_of_ble_eq_true rfl, Nat.le_of_ble_eq_true rfl⟩ dX7_count_167
  refine z_case h1 (fun hv h1 => ?_) (fun e1_8 h1 => ?_)
  · refine lv_tableIn (tgt := 168) hx hb dX7_count_1 (by rw [hv]; decide) (by rw [hv]; decide) (by rw [hv]; rfl) (by decide) ?_
    refine lv_aload_n hx hb dX7_count_168 rfl (lv_at hl 0 rfl) ?_
    refine z_getr C0 hZ hk0 fRX7_33 rfl dX7_count_169 ?_
    refine z_geti C0 hZ (zkt7_4 hk0) fRX7_143 rfl dX7_count_172 ?_
    rw [hQ]; exact z_xiret C0 hr hlk hZ h1 ⟨Nat.le_of_ble_eq_true rfl, Nat.le_of_ble_eq_true rfl⟩ dX7_count_175
  refine z_case h1 (fun hv h1 => ?_) (fun e1_9 h1 => ?_)
  · refine lv_tableIn (tgt := 176) hx hb dX7_count_1 (by rw [hv]; decide) (by rw [hv]; decide) (by rw [hv]; rfl) (by decide) ?_
    refine lv_aload_n hx hb dX7_count_176 rfl (lv_at hl 0 rfl) ?_
    refine z_getr C0 hZ hk0 fRX7_33 rfl dX7_count_177 ?_
    refine z_geti C0 hZ (zkt7_4 hk0) fRX7_146 rfl dX7_count_180 ?_
    rw [hQ]; exact z_xiret C0 hr hlk hZ h1 ⟨Nat.le_of_ble_eq_true rfl, Nat.le_of_ble_eq_true rfl⟩ dX7_count_183
  refine z_case h1 (fun hv h1 => ?_) (fun e1_10 h1 => ?_)
  · refine lv_tableIn (tgt := 184) hx hb dX7_count_1 (by rw [hv]; decide) (by rw [hv]; decide) (by rw [hv]; rfl) (by decide) ?_
    refine lv_aload_n hx hb dX7_count_184 rfl (lv_at hl 0 rfl) ?_
    refine z_getr C0 hZ hk0 fRX7_33 rfl dX7_count_185 ?_
    refine z_geti C0 hZ (zkt7_4 hk0) fRX7_149 rfl dX7_count_188 ?_
    rw [hQ]; exact z_xiret C0 hr hlk hZ h1 ⟨Nat.le_of_ble_eq_true rfl, Nat.le_of_ble_eq_true rfl⟩ dX7_count_191
  refine z_case h1 (fun hv h1 => ?_) (fun e1_11 h1 => ?_)
  · refine lv_tableIn (tgt := 192) hx hb dX7_count_1 (by rw [hv]; decide) (by rw [hv]; decide) (by rw [hv]; rfl) (by decide) ?_
    refine lv_aload_n hx hb dX7_count_192 rfl (lv_at hl 0 rfl) ?_
    refine z_getr C0 hZ hk0 fRX7_33 rfl dX7_count_193 ?_
    refine z_geti C0 hZ (zkt7_4 hk0) fRX7_152 rfl dX7_count_196 ?_
    rw [hQ]; exact z_xiret C0 hr hlk hZ h1 ⟨Nat.le_of_ble_eq_true rfl, Nat.le_of_ble_eq_true rfl⟩ dX7_count_199
  refine z_case h1 (fun hv h1 => ?_) (fun e1_12 h1 => ?_)
  · refine lv_tableIn (tgt := 200) hx hb dX7_count_1 (by rw [hv]; decide) (by rw [hv]; decide) (by rw [hv]; rfl) (by decide) ?_
    refine lv_aload_n hx hb dX7_count_200 rfl (lv_at hl 0 rfl) ?_
    refine z_getr C0 hZ hk0 fRX7_33 rfl dX7_count_201 ?_
    refine z_geti C0 hZ (zkt7_4 hk0) fRX7_155 rfl dX7_count_204 ?_
    rw [hQ]; exact z_xiret C0 hr hlk hZ h1 ⟨Nat.le_of_ble_eq_true rfl, Nat.le_of_ble_eq_true rfl⟩ dX7_count_207
  refine z_case h1 (fun hv h1 => ?_) (fun e1_13 h1 => ?_)
  · refine lv_tableIn (tgt := 208) hx hb dX7_count_1 (by rw [hv]; decide) (by rw [hv]; decide) (by rw [hv]; rfl) (by decide) ?_
    refine lv_aload_n hx hb dX7_count_208 rfl (lv_at hl 0 rfl) ?_
    refine z_getr C0 hZ hk0 fRX7_33 rfl dX7_count_209 ?_
    refine z_geti C0 hZ (zkt7_4 hk0) fRX7_158 rfl dX7_count_212 ?_
    rw [hQ]; exact z_xiret C0 hr hlk hZ h1 ⟨Nat.le_of_ble_eq_true rfl, Nat.le_of_ble_eq_true rfl⟩ dX7_count_215
  refine z_case h1 (fun hv h1 => ?_) (fun e1_14 h1 => ?_)
  · refine lv_tableIn (tgt := 216) hx hb dX7_count_1 (by rw [hv]; decide) (by rw [hv]; decide) (by rw [hv]; rfl) (by decide) ?_
    refine lv_aload_n hx hb dX7_count_216 rfl (lv_at hl 0 rfl) ?_
    refine z_getr C0 hZ hk0 fRX7_33 rfl dX7_count_217 ?_
    refine z_geti C0 hZ (zkt7_4 hk0) fRX7_161 rfl dX7_count_220 ?_
    rw [hQ]; exact z_xiret C0 hr hlk hZ h1 ⟨Nat.le_of_ble_eq_true rfl, Nat.le_of_ble_eq_true rfl⟩ dX7_count_223
  refine z_case h1 (fun hv h1 => ?_) (fun e1_15 h1 => ?_)
  · refine lv_tableIn (tgt := 224) hx hb dX7_count_1 (by rw [hv]; decide) (by rw [hv]; decide) (by rw [hv]; rfl) (by decide) ?_
    refine lv_aload_n hx hb dX7_count_224 rfl (lv_at hl 0 rfl) ?_
    refine z_geti C0 hZ hk0 fRX7_7 rfl dX7_count_225 ?_
    rw [hQ]; exact z_xiret C0 hr hlk hZ h1 ⟨Nat.le_of_ble_eq_true rfl, Nat.le_of_ble_eq_true rfl⟩ dX7_count_228
  refine z_case h1 (fun hv h1 => ?_) (fun e1_16 h1 => ?_)
  · refine lv_tableIn (tgt := 229) hx hb dX7_count_1 (by rw [hv]; decide) (by rw [hv]; decide) (by rw [hv]; rfl) (by decide) ?_
    exact J229  _ _ _ _  hZ (lv_sub hl [0, 1] rfl) h1
  refine z_case h1 (fun hv h1 => ?_) (fun e1_17 h1 => ?_)
  · refine lv_tableIn (tgt := 229) hx hb dX7_count_1 (by rw [hv]; decide) (by rw [hv]; decide) (by rw [hv]; rfl) (by decide) ?_
    exact J229  _ _ _ _  hZ (lv_sub hl [0, 1] rfl) h1
  refine z_case h1 (fun hv h1 => ?_) (fun e1_18 h1 => ?_)
  · refine lv_tableIn (tgt := 229) hx hb dX7_count_1 (by rw [hv]; decide) (by rw [hv]; decide) (by rw [hv]; rfl) (by decide) ?_
    exact J229  _ _ _ _  hZ (lv_sub hl [0, 1] rfl) h1
  refine lv_tableOut (tgt := 244) hx hb dX7_count_1 (z_tout [0, 1, 2, 3, 4, 5, 6, 7, 8, 9, 10, 11, 12, 13, 14, 15, 16, 17, 18] (by decide) (by decide) (List.forall_mem_cons.mpr ⟨e1_0, List.forall_mem_cons.mpr ⟨e1_1, List.forall_mem_cons.mpr ⟨e1_2, List.forall_mem_cons.mpr ⟨e1_3, List.forall_mem_cons.mpr ⟨e1_4, List.forall_mem_cons.mpr ⟨e1_5, List.forall_mem_cons.mpr ⟨e1_6, List.forall_mem_cons.mpr ⟨e1_7, List.forall_mem_cons.mpr ⟨e1_8, List.forall_mem_cons.mpr ⟨e1_9, List.forall_mem_cons.mpr ⟨e1_10, List.forall_mem_cons.mpr ⟨e1_11, List.forall_mem_cons.mpr ⟨e1_12, List.forall_mem_cons.mpr ⟨e1_13, List.forall_mem_cons.mpr ⟨e1_14, List.forall_mem_cons.mpr ⟨e1_15, List.forall_mem_cons.mpr ⟨e1_16, List.forall_mem_cons.mpr ⟨e1_17, List.forall_mem_cons.mpr ⟨e1_18, fun _ h => absurd h List.not_mem_nil⟩⟩⟩⟩⟩⟩⟩⟩⟩⟩⟩⟩⟩⟩⟩⟩⟩⟩⟩)) (by decide) ?_
  rw [hQ]; exact z_throw (n := 0) C0 hfl hnt hl.1 hlk hZ h1 xxRX7_171 dX7_count_244 dX7_count_247 dX7_count_248 dX7_count_251 ⟨Nat.le_of_ble_eq_true rfl, Nat.le_of_ble_eq_true rfl, Nat.le_of_ble_eq_true rfl, Nat.le_of_ble_eq_true rfl⟩ ⟨Nat.le_of_ble_eq_true rfl, Nat.le_of_ble_eq_true rfl⟩
