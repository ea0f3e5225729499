noncomputable def FX8_layOn_b137 (G : zGr)  (σ : zS) : Option (Int32 × zS) := some (0, σ)
noncomputable def FX8_layOn_L106 (G : zGr) (k0 : Nat) (x5 : Int32) (σ : zS) : Option ((Int32 × zS) ⊕ (Int32 × zS)) := zin (ln 1 (k0 + 3)) 0 (if (σ (k0 + 3) (Int32.toNatClampNeg 0)) ≤ x5 then zinr (FX8_layOn_b137 G  σ) else zin (ln 1 (k0 + 27)) x5 (zin (ln 1 (k0 + 28)) x5 (zlet (zup σ (k0 + 28) (Int32.toNatClampNeg x5) (σ (k0 + 27) (Int32.toNatClampNeg x5))) (fun σ_1 => zlet (x5 + 1) (fun x5_2 => some (.inl (x5_2, σ_1)))))))
noncomputable def FX8_layOn_b103 (G : zGr) (k0 : Nat) (σ : zS) : Option (Int32 × zS) := zlet 0 (fun x5_3 => zlp (fun q => FX8_layOn_L106 G k0 q.1 q.2) (x5_3, σ))
noncomputable def FX8_layOn_b72 (G : zGr)  (σ : zS) : Option (Int32 × zS) := some (0, σ)
noncomputable def FX8_layOn_b66 (G : zGr) (k0 : Nat) (x1 : Int32) (x2 : Int32) (x3 : Int32) (σ : zS) : Option ((Int32 × zS) ⊕ (Int32 × zS)) := zlet (x3 + 1) (fun x3_4 => some (.inl (x3_4, σ)))
noncomputable def FX8_layOn_L12 (G : zGr) (k0 : Nat) (x1 : Int32) (x2 : Int32) (x3 : Int32) (σ : zS) : Option ((Int32 × zS) ⊕ (Int32 × zS)) := zin (ln 1 (k0 + 3)) 0 (if (σ (k0 + 3) (Int32.toNatClampNeg 0)) ≤ x3 then zinr (FX8_layOn_b72 G  σ) else zbd (FX8_isOf x2 x3 σ) (fun r_6 σ_5 => if r_6 = 0 then FX8_layOn_b66 G k0 x1 x2 x3 σ_5 else zin (ln 1 (k0 + 27)) x1 (zlet (zup σ_5 (k0 + 27) (Int32.toNatClampNeg x1) x3) (fun σ_7 => zin (ln 1 (k0 + 4)) x3 (zin (ln 1 (k0 + 22)) x1 (zlet (zup σ_7 (k0 + 22) (Int32.toNatClampNeg x1) (σ_7 (k0 + 4) (Int32.toNatClampNeg x3))) (fun σ_8 => zbd (G 0 k0 (x1 + 1) (x2 &&& (((1 : Int32) <<< (x3 &&& 31)) ^^^ (-1))) σ_8) (fun _ σ_9 => FX8_layOn_b66 G k0 x1 x2 x3 σ_9))))))))
noncomputable def FX8_layOn (G : zGr) (k0 : Nat) (x1 : Int32) (x2 : Int32) (σ : zS) : Option (Int32 × zS) := zin (ln 1 (k0 + 3)) 0 (if (σ (k0 + 3) (Int32.toNatClampNeg 0)) ≤ x1 then zlet (σ k0 62) (fun x3_11 => zlet (σ k0 61) (fun x4_12 => zbd (FX8_ask k0 0 σ) (fun _ σ_13 => if x3_11 = 0 then FX8_layOn_b103 G k0 σ_13 else if (σ_13 k0 61) = x4_12 then some (0, σ_13) else FX8_layOn_b103 G k0 σ_13))) else zlet 0 (fun x3_15 => zlp (fun q => FX8_layOn_L12 G k0 x1 x2 q.1 q.2) (x3_15, σ)))
set_option maxHeartbeats 4000000 in
set_option maxRecDepth 100000 in
theorem kX8_layOn (l : Launch) {nd : Nat} {G : zGr} (ih : zPGZ l nd G) {V : zV} {σ : zS} {t0 : Int32 × zS} {k0 : Nat} {x1 : Int32} {x2 : Int32} (hk0 : kd 1 k0 = 8) (h1 : FX8_layOn G k0 x1 x2 σ = some t0) : zMv l yX8_layOn cX8_layOn 6 (nd + 1 + 10) ((nd + 1) * 40 + 600) 1 V σ t0 [.ref (zad V k0), .int x1, .int x2] := by
  refine zMv_of (by decide) (Nat.le_of_ble_eq_true rfl) ?_
  intro p e s m below meth c A C0 hr hlk hZ ls hl
  generalize ([.ref (zad V k0), .int x1, .int x2] : List Value).toArray = args at C0 ⊢
  obtain ⟨Q, hQ⟩ : ∃ Q, Q = MQ below (zQv 1 V t0 A) args s 0 0 A := ⟨_, rfl⟩
  rw [← hQ]
  have hx := C0.1
  have hb := C0.2.1
  have hl : lv_has ls 6 [(0, .ref (zad V k0)), (1, .int x1), (2, .int x2)] := hl
  unfold FX8_layOn at h1
  have J137 : ∀  (σ : zS) (H : Heap) (locs : List Loc) (ls : Array Slot), zZ 1 V A σ s H locs → lv_has ls 6 [] → FX8_layOn_b137 G  σ = some t0 → W p l e (zrm (nd + 1 + 10) ((nd + 1) * 40 + 600)) s m args below meth c H locs 0 0 Q (F0 m 137 ls []) := by
    intro  σ H locs ls  hZ hl h1
    unfold FX8_layOn_b137 at h1
    rw [hQ]; exact z_vret C0 hr hlk hZ h1 dX8_layOn_137
  have J106 : ∀ (n : Nat) (x5 : Int32) (σ : zS) (H : Heap) (locs : List Loc) (ls : Array Slot), zZ 1 V A σ s H locs → lv_has ls 6 [(0, .ref (zad V k0)), (5, .int x5)] → zit (fun q => FX8_layOn_L106 G k0 q.1 q.2) n (x5, σ) = some t0 → W p l e (zrm (nd + 1 + 10) ((nd + 1) * 40 + 600)) s m args below meth c H locs 0 0 Q (F0 m 106 ls []) := by
    intro n
    induction n with
    | zero => intro x5 σ H locs ls  _ _ h1; cases h1
    | succ n ih106 =>
      intro x5 σ H locs ls  hZ hl h1
      obtain ⟨t1, h1, hz1⟩ := zit_1 h1
      replace h1 : FX8_layOn_L106 G k0 x5 σ = some t1 := h1
      unfold FX8_layOn_L106 at h1
      refine lv_iload hx hb dX8_layOn_106 (lv_at hl 1 rfl) ?_
      refine lv_aload_n hx hb dX8_layOn_108 rfl (lv_at hl 0 rfl) ?_
      refine z_getr C0 hZ hk0 fRX8_40 rfl dX8_layOn_109 ?_
      refine lv_iconst (v := 0) hx hb dX8_layOn_112 (by decide) ?_
      refine z_iald C0 hZ h1 (zkt8_3 hk0) dX8_layOn_113 (fun h1 => ?_)
      refine z_ic_ge (tgt := 137) C0 h1 dX8_layOn_114 (by decide) (fun h1 => ?_) (fun h1 => ?_)
      · have h1 := zout h1 hz1
        exact J137  _ _ _ _  hZ (lv_sub hl [] rfl) h1
      refine lv_aload_n hx hb dX8_layOn_117 rfl (lv_at hl 0 rfl) ?_
      refine z_getr C0 hZ hk0 fRX8_120 rfl dX8_layOn_118 ?_
      refine lv_iload hx hb dX8_layOn_121 (lv_at hl 1 rfl) ?_
      refine lv_aload_n hx hb dX8_layOn_123 rfl (lv_at hl 0 rfl) ?_
      refine z_getr C0 hZ hk0 fRX8_117 rfl dX8_layOn_124 ?_
      refine lv_iload hx hb dX8_layOn_127 (lv_at hl 1 rfl) ?_
      refine z_iald C0 hZ h1 (zkt8_63 hk0) dX8_layOn_129 (fun h1 => ?_)
      refine z_iast C0 hZ h1 (zkt8_64 hk0) dX8_layOn_130 (fun σ_1 H locs h1 hZ => ?_)
      refine z_iinc (v := 1) C0 h1 hl (fun x5_2 => [(5, .int x5_2), (0, .ref (zad V k0))]) dX8_layOn_131 (k := 1) rfl (by decide) (by decide) (fun _ => rfl) (fun x5_2 ls h1 hl => ?_)
      refine lv_goto (tgt := 106) hx hb dX8_layOn_134 (by decide) ?_
      exact ih106 x5_2 _ _ _ _  hZ (lv_sub hl [1, 0] rfl) (zback h1 hz1)
  have J103 : ∀  (σ : zS) (H : Heap) (locs : List Loc) (ls : Array Slot), zZ 1 V A σ s H locs → lv_has ls 6 [(0, .ref (zad V k0))] → FX8_layOn_b103 G k0 σ = some t0 → W p l e (zrm (nd + 1 + 10) ((nd + 1) * 40 + 600)) s m args below meth c H locs 0 0 Q (F0 m 103 ls []) := by
    intro  σ H locs ls  hZ hl h1
    unfold FX8_layOn_b103 at h1
    refine lv_iconst (v := 0) hx hb dX8_layOn_103 (by decide) ?_
    refine z_istore C0 h1 hl (fun x5_3 => [(5, .int x5_3), (0, .ref (zad V k0))]) dX8_layOn_104 (by decide) (fun _ => rfl) (fun x5_3 ls h1 hl => ?_)
    obtain ⟨n, h1⟩ := zlp_iff.mp h1
    exact J106 n x5_3 _ _ _ _  hZ (lv_sub hl [1, 0] rfl) h1
  have J72 : ∀  (σ : zS) (H : Heap) (locs : List Loc) (ls : Array Slot), zZ 1 V A σ s H locs → lv_has ls 6 [] → FX8_layOn_b72 G  σ = some t0 → W p l e (zrm (nd + 1 + 10) ((nd + 1) * 40 + 600)) s m args below meth c H locs 0 0 Q (F0 m 72 ls []) := by
    intro  σ H locs ls  hZ hl h1
    unfold FX8_layOn_b72 at h1
    rw [hQ]; exact z_vret C0 hr hlk hZ h1 dX8_layOn_72
  have J12 : ∀ (n : Nat) (x3 : Int32) (σ : zS) (H : Heap) (locs : List Loc) (ls : Array Slot), zZ 1 V A σ s H locs → lv_has ls 6 [(0, .ref (zad V k0)), (1, .int x1), (2, .int x2), (3, .int x3)] → zit (fun q => FX8_layOn_L12 G k0 x1 x2 q.1 q.2) n (x3, σ) = some t0 → W p l e (zrm (nd + 1 + 10) ((nd + 1) * 40 + 600)) s m args below meth c H locs 0 0 Q (F0 m 12 ls []) := by
    intro n
    induction n with
    | zero => intro x3 σ H locs ls  _ _ h1; cases h1
    | succ n ih12 =>
      intro x3 σ H locs ls  hZ hl h1
      obtain ⟨t1, h1, hz1⟩ := zit_1 h1
      have J66 : ∀ (x3 : Int32) (σ : zS) (H : Heap) (locs : List Loc) (ls : Array Slot), zZ 1 V A σ s H locs → lv_has ls 6 [(0, .ref (zad V k0)), (1, .int x1), (2, .int x2), (3, .int x3)] → FX8_layOn_b66 G k0 x1 x2 x3 σ = some t1 → W p l e (zrm (nd + 1 + 10) ((nd + 1) * 40 + 600)) s m args below meth c H locs 0 0 Q (F0 m 66 ls []) := by
        intro x3 σ H locs ls  hZ hl h1
        unfold FX8_layOn_b66 at h1
        refine z_iinc (v := 1) C0 h1 hl (fun x3_4 => [(3, .int x3_4), (0, .ref (zad V k0)), (1, .int x1), (2, .int x2)]) dX8_layOn_66 (k := 3) rfl (by decide) (by decide) (fun _ => rfl) (fun x3_4 ls h1 hl => ?_)
        refine lv_goto (tgt := 12) hx hb dX8_layOn_69 (by decide) ?_
        exact ih12 x3_4 _ _ _ _  hZ (lv_sub hl [1, 2, 3, 0] rfl) (zback h1 hz1)
      replace h1 : FX8_layOn_L12 G k0 x1 x2 x3 σ = some t1 := h1
      unfold FX8_layOn_L12 at h1
      refine lv_iload_n hx hb dX8_layOn_12 rfl (lv_at hl 3 rfl) ?_
      refine lv_aload_n hx hb dX8_layOn_13 rfl (lv_at hl 0 rfl) ?_
      refine z_getr C0 hZ hk0 fRX8_40 rfl dX8_layOn_14 ?_
      refine lv_iconst (v := 0) hx hb dX8_layOn_17 (by decide) ?_
      refine z_iald C0 hZ h1 (zkt8_3 hk0) dX8_layOn_18 (fun h1 => ?_)
      refine z_ic_ge (tgt := 72) C0 h1 dX8_layOn_19 (by decide) (fun h1 => ?_) (fun h1 => ?_)
      · have h1 := zout h1 hz1
        exact J72  _ _ _ _  hZ (lv_sub hl [] rfl) h1
      refine lv_iload_n hx hb dX8_layOn_22 rfl (lv_at hl 2 rfl) ?_
      refine lv_iload_n hx hb dX8_layOn_23 rfl (lv_at hl 3 rfl) ?_
      refine z_cSi (As := [.int x2, .int x3]) (rest := []) C0 hZ h1 (fun _ hf => kX8_isOf l  hf) mRX8_383 sX8_isOf rfl rfl hl.1 (Nat.le_of_ble_eq_true rfl) (zRo (by decide) (by decide)) dX8_layOn_24 ⟨Nat.le_of_ble_eq_true rfl, Nat.le_of_ble_eq_true rfl⟩ (fun r_6 σ_5 H locs h1 hZ => ?_)
      refine z_if_ne (tgt := 33) C0 h1 dX8_layOn_27 (by decide) (fun h1 => ?_) (fun h1 => ?_)
      · refine lv_aload_n hx hb dX8_layOn_33 rfl (lv_at hl 0 rfl) ?_
        refine z_getr C0 hZ hk0 fRX8_117 rfl dX8_layOn_34 ?_
        refine lv_iload_n hx hb dX8_layOn_37 rfl (lv_at hl 1 rfl) ?_
        refine lv_iload_n hx hb dX8_layOn_38 rfl (lv_at hl 3 rfl) ?_
        refine z_iast C0 hZ h1 (zkt8_63 hk0) dX8_layOn_39 (fun σ_7 H locs h1 hZ => ?_)
        refine lv_aload_n hx hb dX8_layOn_40 rfl (lv_at hl 0 rfl) ?_
        refine z_getr C0 hZ hk0 fRX8_102 rfl dX8_layOn_41 ?_
        refine lv_iload_n hx hb dX8_layOn_44 rfl (lv_at hl 1 rfl) ?_
        refine lv_aload_n hx hb dX8_layOn_45 rfl (lv_at hl 0 rfl) ?_
        refine z_getr C0 hZ hk0 fRX8_44 rfl dX8_layOn_46 ?_
        refine lv_iload_n hx hb dX8_layOn_49 rfl (lv_at hl 3 rfl) ?_
        refine z_iald C0 hZ h1 (zkt8_4 hk0) dX8_layOn_50 (fun h1 => ?_)
        refine z_iast C0 hZ h1 (zkt8_41 hk0) dX8_layOn_51 (fun σ_8 H locs h1 hZ => ?_)
        refine lv_aload_n hx hb dX8_layOn_52 rfl (lv_at hl 0 rfl) ?_
        refine lv_iload_n hx hb dX8_layOn_53 rfl (lv_at hl 1 rfl) ?_
        refine lv_iconst (v := 1) hx hb dX8_layOn_54 (by decide) ?_
        refine lv_iadd hx hb dX8_layOn_55 ?_
        refine lv_iload_n hx hb dX8_layOn_56 rfl (lv_at hl 2 rfl) ?_
        refine lv_iconst (v := 1) hx hb dX8_layOn_57 (by decide) ?_
        refine lv_iload_n hx hb dX8_layOn_58 rfl (lv_at hl 3 rfl) ?_
        refine lv_ishl hx hb dX8_layOn_59 ?_
        refine lv_iconst (v := (-1)) hx hb dX8_layOn_60 (by decide) ?_
        refine lv_ixor hx hb dX8_layOn_61 ?_
        refine lv_iand hx hb dX8_layOn_62 ?_
        refine z_cVv (As := [.int (x1 + 1), .int (x2 &&& (((1 : Int32) <<< (x3 &&& 31)) ^^^ (-1)))]) (rest := []) C0 hZ h1 (fun _ hf => zGGZ_0 ih hk0 hf) mRX8_498 vX8_layOn hk0 rfl rfl hl.1 (Nat.le_of_ble_eq_true rfl) (zRs (by decide)) dX8_layOn_63 ⟨Nat.le_of_ble_eq_true rfl, Nat.le_of_ble_eq_true rfl⟩ (fun _ σ_9 H locs h1 hZ => ?_)
        exact J66 x3 _ _ _ _  hZ (lv_sub hl [0, 1, 2, 3] rfl) h1
      refine lv_goto (tgt := 66) hx hb dX8_layOn_30 (by decide) ?_
      exact J66 x3 _ _ _ _  hZ (lv_sub hl [0, 1, 2, 3] rfl) h1
  refine lv_iload_n hx hb dX8_layOn_0 rfl (lv_at hl 1 rfl) ?_
  refine lv_aload_n hx hb dX8_layOn_1 rfl (lv_at hl 0 rfl) ?_
  refine z_getr C0 hZ hk0 fRX8_40 rfl dX8_layOn_2 ?_
  refine lv_iconst (v := 0) hx hb dX8_layOn_5 (by decide) ?_
  refine z_iald C0 hZ h1 (zkt8_3 hk0) dX8_layOn_6 (fun h1 => ?_)
  refine z_ic_ge (tgt := 73) C0 h1 dX8_layOn_7 (by decide) (fun h1 => ?_) (fun h1 => ?_)
  · refine lv_aload_n hx hb dX8_layOn_73 rfl (lv_at hl 0 rfl) ?_
    refine z_geti C0 hZ hk0 fRX8_486 rfl dX8_layOn_74 ?_
    refine z_istore_n C0 h1 hl (fun x3_11 => [(3, .int x3_11), (0, .ref (zad V k0)), (1, .int x1), (2, .int x2)]) dX8_layOn_77 rfl (by decide) (fun _ => rfl) (fun x3_11 ls h1 hl => ?_)
    refine lv_aload_n hx hb dX8_layOn_78 rfl (lv_at hl 1 rfl) ?_
    refine z_geti C0 hZ hk0 fRX8_489 rfl dX8_layOn_79 ?_
    refine z_istore C0 h1 hl (fun x4_12 => [(4, .int x4_12), (3, .int x3_11), (0, .ref (zad V k0)), (1, .int x1), (2, .int x2)]) dX8_layOn_82 (by decide) (fun _ => rfl) (fun x4_12 ls h1 hl => ?_)
    refine lv_aload_n hx hb dX8_layOn_84 rfl (lv_at hl 2 rfl) ?_
    refine lv_iconst (v := 0) hx hb dX8_layOn_85 (by decide) ?_
    refine z_cVv (As := [.int 0]) (rest := []) C0 hZ h1 (fun _ hf => kX8_ask l hk0 hf) mRX8_495 vX8_ask hk0 rfl rfl hl.1 (Nat.le_of_ble_eq_true rfl) (zRo (by decide) (by decide)) dX8_layOn_86 ⟨Nat.le_of_ble_eq_true rfl, Nat.le_of_ble_eq_true rfl⟩ (fun _ σ_13 H locs h1 hZ => ?_)
    refine lv_iload_n hx hb dX8_layOn_89 rfl (lv_at hl 1 rfl) ?_
    refine z_if_eq (tgt := 103) C0 h1 dX8_layOn_90 (by decide) (fun h1 => ?_) (fun h1 => ?_)
    · exact J103  _ _ _ _  hZ (lv_sub hl [2] rfl) h1
    refine lv_aload_n hx hb dX8_layOn_93 rfl (lv_at hl 2 rfl) ?_
    refine z_geti C0 hZ hk0 fRX8_489 rfl dX8_layOn_94 ?_
    refine lv_iload hx hb dX8_layOn_97 (lv_at hl 0 rfl) ?_
    refine z_ic_ne (tgt := 103) C0 h1 dX8_layOn_99 (by decide) (fun h1 => ?_) (fun h1 => ?_)
    · exact J103  _ _ _ _  hZ (lv_sub hl [2] rfl) h1
    rw [hQ]; exact z_vret C0 hr hlk hZ h1 dX8_layOn_102
  refine lv_iconst (v := 0) hx hb dX8_layOn_10 (by decide) ?_
  refine z_istore_n C0 h1 hl (fun x3_15 => [(3, .int x3_15), (0, .ref (zad V k0)), (1, .int x1), (2, .int x2)]) dX8_layOn_11 rfl (by decide) (fun _ => rfl) (fun x3_15 ls h1 hl => ?_)
  obtain ⟨n, h1⟩ := zlp_iff.mp h1
  exact J12 n x3_15 _ _ _ _  hZ (lv_sub hl [1, 2, 3, 0] rfl) h1
