def cW8 (V : zV) (q : Nat → Nat) : va_W := [(q 0, .inr (8, [.ref (q 1), .ref (q 2), .int 0, .ref (q 3), .ref (q 4), .ref (q 5), .ref (q 6), .ref (q 7), .ref (q 8), .ref (q 9), .ref (q 10), .ref (q 11), .ref (q 12), .ref (q 13), .ref (q 14), .ref (q 15), .ref (q 16), .ref (q 17), .int 0, .int 0, .int 0, .int 0, .int 0, .int 0, .int 0, .int 0, .int 0, .int (-1), .ref (q 18), .int 0, .int 0, .int 0, .int 1, .int 0, .int 0, .int 0, .int 0, .int 0, .ref (q 19), .ref (q 20), .ref (q 21), .ref (q 22), .ref (q 23), .ref (q 24), .ref (q 25), .ref (q 26), .int 0, .int 0, .int 0, .int 0, .int 0, .int 0, .int 0, .int 0, .int 0, .int 0, .int 0, .int 0, .int 0, .int 0, .int 0, .int 0, .int 0, .ref (q 27), .ref (q 28), .int 0, .ref (q 29), .ref (q 30), .ref (q 31), .ref (q 32), .ref (q 33), .int 0, .int 0, .int 0, .int 0, .int 0, .ref (q 34), .ref (q 35), .ref (q 36), .ref (q 37), .ref (q 38), .ref (q 39), .ref (q 40)])), (q 1, .inl (V.2.1.2, (4, .inr (.inr (.inr (.inr (va_up (va_up (va_up (va_up (fun _ => none) 0 (some (V.2.2.2.1 7))) 1 (some (V.2.2.2.1 8))) 2 (some (V.2.2.2.1 9))) 3 (some (V.2.2.2.1 10))))))))), (q 2, .inl (V.2.1.2, (7, .inr (.inr (.inr (.inr (va_up (va_up (va_up (va_up (va_up (va_up (va_up (fun _ => none) 0 (some (V.2.2.2.1 14))) 1 (some (V.2.2.2.1 15))) 2 (some (V.2.2.2.1 16))) 3 (some (V.2.2.2.1 17))) 4 (some (V.2.2.2.1 18))) 5 (some (V.2.2.2.1 19))) 6 (some (V.2.2.2.1 20))))))))), (q 3, .inl (V.2.1.1, (18, .inl (upd (upd (upd (upd (upd (upd (upd (upd (upd (upd (upd (upd (upd (upd (upd (upd (upd (upd (fun _ => 0) 0 0) 1 0) 2 0) 3 0) 4 0) 5 3) 6 400) 7 1) 8 0) 9 0) 10 0) 11 0) 12 0) 13 0) 14 3) 15 400) 16 1) 17 0)))), (q 4, .inl (V.2.1.1, (20, .inl (fun _ => 0)))), (q 5, .inl (V.2.1.1, (20, .inl (fun _ => 0)))), (q 6, .inl (V.2.1.1, (20, .inl (fun _ => 0)))), (q 7, .inl (V.2.1.1, (20, .inl (fun _ => 0)))), (q 8, .inl (V.2.1.1, (16, .inl (fun _ => 0)))), (q 9, .inl (V.2.1.1, (16, .inl (fun _ => 0)))), (q 10, .inl (V.2.1.1, (16, .inl (fun _ => 0)))), (q 11, .inl (V.2.1.1, (16, .inl (fun _ => 0)))), (q 12, .inl (V.2.1.1, (16, .inl (fun _ => 0)))), (q 13, .inl (V.2.1.1, (192, .inl (fun _ => 0)))), (q 14, .inl (V.2.1.1, (8, .inl (fun _ => 0)))), (q 15, .inl (V.2.1.1, (1400, .inl (fun _ => 0)))), (q 16, .inl (V.2.1.1, (3, .inl (fun _ => 0)))), (q 17, .inl (V.2.1.1, (700, .inl (fun _ => 0)))), (q 18, .inl (V.2.1.1, (100, .inl (fun _ => 0)))), (q 19, .inl (V.2.1.1, (1040, .inl (fun _ => 0)))), (q 20, .inl (V.2.1.1, (7, .inl (fun _ => 0)))), (q 21, .inl (V.2.1.1, (64, .inl (fun _ => 0)))), (q 22, .inl (V.2.1.1, (10, .inl (fun _ => 0)))), (q 23, .inl (V.2.1.1, (10, .inl (fun _ => 0)))), (q 24, .inl (V.2.1.1, (8, .inl (fun _ => 0)))), (q 25, .inl (V.2.1.1, (8, .inl (fun _ => 0)))), (q 26, .inl (V.2.1.1, (8, .inl (fun _ => 0)))), (q 27, .inl (V.2.1.1, (10, .inl (fun _ => 0)))), (q 28, .inl (V.2.1.1, (10, .inl (fun _ => 0)))), (q 29, .inl (V.2.1.1, (12, .inl (fun _ => 0)))), (q 30, .inl (V.2.1.1, (12, .inl (fun _ => 0)))), (q 31, .inl (V.2.1.1, (8, .inl (fun _ => 0)))), (q 32, .inl (V.2.1.1, (8, .inl (fun _ => 0)))), (q 33, .inl (V.2.1.1, (8, .inl (fun _ => 0)))), (q 34, .inl (V.2.1.1, (26, .inl (fun _ => 0)))), (q 35, .inl (V.2.1.1, (1040, .inl (fun _ => 0)))), (q 36, .inl (V.2.1.1, (12, .inl (fun _ => 0)))), (q 37, .inl (V.2.1.1, (12, .inl (fun _ => 0)))), (q 38, .inl (V.2.1.1, (8, .inl (fun _ => 0)))), (q 39, .inl (V.2.1.1, (8, .inl (fun _ => 0)))), (q 40, .inl (V.2.1.1, (3, .inl (fun _ => 0))))]
def cD8 : List Value := [.null, .null, .int 0, .null, .null, .null, .null, .null, .null, .null, .null, .null, .null, .null, .null, .null, .null, .null, .int 0, .int 0, .int 0, .int 0, .int 0, .int 0, .int 0, .int 0, .int 0, .int 0, .null, .int 0, .int 0, .int 0, .int 0, .int 0, .int 0, .int 0, .int 0, .int 0, .null, .null, .null, .null, .null, .null, .null, .null, .int 0, .int 0, .int 0, .int 0, .int 0, .int 0, .int 0, .int 0, .int 0, .int 0, .int 0, .int 0, .int 0, .int 0, .int 0, .int 0, .int 0, .null, .null, .int 0, .null, .null, .null, .null, .null, .int 0, .int 0, .int 0, .int 0, .int 0, .null, .null, .null, .null, .null, .null, .null]
theorem tm_0 : Int32.toNatClampNeg 0 = 0 := by decide +kernel
theorem tm_1 : Int32.toNatClampNeg 1 = 1 := by decide +kernel
theorem tm_2 : Int32.toNatClampNeg 2 = 2 := by decide +kernel
theorem tm_3 : Int32.toNatClampNeg 3 = 3 := by decide +kernel
theorem tm_4 : Int32.toNatClampNeg 4 = 4 := by decide +kernel
theorem tm_5 : Int32.toNatClampNeg 5 = 5 := by decide +kernel
theorem tm_6 : Int32.toNatClampNeg 6 = 6 := by decide +kernel
theorem tm_7 : Int32.toNatClampNeg 7 = 7 := by decide +kernel
theorem tm_8 : Int32.toNatClampNeg 8 = 8 := by decide +kernel
theorem tm_9 : Int32.toNatClampNeg 9 = 9 := by decide +kernel
theorem tm_10 : Int32.toNatClampNeg 10 = 10 := by decide +kernel
theorem tm_11 : Int32.toNatClampNeg 11 = 11 := by decide +kernel
theorem tm_12 : Int32.toNatClampNeg 12 = 12 := by decide +kernel
theorem tm_13 : Int32.toNatClampNeg 13 = 13 := by decide +kernel
theorem tm_14 : Int32.toNatClampNeg 14 = 14 := by decide +kernel
theorem tm_15 : Int32.toNatClampNeg 15 = 15 := by decide +kernel
theorem tm_16 : Int32.toNatClampNeg 16 = 16 := by decide +kernel
theorem tm_17 : Int32.toNatClampNeg 17 = 17 := by decide +kernel
section ZC6
variable {p : Program} {l : Launch} {e : Env} {s : State} {m : MethodId} {args : Array Value} {below : List Frame} {meth : Method} {c : Code} {H : Heap} {locs : List Loc} {Q : State → Prop} {ls : Array Slot} {V : zV} {A : Nat → Prop} {h0 : Nat}
set_option maxHeartbeats 4000000 in
theorem kY_0 (C0 : CallFix p m c cX8_init 1 s args zT RX8) (hin : meth.name = "<init>") (hl : lv_has ls 1 [(0, .ref h0)]) (hover : va_AO "java/lang/String" s) {pre suf : List Value} {r : va_W} (hp : pre.length = 0) (hZ : zC V A s H locs ((h0, .inr (8, pre ++ (.null :: .null :: .int 0 :: .null :: .null :: .null :: .null :: suf))) :: r))
    (k : ∀ (q_1 q_7 q_16 q_36 q_38 q_40 : Nat) (H : Heap) (locs : List Loc), (pre ++ ([.ref q_1, .ref q_7, .int 0, .ref q_16, .ref q_36, .ref q_38, .ref q_40] : List Value)).length = 7 → zC V A s H locs ((h0, .inr (8, (pre ++ [.ref q_1, .ref q_7, .int 0, .ref q_16, .ref q_36, .ref q_38, .ref q_40]) ++ suf)) :: (r ++ [(q_1, .inl (V.2.1.2, (4, .inr (.inr (.inr (.inr (va_up (va_up (va_up (va_up (fun _ => none) 0 (some (V.2.2.2.1 7))) 1 (some (V.2.2.2.1 8))) 2 (some (V.2.2.2.1 9))) 3 (some (V.2.2.2.1 10))))))))), (q_7, .inl (V.2.1.2, (7, .inr (.inr (.inr (.inr (va_up (va_up (va_up (va_up (va_up (va_up (va_up (fun _ => none) 0 (some (V.2.2.2.1 14))) 1 (some (V.2.2.2.1 15))) 2 (some (V.2.2.2.1 16))) 3 (some (V.2.2.2.1 17))) 4 (some (V.2.2.2.1 18))) 5 (some (V.2.2.2.1 19))) 6 (some (V.2.2.2.1 20))))))))), (q_16, .inl (V.2.1.1, (18, .inl (upd (upd (upd (upd (upd (upd (upd (upd (upd (upd (upd (upd (upd (upd (upd (upd (upd (upd (fun _ => 0) 0 0) 1 0) 2 0) 3 0) 4 0) 5 3) 6 400) 7 1) 8 0) 9 0) 10 0) 11 0) 12 0) 13 0) 14 3) 15 400) 16 1) 17 0)))), (q_36, .inl (V.2.1.1, (20, .inl (fun _ => 0)))), (q_38, .inl (V.2.1.1, (20, .inl (fun _ => 0)))), (q_40, .inl (V.2.1.1, (20, .inl (fun _ => 0))))])) → W p l e { frames := 1, cells := 40, slots := 4924, locals := 30 } s m args below meth c H locs 6 89 Q (F0 m 197 ls [])) : W p l e { frames := 1, cells := 40, slots := 4924, locals := 30 } s m args below meth c H locs 0 0 Q (F0 m 4 ls []) := by
  have hx := C0.1
  have hb := C0.2.1
  have hp0 := hp
  refine lv_aload_n hx hb dX8_init_4 rfl (lv_at hl 0 rfl) ?_
  refine lv_iconst (v := 4) hx hb dX8_init_5 (by decide) ?_
  refine zf_newq (N := 4) C0 hZ (zmem 1391 (by decide +kernel) (by decide +kernel)) hover (by decide) (by decide) (by decide) ⟨Nat.le_of_ble_eq_true rfl, Nat.le_of_ble_eq_true rfl⟩ dX8_init_6 (fun q_1 H hZ => ?_)
  refine lv_dup hx hb dX8_init_9 rfl ?_
  refine lv_iconst (v := 0) hx hb dX8_init_10 (by decide) ?_
  refine zc_ldcS (i := 7) (tx := "buyer") C0 hZ (by decide +kernel) dX8_init_11 ?_
  refine zf_aast (j := 7) C0 hZ (by decide) (vp_in_iff.mpr (by decide)) dX8_init_13 (fun g_2 H locs eg_2 hZ => ?_)
  refine lv_dup hx hb dX8_init_14 rfl ?_
  refine lv_iconst (v := 1) hx hb dX8_init_15 (by decide) ?_
  refine zc_ldcS (i := 8) (tx := "thief") C0 hZ (by decide +kernel) dX8_init_16 ?_
  refine zf_aast (j := 8) C0 hZ (by decide) (vp_in_iff.mpr (by decide)) dX8_init_18 (fun g_3 H locs eg_3 hZ => ?_)
  refine lv_dup hx hb dX8_init_19 rfl ?_
  refine lv_iconst (v := 2) hx hb dX8_init_20 (by decide) ?_
  refine zc_ldcS (i := 9) (tx := "lapse") C0 hZ (by decide +kernel) dX8_init_21 ?_
  refine zf_aast (j := 9) C0 hZ (by decide) (vp_in_iff.mpr (by decide)) dX8_init_23 (fun g_4 H locs eg_4 hZ => ?_)
  refine lv_dup hx hb dX8_init_24 rfl ?_
  refine lv_iconst (v := 3) hx hb dX8_init_25 (by decide) ?_
  refine zc_ldcS (i := 10) (tx := "staff") C0 hZ (by decide +kernel) dX8_init_26 ?_
  refine zf_aast (j := 10) C0 hZ (by decide) (vp_in_iff.mpr (by decide)) dX8_init_28 (fun g_5 H locs eg_5 hZ => ?_)
  refine zg_put (ci := 8) (v := .ref q_1) C0 hZ hp hin fRX8_19 (zmem 1404 (by decide +kernel) (by decide +kernel)) tyX8_ok nmX8 rfl rfl rfl dX8_init_29 (fun p_0 r_6 H locs ep_0 er_6 hp hZ => ?_)
  replace hp : p_0.length = 1 := hp
  refine lv_aload_n hx hb dX8_init_32 rfl (lv_at hl 0 rfl) ?_
  refine lv_bipush (v := 7) hx hb dX8_init_33 (by decide) ?_
  refine zf_newq (N := 7) C0 hZ (zmem 1391 (by decide +kernel) (by decide +kernel)) hover (by decide) (by decide) (by decide) ⟨Nat.le_of_ble_eq_true rfl, Nat.le_of_ble_eq_true rfl⟩ dX8_init_35 (fun q_7 H hZ => ?_)
  refine lv_dup hx hb dX8_init_38 rfl ?_
  refine lv_iconst (v := 0) hx hb dX8_init_39 (by decide) ?_
  refine zc_ldcS (i := 14) (tx := "coat") C0 hZ (by decide +kernel) dX8_init_40 ?_
  refine zf_aast (j := 14) C0 hZ (by decide) (vp_in_iff.mpr (by decide)) dX8_init_42 (fun g_8 H locs eg_8 hZ => ?_)
  refine lv_dup hx hb dX8_init_43 rfl ?_
  refine lv_iconst (v := 1) hx hb dX8_init_44 (by decide) ?_
  refine zc_ldcS (i := 15) (tx := "here") C0 hZ (by decide +kernel) dX8_init_45 ?_
  refine zf_aast (j := 15) C0 hZ (by decide) (vp_in_iff.mpr (by decide)) dX8_init_47 (fun g_9 H locs eg_9 hZ => ?_)
  refine lv_dup hx hb dX8_init_48 rfl ?_
  refine lv_iconst (v := 2) hx hb dX8_init_49 (by decide) ?_
  refine zc_ldcS (i := 16) (tx := "took") C0 hZ (by decide +kernel) dX8_init_50 ?_
  refine zf_aast (j := 16) C0 hZ (by decide) (vp_in_iff.mpr (by decide)) dX8_init_52 (fun g_10 H locs eg_10 hZ => ?_)
  refine lv_dup hx hb dX8_init_53 rfl ?_
  refine lv_iconst (v := 3) hx hb dX8_init_54 (by decide) ?_
  refine zc_ldcS (i := 17) (tx := "far") C0 hZ (by decide +kernel) dX8_init_55 ?_
  refine zf_aast (j := 17) C0 hZ (by decide) (vp_in_iff.mpr (by decide)) dX8_init_57 (fun g_11 H locs eg_11 hZ => ?_)
  refine lv_dup hx hb dX8_init_58 rfl ?_
  refine lv_iconst (v := 4) hx hb dX8_init_59 (by decide) ?_
  refine zc_ldcS (i := 18) (tx := "worth") C0 hZ (by decide +kernel) dX8_init_60 ?_
  refine zf_aast (j := 18) C0 hZ (by decide) (vp_in_iff.mpr (by decide)) dX8_init_62 (fun g_12 H locs eg_12 hZ => ?_)
  refine lv_dup hx hb dX8_init_63 rfl ?_
  refine lv_iconst (v := 5) hx hb dX8_init_64 (by decide) ?_
  refine zc_ldcS (i := 19) (tx := "crowd") C0 hZ (by decide +kernel) dX8_init_65 ?_
  refine zf_aast (j := 19) C0 hZ (by decide) (vp_in_iff.mpr (by decide)) dX8_init_67 (fun g_13 H locs eg_13 hZ => ?_)
  refine lv_dup hx hb dX8_init_68 rfl ?_
  refine lv_bipush (v := 6) hx hb dX8_init_69 (by decide) ?_
  refine zc_ldcS (i := 20) (tx := "minute") C0 hZ (by decide +kernel) dX8_init_71 ?_
  refine zf_aast (j := 20) C0 hZ (by decide) (vp_in_iff.mpr (by decide)) dX8_init_73 (fun g_14 H locs eg_14 hZ => ?_)
  refine zg_put (ci := 8) (v := .ref q_7) C0 hZ hp hin fRX8_37 (zmem 1405 (by decide +kernel) (by decide +kernel)) tyX8_ok nmX8 rfl rfl rfl dX8_init_74 (fun p_1 r_15 H locs ep_1 er_15 hp hZ => ?_)
  replace hp : p_1.length = 2 := hp
  refine lv_aload_n hx hb dX8_init_77 rfl (lv_at hl 0 rfl) ?_
  refine lv_bipush (v := 18) hx hb dX8_init_78 (by decide) ?_
  refine zf_newa (N := 18) C0 hZ (zmem 228 (by decide +kernel) (by decide +kernel)) (by decide) (by decide) (by decide) ⟨Nat.le_of_ble_eq_true rfl, Nat.le_of_ble_eq_true rfl⟩ dX8_init_80 (fun q_16 H hZ => ?_)
  refine lv_dup hx hb dX8_init_82 rfl ?_
  refine lv_iconst (v := 0) hx hb dX8_init_83 (by decide) ?_
  refine lv_iconst (v := 0) hx hb dX8_init_84 (by decide) ?_
  refine zf_iast C0 hZ (vp_in_iff.mpr (by decide)) dX8_init_85 (fun g_17 H locs eg_17 hZ => ?_)
  refine lv_dup hx hb dX8_init_86 rfl ?_
  refine lv_iconst (v := 1) hx hb dX8_init_87 (by decide) ?_
  refine lv_iconst (v := 0) hx hb dX8_init_88 (by decide) ?_
  refine zf_iast C0 hZ (vp_in_iff.mpr (by decide)) dX8_init_89 (fun g_18 H locs eg_18 hZ => ?_)
  refine lv_dup hx hb dX8_init_90 rfl ?_
  refine lv_iconst (v := 2) hx hb dX8_init_91 (by decide) ?_
  refine lv_iconst (v := 0) hx hb dX8_init_92 (by decide) ?_
  refine zf_iast C0 hZ (vp_in_iff.mpr (by decide)) dX8_init_93 (fun g_19 H locs eg_19 hZ => ?_)
  refine lv_dup hx hb dX8_init_94 rfl ?_
  refine lv_iconst (v := 3) hx hb dX8_init_95 (by decide) ?_
  refine lv_iconst (v := 0) hx hb dX8_init_96 (by decide) ?_
  refine zf_iast C0 hZ (vp_in_iff.mpr (by decide)) dX8_init_97 (fun g_20 H locs eg_20 hZ => ?_)
  refine lv_dup hx hb dX8_init_98 rfl ?_
  refine lv_iconst (v := 4) hx hb dX8_init_99 (by decide) ?_
  refine lv_iconst (v := 0) hx hb dX8_init_100 (by decide) ?_
  refine zf_iast C0 hZ (vp_in_iff.mpr (by decide)) dX8_init_101 (fun g_21 H locs eg_21 hZ => ?_)
  refine lv_dup hx hb dX8_init_102 rfl ?_
  refine lv_iconst (v := 5) hx hb dX8_init_103 (by decide) ?_
  refine lv_iconst (v := 3) hx hb dX8_init_104 (by decide) ?_
  refine zf_iast C0 hZ (vp_in_iff.mpr (by decide)) dX8_init_105 (fun g_22 H locs eg_22 hZ => ?_)
  refine lv_dup hx hb dX8_init_106 rfl ?_
  refine lv_bipush (v := 6) hx hb dX8_init_107 (by decide) ?_
  refine lv_sipush (v := 400) hx hb dX8_init_109 (by decide) ?_
  refine zf_iast C0 hZ (vp_in_iff.mpr (by decide)) dX8_init_112 (fun g_23 H locs eg_23 hZ => ?_)
  refine lv_dup hx hb dX8_init_113 rfl ?_
  refine lv_bipush (v := 7) hx hb dX8_init_114 (by decide) ?_
  refine lv_iconst (v := 1) hx hb dX8_init_116 (by decide) ?_
  refine zf_iast C0 hZ (vp_in_iff.mpr (by decide)) dX8_init_117 (fun g_24 H locs eg_24 hZ => ?_)
  refine lv_dup hx hb dX8_init_118 rfl ?_
  refine lv_bipush (v := 8) hx hb dX8_init_119 (by decide) ?_
  refine lv_iconst (v := 0) hx hb dX8_init_121 (by decide) ?_
  refine zf_iast C0 hZ (vp_in_iff.mpr (by decide)) dX8_init_122 (fun g_25 H locs eg_25 hZ => ?_)
  refine lv_dup hx hb dX8_init_123 rfl ?_
  refine lv_bipush (v := 9) hx hb dX8_init_124 (by decide) ?_
  refine lv_iconst (v := 0) hx hb dX8_init_126 (by decide) ?_
  refine zf_iast C0 hZ (vp_in_iff.mpr (by decide)) dX8_init_127 (fun g_26 H locs eg_26 hZ => ?_)
  refine lv_dup hx hb dX8_init_128 rfl ?_
  refine lv_bipush (v := 10) hx hb dX8_init_129 (by decide) ?_
  refine lv_iconst (v := 0) hx hb dX8_init_131 (by decide) ?_
  refine zf_iast C0 hZ (vp_in_iff.mpr (by decide)) dX8_init_132 (fun g_27 H locs eg_27 hZ => ?_)
  refine lv_dup hx hb dX8_init_133 rfl ?_
  refine lv_bipush (v := 11) hx hb dX8_init_134 (by decide) ?_
  refine lv_iconst (v := 0) hx hb dX8_init_136 (by decide) ?_
  refine zf_iast C0 hZ (vp_in_iff.mpr (by decide)) dX8_init_137 (fun g_28 H locs eg_28 hZ => ?_)
  refine lv_dup hx hb dX8_init_138 rfl ?_
  refine lv_bipush (v := 12) hx hb dX8_init_139 (by decide) ?_
  refine lv_iconst (v := 0) hx hb dX8_init_141 (by decide) ?_
  refine zf_iast C0 hZ (vp_in_iff.mpr (by decide)) dX8_init_142 (fun g_29 H locs eg_29 hZ => ?_)
  refine lv_dup hx hb dX8_init_143 rfl ?_
  refine lv_bipush (v := 13) hx hb dX8_init_144 (by decide) ?_
  refine lv_iconst (v := 0) hx hb dX8_init_146 (by decide) ?_
  refine zf_iast C0 hZ (vp_in_iff.mpr (by decide)) dX8_init_147 (fun g_30 H locs eg_30 hZ => ?_)
  refine lv_dup hx hb dX8_init_148 rfl ?_
  refine lv_bipush (v := 14) hx hb dX8_init_149 (by decide) ?_
  refine lv_iconst (v := 3) hx hb dX8_init_151 (by decide) ?_
  refine zf_iast C0 hZ (vp_in_iff.mpr (by decide)) dX8_init_152 (fun g_31 H locs eg_31 hZ => ?_)
  refine lv_dup hx hb dX8_init_153 rfl ?_
  refine lv_bipush (v := 15) hx hb dX8_init_154 (by decide) ?_
  refine lv_sipush (v := 400) hx hb dX8_init_156 (by decide) ?_
  refine zf_iast C0 hZ (vp_in_iff.mpr (by decide)) dX8_init_159 (fun g_32 H locs eg_32 hZ => ?_)
  refine lv_dup hx hb dX8_init_160 rfl ?_
  refine lv_bipush (v := 16) hx hb dX8_init_161 (by decide) ?_
  refine lv_iconst (v := 1) hx hb dX8_init_163 (by decide) ?_
  refine zf_iast C0 hZ (vp_in_iff.mpr (by decide)) dX8_init_164 (fun g_33 H locs eg_33 hZ => ?_)
  refine lv_dup hx hb dX8_init_165 rfl ?_
  refine lv_bipush (v := 17) hx hb dX8_init_166 (by decide) ?_
  refine lv_iconst (v := 0) hx hb dX8_init_168 (by decide) ?_
  refine zf_iast C0 hZ (vp_in_iff.mpr (by decide)) dX8_init_169 (fun g_34 H locs eg_34 hZ => ?_)
  obtain ⟨p_2, ep_2, hp, hZ⟩ := zg_skip hZ hp
  replace hp : p_2.length = 3 := hp
  refine zg_put (ci := 8) (v := .ref q_16) C0 hZ hp hin fRX8_40 (zmem 1407 (by decide +kernel) (by decide +kernel)) tyX8_ok nmX8 rfl rfl rfl dX8_init_170 (fun p_3 r_35 H locs ep_3 er_35 hp hZ => ?_)
  replace hp : p_3.length = 4 := hp
  refine lv_aload_n hx hb dX8_init_173 rfl (lv_at hl 0 rfl) ?_
  refine lv_bipush (v := 20) hx hb dX8_init_174 (by decide) ?_
  refine zf_newa (N := 20) C0 hZ (zmem 228 (by decide +kernel) (by decide +kernel)) (by decide) (by decide) (by decide) ⟨Nat.le_of_ble_eq_true rfl, Nat.le_of_ble_eq_true rfl⟩ dX8_init_176 (fun q_36 H hZ => ?_)
  refine zg_put (ci := 8) (v := .ref q_36) C0 hZ hp hin fRX8_44 (zmem 1408 (by decide +kernel) (by decide +kernel)) tyX8_ok nmX8 rfl rfl rfl dX8_init_178 (fun p_4 r_37 H locs ep_4 er_37 hp hZ => ?_)
  replace hp : p_4.length = 5 := hp
  refine lv_aload_n hx hb dX8_init_181 rfl (lv_at hl 0 rfl) ?_
  refine lv_bipush (v := 20) hx hb dX8_init_182 (by decide) ?_
  refine zf_newa (N := 20) C0 hZ (zmem 228 (by decide +kernel) (by decide +kernel)) (by decide) (by decide) (by decide) ⟨Nat.le_of_ble_eq_true rfl, Nat.le_of_ble_eq_true rfl⟩ dX8_init_184 (fun q_38 H hZ => ?_)
  refine zg_put (ci := 8) (v := .ref q_38) C0 hZ hp hin fRX8_46 (zmem 1409 (by decide +kernel) (by decide +kernel)) tyX8_ok nmX8 rfl rfl rfl dX8_init_186 (fun p_5 r_39 H locs ep_5 er_39 hp hZ => ?_)
  replace hp : p_5.length = 6 := hp
  refine lv_aload_n hx hb dX8_init_189 rfl (lv_at hl 0 rfl) ?_
  refine lv_bipush (v := 20) hx hb dX8_init_190 (by decide) ?_
  refine zf_newa (N := 20) C0 hZ (zmem 228 (by decide +kernel) (by decide +kernel)) (by decide) (by decide) (by decide) ⟨Nat.le_of_ble_eq_true rfl, Nat.le_of_ble_eq_true rfl⟩ dX8_init_192 (fun q_40 H hZ => ?_)
  refine zg_put (ci := 8) (v := .ref q_40) C0 hZ hp hin fRX8_49 (zmem 1410 (by decide +kernel) (by decide +kernel)) tyX8_ok nmX8 rfl rfl rfl dX8_init_194 (fun p_6 r_41 H locs ep_6 er_41 hp hZ => ?_)
  replace hp : p_6.length = 7 := hp
  have e1 : p_6 ++ suf = (pre ++ [.ref q_1, .ref q_7, .int 0, .ref q_16, .ref q_36, .ref q_38, .ref q_40]) ++ suf := by simp only [ep_6, ep_5, ep_4, ep_3, ep_2, ep_1, ep_0, List.append_assoc, List.cons_append, List.nil_append]
  have e2 : r_41 = (r ++ [(q_1, .inl (V.2.1.2, (4, .inr (.inr (.inr (.inr (va_up (va_up (va_up (va_up (fun _ => none) 0 (some (V.2.2.2.1 7))) 1 (some (V.2.2.2.1 8))) 2 (some (V.2.2.2.1 9))) 3 (some (V.2.2.2.1 10))))))))), (q_7, .inl (V.2.1.2, (7, .inr (.inr (.inr (.inr (va_up (va_up (va_up (va_up (va_up (va_up (va_up (fun _ => none) 0 (some (V.2.2.2.1 14))) 1 (some (V.2.2.2.1 15))) 2 (some (V.2.2.2.1 16))) 3 (some (V.2.2.2.1 17))) 4 (some (V.2.2.2.1 18))) 5 (some (V.2.2.2.1 19))) 6 (some (V.2.2.2.1 20))))))))), (q_16, .inl (V.2.1.1, (18, .inl (upd (upd (upd (upd (upd (upd (upd (upd (upd (upd (upd (upd (upd (upd (upd (upd (upd (upd (fun _ => 0) 0 0) 1 0) 2 0) 3 0) 4 0) 5 3) 6 400) 7 1) 8 0) 9 0) 10 0) 11 0) 12 0) 13 0) 14 3) 15 400) 16 1) 17 0)))), (q_36, .inl (V.2.1.1, (20, .inl (fun _ => 0)))), (q_38, .inl (V.2.1.1, (20, .inl (fun _ => 0)))), (q_40, .inl (V.2.1.1, (20, .inl (fun _ => 0))))] : va_W) := by simp only [er_41, er_39, er_37, er_35, er_15, er_6, eg_34, eg_33, eg_32, eg_31, eg_30, eg_29, eg_28, eg_27, eg_26, eg_25, eg_24, eg_23, eg_22, eg_21, eg_20, eg_19, eg_18, eg_17, eg_14, eg_13, eg_12, eg_11, eg_10, eg_9, eg_8, eg_5, eg_4, eg_3, eg_2, tm_0, tm_1, tm_2, tm_3, tm_4, tm_5, tm_6, tm_7, tm_8, tm_9, tm_10, tm_11, tm_12, tm_13, tm_14, tm_15, tm_16, tm_17, List.append_assoc, List.cons_append, List.nil_append]
  rw [e1, e2] at hZ
  exact k q_1 q_7 q_16 q_36 q_38 q_40 H locs (by rw [List.length_append, hp0]; rfl) hZ
set_option maxHeartbeats 4000000 in
theorem kY_1 (C0 : CallFix p m c cX8_init 1 s args zT RX8) (hin : meth.name = "<init>") (hl : lv_has ls 1 [(0, .ref h0)]) (hover : va_AO "java/lang/String" s) {pre suf : List Value} {r : va_W} (hp : pre.length = 7) (hZ : zC V A s H locs ((h0, .inr (8, pre ++ (.null :: .null :: .null :: .null :: .null :: .null :: suf))) :: r))
    (k : ∀ (q_42 q_44 q_46 q_48 q_50 q_52 : Nat) (H : Heap) (locs : List Loc), (pre ++ ([.ref q_42, .ref q_44, .ref q_46, .ref q_48, .ref q_50, .ref q_52] : List Value)).length = 13 → zC V A s H locs ((h0, .inr (8, (pre ++ [.ref q_42, .ref q_44, .ref q_46, .ref q_48, .ref q_50, .ref q_52]) ++ suf)) :: (r ++ [(q_42, .inl (V.2.1.1, (20, .inl (fun _ => 0)))), (q_44, .inl (V.2.1.1, (16, .inl (fun _ => 0)))), (q_46, .inl (V.2.1.1, (16, .inl (fun _ => 0)))), (q_48, .inl (V.2.1.1, (16, .inl (fun _ => 0)))), (q_50, .inl (V.2.1.1, (16, .inl (fun _ => 0)))), (q_52, .inl (V.2.1.1, (16, .inl (fun _ => 0))))])) → W p l e { frames := 1, cells := 40, slots := 4924, locals := 30 } s m args below meth c H locs 12 189 Q (F0 m 245 ls [])) : W p l e { frames := 1, cells := 40, slots := 4924, locals := 30 } s m args below meth c H locs 6 89 Q (F0 m 197 ls []) := by
  have hx := C0.1
  have hb := C0.2.1
  have hp0 := hp
  refine lv_aload_n hx hb dX8_init_197 rfl (lv_at hl 0 rfl) ?_
  refine lv_bipush (v := 20) hx hb dX8_init_198 (by decide) ?_
  refine zf_newa (N := 20) C0 hZ (zmem 228 (by decide +kernel) (by decide +kernel)) (by decide) (by decide) (by decide) ⟨Nat.le_of_ble_eq_true rfl, Nat.le_of_ble_eq_true rfl⟩ dX8_init_200 (fun q_42 H hZ => ?_)
  refine zg_put (ci := 8) (v := .ref q_42) C0 hZ hp hin fRX8_52 (zmem 1411 (by decide +kernel) (by decide +kernel)) tyX8_ok nmX8 rfl rfl rfl dX8_init_202 (fun p_7 r_43 H locs ep_7 er_43 hp hZ => ?_)
  replace hp : p_7.length = 8 := hp
  refine lv_aload_n hx hb dX8_init_205 rfl (lv_at hl 0 rfl) ?_
  refine lv_bipush (v := 16) hx hb dX8_init_206 (by decide) ?_
  refine zf_newa (N := 16) C0 hZ (zmem 228 (by decide +kernel) (by decide +kernel)) (by decide) (by decide) (by decide) ⟨Nat.le_of_ble_eq_true rfl, Nat.le_of_ble_eq_true rfl⟩ dX8_init_208 (fun q_44 H hZ => ?_)
  refine zg_put (ci := 8) (v := .ref q_44) C0 hZ hp hin fRX8_55 (zmem 1412 (by decide +kernel) (by decide +kernel)) tyX8_ok nmX8 rfl rfl rfl dX8_init_210 (fun p_8 r_45 H locs ep_8 er_45 hp hZ => ?_)
  replace hp : p_8.length = 9 := hp
  refine lv_aload_n hx hb dX8_init_213 rfl (lv_at hl 0 rfl) ?_
  refine lv_bipush (v := 16) hx hb dX8_init_214 (by decide) ?_
  refine zf_newa (N := 16) C0 hZ (zmem 228 (by decide +kernel) (by decide +kernel)) (by decide) (by decide) (by decide) ⟨Nat.le_of_ble_eq_true rfl, Nat.le_of_ble_eq_true rfl⟩ dX8_init_216 (fun q_46 H hZ => ?_)
  refine zg_put (ci := 8) (v := .ref q_46) C0 hZ hp hin fRX8_58 (zmem 1413 (by decide +kernel) (by decide +kernel)) tyX8_ok nmX8 rfl rfl rfl dX8_init_218 (fun p_9 r_47 H locs ep_9 er_47 hp hZ => ?_)
  replace hp : p_9.length = 10 := hp
  refine lv_aload_n hx hb dX8_init_221 rfl (lv_at hl 0 rfl) ?_
  refine lv_bipush (v := 16) hx hb dX8_init_222 (by decide) ?_
  refine zf_newa (N := 16) C0 hZ (zmem 228 (by decide +kernel) (by decide +kernel)) (by decide) (by decide) (by decide) ⟨Nat.le_of_ble_eq_true rfl, Nat.le_of_ble_eq_true rfl⟩ dX8_init_224 (fun q_48 H hZ => ?_)
  refine zg_put (ci := 8) (v := .ref q_48) C0 hZ hp hin fRX8_61 (zmem 1414 (by decide +kernel) (by decide +kernel)) tyX8_ok nmX8 rfl rfl rfl dX8_init_226 (fun p_10 r_49 H locs ep_10 er_49 hp hZ => ?_)
  replace hp : p_10.length = 11 := hp
  refine lv_aload_n hx hb dX8_init_229 rfl (lv_at hl 0 rfl) ?_
  refine lv_bipush (v := 16) hx hb dX8_init_230 (by decide) ?_
  refine zf_newa (N := 16) C0 hZ (zmem 228 (by decide +kernel) (by decide +kernel)) (by decide) (by decide) (by decide) ⟨Nat.le_of_ble_eq_true rfl, Nat.le_of_ble_eq_true rfl⟩ dX8_init_232 (fun q_50 H hZ => ?_)
  refine zg_put (ci := 8) (v := .ref q_50) C0 hZ hp hin fRX8_64 (zmem 1415 (by decide +kernel) (by decide +kernel)) tyX8_ok nmX8 rfl rfl rfl dX8_init_234 (fun p_11 r_51 H locs ep_11 er_51 hp hZ => ?_)
  replace hp : p_11.length = 12 := hp
  refine lv_aload_n hx hb dX8_init_237 rfl (lv_at hl 0 rfl) ?_
  refine lv_bipush (v := 16) hx hb dX8_init_238 (by decide) ?_
  refine zf_newa (N := 16) C0 hZ (zmem 228 (by decide +kernel) (by decide +kernel)) (by decide) (by decide) (by decide) ⟨Nat.le_of_ble_eq_true rfl, Nat.le_of_ble_eq_true rfl⟩ dX8_init_240 (fun q_52 H hZ => ?_)
  refine zg_put (ci := 8) (v := .ref q_52) C0 hZ hp hin fRX8_66 (zmem 1416 (by decide +kernel) (by decide +kernel)) tyX8_ok nmX8 rfl rfl rfl dX8_init_242 (fun p_12 r_53 H locs ep_12 er_53 hp hZ => ?_)
  replace hp : p_12.length = 13 := hp
  have e1 : p_12 ++ suf = (pre ++ [.ref q_42, .ref q_44, .ref q_46, .ref q_48, .ref q_50, .ref q_52]) ++ suf := by simp only [ep_12, ep_11, ep_10, ep_9, ep_8, ep_7, List.append_assoc, List.cons_append, List.nil_append]
  have e2 : r_53 = (r ++ [(q_42, .inl (V.2.1.1, (20, .inl (fun _ => 0)))), (q_44, .inl (V.2.1.1, (16, .inl (fun _ => 0)))), (q_46, .inl (V.2.1.1, (16, .inl (fun _ => 0)))), (q_48, .inl (V.2.1.1, (16, .inl (fun _ => 0)))), (q_50, .inl (V.2.1.1, (16, .inl (fun _ => 0)))), (q_52, .inl (V.2.1.1, (16, .inl (fun _ => 0))))] : va_W) := by simp only [er_53, er_51, er_49, er_47, er_45, er_43, List.append_assoc, List.cons_append, List.nil_append]
  rw [e1, e2] at hZ
  exact k q_42 q_44 q_46 q_48 q_50 q_52 H locs (by rw [List.length_append, hp0]; rfl) hZ
set_option maxHeartbeats 4000000 in
theorem kY_2 (C0 : CallFix p m c cX8_init 1 s args zT RX8) (hin : meth.name = "<init>") (hl : lv_has ls 1 [(0, .ref h0)]) (hover : va_AO "java/lang/String" s) {pre suf : List Value} {r : va_W} (hp : pre.length = 13) (hZ : zC V A s H locs ((h0, .inr (8, pre ++ (.null :: .null :: .null :: .null :: .null :: .int 0 :: .int 0 :: .int 0 :: .int 0 :: .int 0 :: .int 0 :: .int 0 :: .int 0 :: .int 0 :: .int 0 :: suf))) :: r))
    (k : ∀ (q_54 q_56 q_58 q_60 q_62 : Nat) (H : Heap) (locs : List Loc), (pre ++ ([.ref q_54, .ref q_56, .ref q_58, .ref q_60, .ref q_62, .int 0, .int 0, .int 0, .int 0, .int 0, .int 0, .int 0, .int 0, .int 0, .int (-1)] : List Value)).length = 28 → zC V A s H locs ((h0, .inr (8, (pre ++ [.ref q_54, .ref q_56, .ref q_58, .ref q_60, .ref q_62, .int 0, .int 0, .int 0, .int 0, .int 0, .int 0, .int 0, .int 0, .int 0, .int (-1)]) ++ suf)) :: (r ++ [(q_54, .inl (V.2.1.1, (192, .inl (fun _ => 0)))), (q_56, .inl (V.2.1.1, (8, .inl (fun _ => 0)))), (q_58, .inl (V.2.1.1, (1400, .inl (fun _ => 0)))), (q_60, .inl (V.2.1.1, (3, .inl (fun _ => 0)))), (q_62, .inl (V.2.1.1, (700, .inl (fun _ => 0))))])) → W p l e { frames := 1, cells := 40, slots := 4924, locals := 30 } s m args below meth c H locs 17 2492 Q (F0 m 292 ls [])) : W p l e { frames := 1, cells := 40, slots := 4924, locals := 30 } s m args below meth c H locs 12 189 Q (F0 m 245 ls []) := by
  have hx := C0.1
  have hb := C0.2.1
  have hp0 := hp
  refine lv_aload_n hx hb dX8_init_245 rfl (lv_at hl 0 rfl) ?_
  refine lv_sipush (v := 192) hx hb dX8_init_246 (by decide) ?_
  refine zf_newa (N := 192) C0 hZ (zmem 228 (by decide +kernel) (by decide +kernel)) (by decide) (by decide) (by decide) ⟨Nat.le_of_ble_eq_true rfl, Nat.le_of_ble_eq_true rfl⟩ dX8_init_249 (fun q_54 H hZ => ?_)
  refine zg_put (ci := 8) (v := .ref q_54) C0 hZ hp hin fRX8_69 (zmem 1417 (by decide +kernel) (by decide +kernel)) tyX8_ok nmX8 rfl rfl rfl dX8_init_251 (fun p_13 r_55 H locs ep_13 er_55 hp hZ => ?_)
  replace hp : p_13.length = 14 := hp
  refine lv_aload_n hx hb dX8_init_254 rfl (lv_at hl 0 rfl) ?_
  refine lv_bipush (v := 8) hx hb dX8_init_255 (by decide) ?_
  refine zf_newa (N := 8) C0 hZ (zmem 228 (by decide +kernel) (by decide +kernel)) (by decide) (by decide) (by decide) ⟨Nat.le_of_ble_eq_true rfl, Nat.le_of_ble_eq_true rfl⟩ dX8_init_257 (fun q_56 H hZ => ?_)
  refine zg_put (ci := 8) (v := .ref q_56) C0 hZ hp hin fRX8_72 (zmem 1418 (by decide +kernel) (by decide +kernel)) tyX8_ok nmX8 rfl rfl rfl dX8_init_259 (fun p_14 r_57 H locs ep_14 er_57 hp hZ => ?_)
  replace hp : p_14.length = 15 := hp
  refine lv_aload_n hx hb dX8_init_262 rfl (lv_at hl 0 rfl) ?_
  refine lv_sipush (v := 1400) hx hb dX8_init_263 (by decide) ?_
  refine zf_newa (N := 1400) C0 hZ (zmem 228 (by decide +kernel) (by decide +kernel)) (by decide) (by decide) (by decide) ⟨Nat.le_of_ble_eq_true rfl, Nat.le_of_ble_eq_true rfl⟩ dX8_init_266 (fun q_58 H hZ => ?_)
  refine zg_put (ci := 8) (v := .ref q_58) C0 hZ hp hin fRX8_75 (zmem 1419 (by decide +kernel) (by decide +kernel)) tyX8_ok nmX8 rfl rfl rfl dX8_init_268 (fun p_15 r_59 H locs ep_15 er_59 hp hZ => ?_)
  replace hp : p_15.length = 16 := hp
  refine lv_aload_n hx hb dX8_init_271 rfl (lv_at hl 0 rfl) ?_
  refine lv_iconst (v := 3) hx hb dX8_init_272 (by decide) ?_
  refine zf_newa (N := 3) C0 hZ (zmem 228 (by decide +kernel) (by decide +kernel)) (by decide) (by decide) (by decide) ⟨Nat.le_of_ble_eq_true rfl, Nat.le_of_ble_eq_true rfl⟩ dX8_init_273 (fun q_60 H hZ => ?_)
  refine zg_put (ci := 8) (v := .ref q_60) C0 hZ hp hin fRX8_78 (zmem 1420 (by decide +kernel) (by decide +kernel)) tyX8_ok nmX8 rfl rfl rfl dX8_init_275 (fun p_16 r_61 H locs ep_16 er_61 hp hZ => ?_)
  replace hp : p_16.length = 17 := hp
  refine lv_aload_n hx hb dX8_init_278 rfl (lv_at hl 0 rfl) ?_
  refine lv_sipush (v := 700) hx hb dX8_init_279 (by decide) ?_
  refine zf_newa (N := 700) C0 hZ (zmem 228 (by decide +kernel) (by decide +kernel)) (by decide) (by decide) (by decide) ⟨Nat.le_of_ble_eq_true rfl, Nat.le_of_ble_eq_true rfl⟩ dX8_init_282 (fun q_62 H hZ => ?_)
  refine zg_put (ci := 8) (v := .ref q_62) C0 hZ hp hin fRX8_81 (zmem 1421 (by decide +kernel) (by decide +kernel)) tyX8_ok nmX8 rfl rfl rfl dX8_init_284 (fun p_17 r_63 H locs ep_17 er_63 hp hZ => ?_)
  replace hp : p_17.length = 18 := hp
  refine lv_aload_n hx hb dX8_init_287 rfl (lv_at hl 0 rfl) ?_
  refine lv_iconst (v := (-1)) hx hb dX8_init_288 (by decide) ?_
  obtain ⟨p_18, ep_18, hp, hZ⟩ := zg_skip hZ hp
  replace hp : p_18.length = 19 := hp
  obtain ⟨p_19, ep_19, hp, hZ⟩ := zg_skip hZ hp
  replace hp : p_19.length = 20 := hp
  obtain ⟨p_20, ep_20, hp, hZ⟩ := zg_skip hZ hp
  replace hp : p_20.length = 21 := hp
  obtain ⟨p_21, ep_21, hp, hZ⟩ := zg_skip hZ hp
  replace hp : p_21.length = 22 := hp
  obtain ⟨p_22, ep_22, hp, hZ⟩ := zg_skip hZ hp
  replace hp : p_22.length = 23 := hp
  obtain ⟨p_23, ep_23, hp, hZ⟩ := zg_skip hZ hp
  replace hp : p_23.length = 24 := hp
  obtain ⟨p_24, ep_24, hp, hZ⟩ := zg_skip hZ hp
  replace hp : p_24.length = 25 := hp
  obtain ⟨p_25, ep_25, hp, hZ⟩ := zg_skip hZ hp
  replace hp : p_25.length = 26 := hp
  obtain ⟨p_26, ep_26, hp, hZ⟩ := zg_skip hZ hp
  replace hp : p_26.length = 27 := hp
  refine zg_put (ci := 8) (v := .int (-1)) C0 hZ hp hin fRX8_84 (zmem 1431 (by decide +kernel) (by decide +kernel)) tyX8_ok nmX8 rfl rfl rfl dX8_init_289 (fun p_27 r_64 H locs ep_27 er_64 hp hZ => ?_)
  replace hp : p_27.length = 28 := hp
  have e1 : p_27 ++ suf = (pre ++ [.ref q_54, .ref q_56, .ref q_58, .ref q_60, .ref q_62, .int 0, .int 0, .int 0, .int 0, .int 0, .int 0, .int 0, .int 0, .int 0, .int (-1)]) ++ suf := by simp only [ep_27, ep_26, ep_25, ep_24, ep_23, ep_22, ep_21, ep_20, ep_19, ep_18, ep_17, ep_16, ep_15, ep_14, ep_13, List.append_assoc, List.cons_append, List.nil_append]
  have e2 : r_64 = (r ++ [(q_54, .inl (V.2.1.1, (192, .inl (fun _ => 0)))), (q_56, .inl (V.2.1.1, (8, .inl (fun _ => 0)))), (q_58, .inl (V.2.1.1, (1400, .inl (fun _ => 0)))), (q_60, .inl (V.2.1.1, (3, .inl (fun _ => 0)))), (q_62, .inl (V.2.1.1, (700, .inl (fun _ => 0))))] : va_W) := by simp only [er_64, er_63, er_61, er_59, er_57, er_55, List.append_assoc, List.cons_append, List.nil_append]
  rw [e1, e2] at hZ
  exact k q_54 q_56 q_58 q_60 q_62 H locs (by rw [List.length_append, hp0]; rfl) hZ
set_option maxHeartbeats 4000000 in
theorem kY_3 (C0 : CallFix p m c cX8_init 1 s args zT RX8) (hin : meth.name = "<init>") (hl : lv_has ls 1 [(0, .ref h0)]) (hover : va_AO "java/lang/String" s) {pre suf : List Value} {r : va_W} (hp : pre.length = 28) (hZ : zC V A s H locs ((h0, .inr (8, pre ++ (.null :: .int 0 :: .int 0 :: .int 0 :: .int 0 :: .int 0 :: .int 0 :: .int 0 :: .int 0 :: .int 0 :: .null :: .null :: .null :: .null :: suf))) :: r))
    (k : ∀ (q_65 q_68 q_70 q_72 q_74 : Nat) (H : Heap) (locs : List Loc), (pre ++ ([.ref q_65, .int 0, .int 0, .int 0, .int 1, .int 0, .int 0, .int 0, .int 0, .int 0, .ref q_68, .ref q_70, .ref q_72, .ref q_74] : List Value)).length = 42 → zC V A s H locs ((h0, .inr (8, (pre ++ [.ref q_65, .int 0, .int 0, .int 0, .int 1, .int 0, .int 0, .int 0, .int 0, .int 0, .ref q_68, .ref q_70, .ref q_72, .ref q_74]) ++ suf)) :: (r ++ [(q_65, .inl (V.2.1.1, (100, .inl (fun _ => 0)))), (q_68, .inl (V.2.1.1, (1040, .inl (fun _ => 0)))), (q_70, .inl (V.2.1.1, (7, .inl (fun _ => 0)))), (q_72, .inl (V.2.1.1, (64, .inl (fun _ => 0)))), (q_74, .inl (V.2.1.1, (10, .inl (fun _ => 0))))])) → W p l e { frames := 1, cells := 40, slots := 4924, locals := 30 } s m args below meth c H locs 22 3713 Q (F0 m 338 ls [])) : W p l e { frames := 1, cells := 40, slots := 4924, locals := 30 } s m args below meth c H locs 17 2492 Q (F0 m 292 ls []) := by
  have hx := C0.1
  have hb := C0.2.1
  have hp0 := hp
  refine lv_aload_n hx hb dX8_init_292 rfl (lv_at hl 0 rfl) ?_
  refine lv_bipush (v := 100) hx hb dX8_init_293 (by decide) ?_
  refine zf_newa (N := 100) C0 hZ (zmem 228 (by decide +kernel) (by decide +kernel)) (by decide) (by decide) (by decide) ⟨Nat.le_of_ble_eq_true rfl, Nat.le_of_ble_eq_true rfl⟩ dX8_init_295 (fun q_65 H hZ => ?_)
  refine zg_put (ci := 8) (v := .ref q_65) C0 hZ hp hin fRX8_88 (zmem 1432 (by decide +kernel) (by decide +kernel)) tyX8_ok nmX8 rfl rfl rfl dX8_init_297 (fun p_28 r_66 H locs ep_28 er_66 hp hZ => ?_)
  replace hp : p_28.length = 29 := hp
  refine lv_aload_n hx hb dX8_init_300 rfl (lv_at hl 0 rfl) ?_
  refine lv_iconst (v := 1) hx hb dX8_init_301 (by decide) ?_
  obtain ⟨p_29, ep_29, hp, hZ⟩ := zg_skip hZ hp
  replace hp : p_29.length = 30 := hp
  obtain ⟨p_30, ep_30, hp, hZ⟩ := zg_skip hZ hp
  replace hp : p_30.length = 31 := hp
  obtain ⟨p_31, ep_31, hp, hZ⟩ := zg_skip hZ hp
  replace hp : p_31.length = 32 := hp
  refine zg_put (ci := 8) (v := .int 1) C0 hZ hp hin fRX8_90 (zmem 1436 (by decide +kernel) (by decide +kernel)) tyX8_ok nmX8 rfl rfl rfl dX8_init_302 (fun p_32 r_67 H locs ep_32 er_67 hp hZ => ?_)
  replace hp : p_32.length = 33 := hp
  refine lv_aload_n hx hb dX8_init_305 rfl (lv_at hl 0 rfl) ?_
  refine lv_sipush (v := 1040) hx hb dX8_init_306 (by decide) ?_
  refine zf_newa (N := 1040) C0 hZ (zmem 228 (by decide +kernel) (by decide +kernel)) (by decide) (by decide) (by decide) ⟨Nat.le_of_ble_eq_true rfl, Nat.le_of_ble_eq_true rfl⟩ dX8_init_309 (fun q_68 H hZ => ?_)
  obtain ⟨p_33, ep_33, hp, hZ⟩ := zg_skip hZ hp
  replace hp : p_33.length = 34 := hp
  obtain ⟨p_34, ep_34, hp, hZ⟩ := zg_skip hZ hp
  replace hp : p_34.length = 35 := hp
  obtain ⟨p_35, ep_35, hp, hZ⟩ := zg_skip hZ hp
  replace hp : p_35.length = 36 := hp
  obtain ⟨p_36, ep_36, hp, hZ⟩ := zg_skip hZ hp
  replace hp : p_36.length = 37 := hp
  obtain ⟨p_37, ep_37, hp, hZ⟩ := zg_skip hZ hp
  replace hp : p_37.length = 38 := hp
  refine zg_put (ci := 8) (v := .ref q_68) C0 hZ hp hin fRX8_93 (zmem 1442 (by decide +kernel) (by decide +kernel)) tyX8_ok nmX8 rfl rfl rfl dX8_init_311 (fun p_38 r_69 H locs ep_38 er_69 hp hZ => ?_)
  replace hp : p_38.length = 39 := hp
  refine lv_aload_n hx hb dX8_init_314 rfl (lv_at hl 0 rfl) ?_
  refine lv_bipush (v := 7) hx hb dX8_init_315 (by decide) ?_
  refine zf_newa (N := 7) C0 hZ (zmem 228 (by decide +kernel) (by decide +kernel)) (by decide) (by decide) (by decide) ⟨Nat.le_of_ble_eq_true rfl, Nat.le_of_ble_eq_true rfl⟩ dX8_init_317 (fun q_70 H hZ => ?_)
  refine zg_put (ci := 8) (v := .ref q_70) C0 hZ hp hin fRX8_96 (zmem 1443 (by decide +kernel) (by decide +kernel)) tyX8_ok nmX8 rfl rfl rfl dX8_init_319 (fun p_39 r_71 H locs ep_39 er_71 hp hZ => ?_)
  replace hp : p_39.length = 40 := hp
  refine lv_aload_n hx hb dX8_init_322 rfl (lv_at hl 0 rfl) ?_
  refine lv_bipush (v := 64) hx hb dX8_init_323 (by decide) ?_
  refine zf_newa (N := 64) C0 hZ (zmem 228 (by decide +kernel) (by decide +kernel)) (by decide) (by decide) (by decide) ⟨Nat.le_of_ble_eq_true rfl, Nat.le_of_ble_eq_true rfl⟩ dX8_init_325 (fun q_72 H hZ => ?_)
  refine zg_put (ci := 8) (v := .ref q_72) C0 hZ hp hin fRX8_99 (zmem 1444 (by decide +kernel) (by decide +kernel)) tyX8_ok nmX8 rfl rfl rfl dX8_init_327 (fun p_40 r_73 H locs ep_40 er_73 hp hZ => ?_)
  replace hp : p_40.length = 41 := hp
  refine lv_aload_n hx hb dX8_init_330 rfl (lv_at hl 0 rfl) ?_
  refine lv_bipush (v := 10) hx hb dX8_init_331 (by decide) ?_
  refine zf_newa (N := 10) C0 hZ (zmem 228 (by decide +kernel) (by decide +kernel)) (by decide) (by decide) (by decide) ⟨Nat.le_of_ble_eq_true rfl, Nat.le_of_ble_eq_true rfl⟩ dX8_init_333 (fun q_74 H hZ => ?_)
  refine zg_put (ci := 8) (v := .ref q_74) C0 hZ hp hin fRX8_102 (zmem 1445 (by decide +kernel) (by decide +kernel)) tyX8_ok nmX8 rfl rfl rfl dX8_init_335 (fun p_41 r_75 H locs ep_41 er_75 hp hZ => ?_)
  replace hp : p_41.length = 42 := hp
  have e1 : p_41 ++ suf = (pre ++ [.ref q_65, .int 0, .int 0, .int 0, .int 1, .int 0, .int 0, .int 0, .int 0, .int 0, .ref q_68, .ref q_70, .ref q_72, .ref q_74]) ++ suf := by simp only [ep_41, ep_40, ep_39, ep_38, ep_37, ep_36, ep_35, ep_34, ep_33, ep_32, ep_31, ep_30, ep_29, ep_28, List.append_assoc, List.cons_append, List.nil_append]
  have e2 : r_75 = (r ++ [(q_65, .inl (V.2.1.1, (100, .inl (fun _ => 0)))), (q_68, .inl (V.2.1.1, (1040, .inl (fun _ => 0)))), (q_70, .inl (V.2.1.1, (7, .inl (fun _ => 0)))), (q_72, .inl (V.2.1.1, (64, .inl (fun _ => 0)))), (q_74, .inl (V.2.1.1, (10, .inl (fun _ => 0))))] : va_W) := by simp only [er_75, er_73, er_71, er_69, er_67, er_66, List.append_assoc, List.cons_append, List.nil_append]
  rw [e1, e2] at hZ
  exact k q_65 q_68 q_70 q_72 q_74 H locs (by rw [List.length_append, hp0]; rfl) hZ
set_option maxHeartbeats 4000000 in
theorem kY_4 (C0 : CallFix p m c cX8_init 1 s args zT RX8) (hin : meth.name = "<init>") (hl : lv_has ls 1 [(0, .ref h0)]) (hover : va_AO "java/lang/String" s) {pre suf : List Value} {r : va_W} (hp : pre.length = 42) (hZ : zC V A s H locs ((h0, .inr (8, pre ++ (.null :: .null :: .null :: .null :: .int 0 :: .int 0 :: .int 0 :: .int 0 :: .int 0 :: .int 0 :: .int 0 :: .int 0 :: .int 0 :: .int 0 :: .int 0 :: .int 0 :: .int 0 :: .int 0 :: .int 0 :: .int 0 :: .int 0 :: .null :: .null :: suf))) :: r))
    (k : ∀ (q_76 q_78 q_80 q_82 q_84 q_86 : Nat) (H : Heap) (locs : List Loc), (pre ++ ([.ref q_76, .ref q_78, .ref q_80, .ref q_82, .int 0, .int 0, .int 0, .int 0, .int 0, .int 0, .int 0, .int 0, .int 0, .int 0, .int 0, .int 0, .int 0, .int 0, .int 0, .int 0, .int 0, .ref q_84, .ref q_86] : List Value)).length = 65 → zC V A s H locs ((h0, .inr (8, (pre ++ [.ref q_76, .ref q_78, .ref q_80, .ref q_82, .int 0, .int 0, .int 0, .int 0, .int 0, .int 0, .int 0, .int 0, .int 0, .int 0, .int 0, .int 0, .int 0, .int 0, .int 0, .int 0, .int 0, .ref q_84, .ref q_86]) ++ suf)) :: (r ++ [(q_76, .inl (V.2.1.1, (10, .inl (fun _ => 0)))), (q_78, .inl (V.2.1.1, (8, .inl (fun _ => 0)))), (q_80, .inl (V.2.1.1, (8, .inl (fun _ => 0)))), (q_82, .inl (V.2.1.1, (8, .inl (fun _ => 0)))), (q_84, .inl (V.2.1.1, (10, .inl (fun _ => 0)))), (q_86, .inl (V.2.1.1, (10, .inl (fun _ => 0))))])) → W p l e { frames := 1, cells := 40, slots := 4924, locals := 30 } s m args below meth c H locs 28 3767 Q (F0 m 386 ls [])) : W p l e { frames := 1, cells := 40, slots := 4924, locals := 30 } s m args below meth c H locs 22 3713 Q (F0 m 338 ls []) := by
  have hx := C0.1
  have hb := C0.2.1
  have hp0 := hp
  refine lv_aload_n hx hb dX8_init_338 rfl (lv_at hl 0 rfl) ?_
  refine lv_bipush (v := 10) hx hb dX8_init_339 (by decide) ?_
  refine zf_newa (N := 10) C0 hZ (zmem 228 (by decide +kernel) (by decide +kernel)) (by decide) (by decide) (by decide) ⟨Nat.le_of_ble_eq_true rfl, Nat.le_of_ble_eq_true rfl⟩ dX8_init_341 (fun q_76 H hZ => ?_)
  refine zg_put (ci := 8) (v := .ref q_76) C0 hZ hp hin fRX8_105 (zmem 1446 (by decide +kernel) (by decide +kernel)) tyX8_ok nmX8 rfl rfl rfl dX8_init_343 (fun p_42 r_77 H locs ep_42 er_77 hp hZ => ?_)
  replace hp : p_42.length = 43 := hp
  refine lv_aload_n hx hb dX8_init_346 rfl (lv_at hl 0 rfl) ?_
  refine lv_bipush (v := 8) hx hb dX8_init_347 (by decide) ?_
  refine zf_newa (N := 8) C0 hZ (zmem 228 (by decide +kernel) (by decide +kernel)) (by decide) (by decide) (by decide) ⟨Nat.le_of_ble_eq_true rfl, Nat.le_of_ble_eq_true rfl⟩ dX8_init_349 (fun q_78 H hZ => ?_)
  refine zg_put (ci := 8) (v := .ref q_78) C0 hZ hp hin fRX8_108 (zmem 1447 (by decide +kernel) (by decide +kernel)) tyX8_ok nmX8 rfl rfl rfl dX8_init_351 (fun p_43 r_79 H locs ep_43 er_79 hp hZ => ?_)
  replace hp : p_43.length = 44 := hp
  refine lv_aload_n hx hb dX8_init_354 rfl (lv_at hl 0 rfl) ?_
  refine lv_bipush (v := 8) hx hb dX8_init_355 (by decide) ?_
  refine zf_newa (N := 8) C0 hZ (zmem 228 (by decide +kernel) (by decide +kernel)) (by decide) (by decide) (by decide) ⟨Nat.le_of_ble_eq_true rfl, Nat.le_of_ble_eq_true rfl⟩ dX8_init_357 (fun q_80 H hZ => ?_)
  refine zg_put (ci := 8) (v := .ref q_80) C0 hZ hp hin fRX8_111 (zmem 1448 (by decide +kernel) (by decide +kernel)) tyX8_ok nmX8 rfl rfl rfl dX8_init_359 (fun p_44 r_81 H locs ep_44 er_81 hp hZ => ?_)
  replace hp : p_44.length = 45 := hp
  refine lv_aload_n hx hb dX8_init_362 rfl (lv_at hl 0 rfl) ?_
  refine lv_bipush (v := 8) hx hb dX8_init_363 (by decide) ?_
  refine zf_newa (N := 8) C0 hZ (zmem 228 (by decide +kernel) (by decide +kernel)) (by decide) (by decide) (by decide) ⟨Nat.le_of_ble_eq_true rfl, Nat.le_of_ble_eq_true rfl⟩ dX8_init_365 (fun q_82 H hZ => ?_)
  refine zg_put (ci := 8) (v := .ref q_82) C0 hZ hp hin fRX8_114 (zmem 1449 (by decide +kernel) (by decide +kernel)) tyX8_ok nmX8 rfl rfl rfl dX8_init_367 (fun p_45 r_83 H locs ep_45 er_83 hp hZ => ?_)
  replace hp : p_45.length = 46 := hp
  refine lv_aload_n hx hb dX8_init_370 rfl (lv_at hl 0 rfl) ?_
  refine lv_bipush (v := 10) hx hb dX8_init_371 (by decide) ?_
  refine zf_newa (N := 10) C0 hZ (zmem 228 (by decide +kernel) (by decide +kernel)) (by decide) (by decide) (by decide) ⟨Nat.le_of_ble_eq_true rfl, Nat.le_of_ble_eq_true rfl⟩ dX8_init_373 (fun q_84 H hZ => ?_)
  obtain ⟨p_46, ep_46, hp, hZ⟩ := zg_skip hZ hp
  replace hp : p_46.length = 47 := hp
  obtain ⟨p_47, ep_47, hp, hZ⟩ := zg_skip hZ hp
  replace hp : p_47.length = 48 := hp
  obtain ⟨p_48, ep_48, hp, hZ⟩ := zg_skip hZ hp
  replace hp : p_48.length = 49 := hp
  obtain ⟨p_49, ep_49, hp, hZ⟩ := zg_skip hZ hp
  replace hp : p_49.length = 50 := hp
  obtain ⟨p_50, ep_50, hp, hZ⟩ := zg_skip hZ hp
  replace hp : p_50.length = 51 := hp
  obtain ⟨p_51, ep_51, hp, hZ⟩ := zg_skip hZ hp
  replace hp : p_51.length = 52 := hp
  obtain ⟨p_52, ep_52, hp, hZ⟩ := zg_skip hZ hp
  replace hp : p_52.length = 53 := hp
  obtain ⟨p_53, ep_53, hp, hZ⟩ := zg_skip hZ hp
  replace hp : p_53.length = 54 := hp
  obtain ⟨p_54, ep_54, hp, hZ⟩ := zg_skip hZ hp
  replace hp : p_54.length = 55 := hp
  obtain ⟨p_55, ep_55, hp, hZ⟩ := zg_skip hZ hp
  replace hp : p_55.length = 56 := hp
  obtain ⟨p_56, ep_56, hp, hZ⟩ := zg_skip hZ hp
  replace hp : p_56.length = 57 := hp
  obtain ⟨p_57, ep_57, hp, hZ⟩ := zg_skip hZ hp
  replace hp : p_57.length = 58 := hp
  obtain ⟨p_58, ep_58, hp, hZ⟩ := zg_skip hZ hp
  replace hp : p_58.length = 59 := hp
  obtain ⟨p_59, ep_59, hp, hZ⟩ := zg_skip hZ hp
  replace hp : p_59.length = 60 := hp
  obtain ⟨p_60, ep_60, hp, hZ⟩ := zg_skip hZ hp
  replace hp : p_60.length = 61 := hp
  obtain ⟨p_61, ep_61, hp, hZ⟩ := zg_skip hZ hp
  replace hp : p_61.length = 62 := hp
  obtain ⟨p_62, ep_62, hp, hZ⟩ := zg_skip hZ hp
  replace hp : p_62.length = 63 := hp
  refine zg_put (ci := 8) (v := .ref q_84) C0 hZ hp hin fRX8_117 (zmem 1467 (by decide +kernel) (by decide +kernel)) tyX8_ok nmX8 rfl rfl rfl dX8_init_375 (fun p_63 r_85 H locs ep_63 er_85 hp hZ => ?_)
  replace hp : p_63.length = 64 := hp
  refine lv_aload_n hx hb dX8_init_378 rfl (lv_at hl 0 rfl) ?_
  refine lv_bipush (v := 10) hx hb dX8_init_379 (by decide) ?_
  refine zf_newa (N := 10) C0 hZ (zmem 228 (by decide +kernel) (by decide +kernel)) (by decide) (by decide) (by decide) ⟨Nat.le_of_ble_eq_true rfl, Nat.le_of_ble_eq_true rfl⟩ dX8_init_381 (fun q_86 H hZ => ?_)
  refine zg_put (ci := 8) (v := .ref q_86) C0 hZ hp hin fRX8_120 (zmem 1468 (by decide +kernel) (by decide +kernel)) tyX8_ok nmX8 rfl rfl rfl dX8_init_383 (fun p_64 r_87 H locs ep_64 er_87 hp hZ => ?_)
  replace hp : p_64.length = 65 := hp
  have e1 : p_64 ++ suf = (pre ++ [.ref q_76, .ref q_78, .ref q_80, .ref q_82, .int 0, .int 0, .int 0, .int 0, .int 0, .int 0, .int 0, .int 0, .int 0, .int 0, .int 0, .int 0, .int 0, .int 0, .int 0, .int 0, .int 0, .ref q_84, .ref q_86]) ++ suf := by simp only [ep_64, ep_63, ep_62, ep_61, ep_60, ep_59, ep_58, ep_57, ep_56, ep_55, ep_54, ep_53, ep_52, ep_51, ep_50, ep_49, ep_48, ep_47, ep_46, ep_45, ep_44, ep_43, ep_42, List.append_assoc, List.cons_append, List.nil_append]
  have e2 : r_87 = (r ++ [(q_76, .inl (V.2.1.1, (10, .inl (fun _ => 0)))), (q_78, .inl (V.2.1.1, (8, .inl (fun _ => 0)))), (q_80, .inl (V.2.1.1, (8, .inl (fun _ => 0)))), (q_82, .inl (V.2.1.1, (8, .inl (fun _ => 0)))), (q_84, .inl (V.2.1.1, (10, .inl (fun _ => 0)))), (q_86, .inl (V.2.1.1, (10, .inl (fun _ => 0))))] : va_W) := by simp only [er_87, er_85, er_83, er_81, er_79, er_77, List.append_assoc, List.cons_append, List.nil_append]
  rw [e1, e2] at hZ
  exact k q_76 q_78 q_80 q_82 q_84 q_86 H locs (by rw [List.length_append, hp0]; rfl) hZ
set_option maxHeartbeats 4000000 in
theorem kY_5 (C0 : CallFix p m c cX8_init 1 s args zT RX8) (hin : meth.name = "<init>") (hl : lv_has ls 1 [(0, .ref h0)]) (hover : va_AO "java/lang/String" s) {pre suf : List Value} {r : va_W} (hp : pre.length = 65) (hZ : zC V A s H locs ((h0, .inr (8, pre ++ (.int 0 :: .null :: .null :: .null :: .null :: .null :: .int 0 :: .int 0 :: .int 0 :: .int 0 :: .int 0 :: .null :: suf))) :: r))
    (k : ∀ (q_88 q_90 q_92 q_94 q_96 q_98 : Nat) (H : Heap) (locs : List Loc), (pre ++ ([.int 0, .ref q_88, .ref q_90, .ref q_92, .ref q_94, .ref q_96, .int 0, .int 0, .int 0, .int 0, .int 0, .ref q_98] : List Value)).length = 77 → zC V A s H locs ((h0, .inr (8, (pre ++ [.int 0, .ref q_88, .ref q_90, .ref q_92, .ref q_94, .ref q_96, .int 0, .int 0, .int 0, .int 0, .int 0, .ref q_98]) ++ suf)) :: (r ++ [(q_88, .inl (V.2.1.1, (12, .inl (fun _ => 0)))), (q_90, .inl (V.2.1.1, (12, .inl (fun _ => 0)))), (q_92, .inl (V.2.1.1, (8, .inl (fun _ => 0)))), (q_94, .inl (V.2.1.1, (8, .inl (fun _ => 0)))), (q_96, .inl (V.2.1.1, (8, .inl (fun _ => 0)))), (q_98, .inl (V.2.1.1, (26, .inl (fun _ => 0))))])) → W p l e { frames := 1, cells := 40, slots := 4924, locals := 30 } s m args below meth c H locs 34 3841 Q (F0 m 434 ls [])) : W p l e { frames := 1, cells := 40, slots := 4924, locals := 30 } s m args below meth c H locs 28 3767 Q (F0 m 386 ls []) := by
  have hx := C0.1
  have hb := C0.2.1
  have hp0 := hp
  refine lv_aload_n hx hb dX8_init_386 rfl (lv_at hl 0 rfl) ?_
  refine lv_bipush (v := 12) hx hb dX8_init_387 (by decide) ?_
  refine zf_newa (N := 12) C0 hZ (zmem 228 (by decide +kernel) (by decide +kernel)) (by decide) (by decide) (by decide) ⟨Nat.le_of_ble_eq_true rfl, Nat.le_of_ble_eq_true rfl⟩ dX8_init_389 (fun q_88 H hZ => ?_)
  obtain ⟨p_65, ep_65, hp, hZ⟩ := zg_skip hZ hp
  replace hp : p_65.length = 66 := hp
  refine zg_put (ci := 8) (v := .ref q_88) C0 hZ hp hin fRX8_123 (zmem 1470 (by decide +kernel) (by decide +kernel)) tyX8_ok nmX8 rfl rfl rfl dX8_init_391 (fun p_66 r_89 H locs ep_66 er_89 hp hZ => ?_)
  replace hp : p_66.length = 67 := hp
  refine lv_aload_n hx hb dX8_init_394 rfl (lv_at hl 0 rfl) ?_
  refine lv_bipush (v := 12) hx hb dX8_init_395 (by decide) ?_
  refine zf_newa (N := 12) C0 hZ (zmem 228 (by decide +kernel) (by decide +kernel)) (by decide) (by decide) (by decide) ⟨Nat.le_of_ble_eq_true rfl, Nat.le_of_ble_eq_true rfl⟩ dX8_init_397 (fun q_90 H hZ => ?_)
  refine zg_put (ci := 8) (v := .ref q_90) C0 hZ hp hin fRX8_126 (zmem 1471 (by decide +kernel) (by decide +kernel)) tyX8_ok nmX8 rfl rfl rfl dX8_init_399 (fun p_67 r_91 H locs ep_67 er_91 hp hZ => ?_)
  replace hp : p_67.length = 68 := hp
  refine lv_aload_n hx hb dX8_init_402 rfl (lv_at hl 0 rfl) ?_
  refine lv_bipush (v := 8) hx hb dX8_init_403 (by decide) ?_
  refine zf_newa (N := 8) C0 hZ (zmem 228 (by decide +kernel) (by decide +kernel)) (by decide) (by decide) (by decide) ⟨Nat.le_of_ble_eq_true rfl, Nat.le_of_ble_eq_true rfl⟩ dX8_init_405 (fun q_92 H hZ => ?_)
  refine zg_put (ci := 8) (v := .ref q_92) C0 hZ hp hin fRX8_129 (zmem 1472 (by decide +kernel) (by decide +kernel)) tyX8_ok nmX8 rfl rfl rfl dX8_init_407 (fun p_68 r_93 H locs ep_68 er_93 hp hZ => ?_)
  replace hp : p_68.length = 69 := hp
  refine lv_aload_n hx hb dX8_init_410 rfl (lv_at hl 0 rfl) ?_
  refine lv_bipush (v := 8) hx hb dX8_init_411 (by decide) ?_
  refine zf_newa (N := 8) C0 hZ (zmem 228 (by decide +kernel) (by decide +kernel)) (by decide) (by decide) (by decide) ⟨Nat.le_of_ble_eq_true rfl, Nat.le_of_ble_eq_true rfl⟩ dX8_init_413 (fun q_94 H hZ => ?_)
  refine zg_put (ci := 8) (v := .ref q_94) C0 hZ hp hin fRX8_132 (zmem 1473 (by decide +kernel) (by decide +kernel)) tyX8_ok nmX8 rfl rfl rfl dX8_init_415 (fun p_69 r_95 H locs ep_69 er_95 hp hZ => ?_)
  replace hp : p_69.length = 70 := hp
  refine lv_aload_n hx hb dX8_init_418 rfl (lv_at hl 0 rfl) ?_
  refine lv_bipush (v := 8) hx hb dX8_init_419 (by decide) ?_
  refine zf_newa (N := 8) C0 hZ (zmem 228 (by decide +kernel) (by decide +kernel)) (by decide) (by decide) (by decide) ⟨Nat.le_of_ble_eq_true rfl, Nat.le_of_ble_eq_true rfl⟩ dX8_init_421 (fun q_96 H hZ => ?_)
  refine zg_put (ci := 8) (v := .ref q_96) C0 hZ hp hin fRX8_135 (zmem 1474 (by decide +kernel) (by decide +kernel)) tyX8_ok nmX8 rfl rfl rfl dX8_init_423 (fun p_70 r_97 H locs ep_70 er_97 hp hZ => ?_)
  replace hp : p_70.length = 71 := hp
  refine lv_aload_n hx hb dX8_init_426 rfl (lv_at hl 0 rfl) ?_
  refine lv_bipush (v := 26) hx hb dX8_init_427 (by decide) ?_
  refine zf_newa (N := 26) C0 hZ (zmem 228 (by decide +kernel) (by decide +kernel)) (by decide) (by decide) (by decide) ⟨Nat.le_of_ble_eq_true rfl, Nat.le_of_ble_eq_true rfl⟩ dX8_init_429 (fun q_98 H hZ => ?_)
  obtain ⟨p_71, ep_71, hp, hZ⟩ := zg_skip hZ hp
  replace hp : p_71.length = 72 := hp
  obtain ⟨p_72, ep_72, hp, hZ⟩ := zg_skip hZ hp
  replace hp : p_72.length = 73 := hp
  obtain ⟨p_73, ep_73, hp, hZ⟩ := zg_skip hZ hp
  replace hp : p_73.length = 74 := hp
  obtain ⟨p_74, ep_74, hp, hZ⟩ := zg_skip hZ hp
  replace hp : p_74.length = 75 := hp
  obtain ⟨p_75, ep_75, hp, hZ⟩ := zg_skip hZ hp
  replace hp : p_75.length = 76 := hp
  refine zg_put (ci := 8) (v := .ref q_98) C0 hZ hp hin fRX8_138 (zmem 1480 (by decide +kernel) (by decide +kernel)) tyX8_ok nmX8 rfl rfl rfl dX8_init_431 (fun p_76 r_99 H locs ep_76 er_99 hp hZ => ?_)
  replace hp : p_76.length = 77 := hp
  have e1 : p_76 ++ suf = (pre ++ [.int 0, .ref q_88, .ref q_90, .ref q_92, .ref q_94, .ref q_96, .int 0, .int 0, .int 0, .int 0, .int 0, .ref q_98]) ++ suf := by simp only [ep_76, ep_75, ep_74, ep_73, ep_72, ep_71, ep_70, ep_69, ep_68, ep_67, ep_66, ep_65, List.append_assoc, List.cons_append, List.nil_append]
  have e2 : r_99 = (r ++ [(q_88, .inl (V.2.1.1, (12, .inl (fun _ => 0)))), (q_90, .inl (V.2.1.1, (12, .inl (fun _ => 0)))), (q_92, .inl (V.2.1.1, (8, .inl (fun _ => 0)))), (q_94, .inl (V.2.1.1, (8, .inl (fun _ => 0)))), (q_96, .inl (V.2.1.1, (8, .inl (fun _ => 0)))), (q_98, .inl (V.2.1.1, (26, .inl (fun _ => 0))))] : va_W) := by simp only [er_99, er_97, er_95, er_93, er_91, er_89, List.append_assoc, List.cons_append, List.nil_append]
  rw [e1, e2] at hZ
  exact k q_88 q_90 q_92 q_94 q_96 q_98 H locs (by rw [List.length_append, hp0]; rfl) hZ
set_option maxHeartbeats 4000000 in
theorem kY_6 (C0 : CallFix p m c cX8_init 1 s args zT RX8) (hin : meth.name = "<init>") (hl : lv_has ls 1 [(0, .ref h0)]) (hover : va_AO "java/lang/String" s) {pre suf : List Value} {r : va_W} (hp : pre.length = 77) (hZ : zC V A s H locs ((h0, .inr (8, pre ++ (.null :: .null :: .null :: .null :: .null :: .null :: suf))) :: r))
    (k : ∀ (q_100 q_102 q_104 q_106 q_108 q_110 : Nat) (H : Heap) (locs : List Loc), (pre ++ ([.ref q_100, .ref q_102, .ref q_104, .ref q_106, .ref q_108, .ref q_110] : List Value)).length = 83 → zC V A s H locs ((h0, .inr (8, (pre ++ [.ref q_100, .ref q_102, .ref q_104, .ref q_106, .ref q_108, .ref q_110]) ++ suf)) :: (r ++ [(q_100, .inl (V.2.1.1, (1040, .inl (fun _ => 0)))), (q_102, .inl (V.2.1.1, (12, .inl (fun _ => 0)))), (q_104, .inl (V.2.1.1, (12, .inl (fun _ => 0)))), (q_106, .inl (V.2.1.1, (8, .inl (fun _ => 0)))), (q_108, .inl (V.2.1.1, (8, .inl (fun _ => 0)))), (q_110, .inl (V.2.1.1, (3, .inl (fun _ => 0))))])) → W p l e { frames := 1, cells := 40, slots := 4924, locals := 30 } s m args below meth c H locs 40 4924 Q (F0 m 482 ls [])) : W p l e { frames := 1, cells := 40, slots := 4924, locals := 30 } s m args below meth c H locs 34 3841 Q (F0 m 434 ls []) := by
  have hx := C0.1
  have hb := C0.2.1
  have hp0 := hp
  refine lv_aload_n hx hb dX8_init_434 rfl (lv_at hl 0 rfl) ?_
  refine lv_sipush (v := 1040) hx hb dX8_init_435 (by decide) ?_
  refine zf_newa (N := 1040) C0 hZ (zmem 228 (by decide +kernel) (by decide +kernel)) (by decide) (by decide) (by decide) ⟨Nat.le_of_ble_eq_true rfl, Nat.le_of_ble_eq_true rfl⟩ dX8_init_438 (fun q_100 H hZ => ?_)
  refine zg_put (ci := 8) (v := .ref q_100) C0 hZ hp hin fRX8_141 (zmem 1481 (by decide +kernel) (by decide +kernel)) tyX8_ok nmX8 rfl rfl rfl dX8_init_440 (fun p_77 r_101 H locs ep_77 er_101 hp hZ => ?_)
  replace hp : p_77.length = 78 := hp
  refine lv_aload_n hx hb dX8_init_443 rfl (lv_at hl 0 rfl) ?_
  refine lv_bipush (v := 12) hx hb dX8_init_444 (by decide) ?_
  refine zf_newa (N := 12) C0 hZ (zmem 228 (by decide +kernel) (by decide +kernel)) (by decide) (by decide) (by decide) ⟨Nat.le_of_ble_eq_true rfl, Nat.le_of_ble_eq_true rfl⟩ dX8_init_446 (fun q_102 H hZ => ?_)
  refine zg_put (ci := 8) (v := .ref q_102) C0 hZ hp hin fRX8_144 (zmem 1482 (by decide +kernel) (by decide +kernel)) tyX8_ok nmX8 rfl rfl rfl dX8_init_448 (fun p_78 r_103 H locs ep_78 er_103 hp hZ => ?_)
  replace hp : p_78.length = 79 := hp
  refine lv_aload_n hx hb dX8_init_451 rfl (lv_at hl 0 rfl) ?_
  refine lv_bipush (v := 12) hx hb dX8_init_452 (by decide) ?_
  refine zf_newa (N := 12) C0 hZ (zmem 228 (by decide +kernel) (by decide +kernel)) (by decide) (by decide) (by decide) ⟨Nat.le_of_ble_eq_true rfl, Nat.le_of_ble_eq_true rfl⟩ dX8_init_454 (fun q_104 H hZ => ?_)
  refine zg_put (ci := 8) (v := .ref q_104) C0 hZ hp hin fRX8_147 (zmem 1483 (by decide +kernel) (by decide +kernel)) tyX8_ok nmX8 rfl rfl rfl dX8_init_456 (fun p_79 r_105 H locs ep_79 er_105 hp hZ => ?_)
  replace hp : p_79.length = 80 := hp
  refine lv_aload_n hx hb dX8_init_459 rfl (lv_at hl 0 rfl) ?_
  refine lv_bipush (v := 8) hx hb dX8_init_460 (by decide) ?_
  refine zf_newa (N := 8) C0 hZ (zmem 228 (by decide +kernel) (by decide +kernel)) (by decide) (by decide) (by decide) ⟨Nat.le_of_ble_eq_true rfl, Nat.le_of_ble_eq_true rfl⟩ dX8_init_462 (fun q_106 H hZ => ?_)
  refine zg_put (ci := 8) (v := .ref q_106) C0 hZ hp hin fRX8_150 (zmem 1484 (by decide +kernel) (by decide +kernel)) tyX8_ok nmX8 rfl rfl rfl dX8_init_464 (fun p_80 r_107 H locs ep_80 er_107 hp hZ => ?_)
  replace hp : p_80.length = 81 := hp
  refine lv_aload_n hx hb dX8_init_467 rfl (lv_at hl 0 rfl) ?_
  refine lv_bipush (v := 8) hx hb dX8_init_468 (by decide) ?_
  refine zf_newa (N := 8) C0 hZ (zmem 228 (by decide +kernel) (by decide +kernel)) (by decide) (by decide) (by decide) ⟨Nat.le_of_ble_eq_true rfl, Nat.le_of_ble_eq_true rfl⟩ dX8_init_470 (fun q_108 H hZ => ?_)
  refine zg_put (ci := 8) (v := .ref q_108) C0 hZ hp hin fRX8_153 (zmem 1485 (by decide +kernel) (by decide +kernel)) tyX8_ok nmX8 rfl rfl rfl dX8_init_472 (fun p_81 r_109 H locs ep_81 er_109 hp hZ => ?_)
  replace hp : p_81.length = 82 := hp
  refine lv_aload_n hx hb dX8_init_475 rfl (lv_at hl 0 rfl) ?_
  refine lv_iconst (v := 3) hx hb dX8_init_476 (by decide) ?_
  refine zf_newa (N := 3) C0 hZ (zmem 228 (by decide +kernel) (by decide +kernel)) (by decide) (by decide) (by decide) ⟨Nat.le_of_ble_eq_true rfl, Nat.le_of_ble_eq_true rfl⟩ dX8_init_477 (fun q_110 H hZ => ?_)
  refine zg_put (ci := 8) (v := .ref q_110) C0 hZ hp hin fRX8_156 (zmem 1486 (by decide +kernel) (by decide +kernel)) tyX8_ok nmX8 rfl rfl rfl dX8_init_479 (fun p_82 r_111 H locs ep_82 er_111 hp hZ => ?_)
  replace hp : p_82.length = 83 := hp
  have e1 : p_82 ++ suf = (pre ++ [.ref q_100, .ref q_102, .ref q_104, .ref q_106, .ref q_108, .ref q_110]) ++ suf := by simp only [ep_82, ep_81, ep_80, ep_79, ep_78, ep_77, List.append_assoc, List.cons_append, List.nil_append]
  have e2 : r_111 = (r ++ [(q_100, .inl (V.2.1.1, (1040, .inl (fun _ => 0)))), (q_102, .inl (V.2.1.1, (12, .inl (fun _ => 0)))), (q_104, .inl (V.2.1.1, (12, .inl (fun _ => 0)))), (q_106, .inl (V.2.1.1, (8, .inl (fun _ => 0)))), (q_108, .inl (V.2.1.1, (8, .inl (fun _ => 0)))), (q_110, .inl (V.2.1.1, (3, .inl (fun _ => 0))))] : va_W) := by simp only [er_111, er_109, er_107, er_105, er_103, er_101, List.append_assoc, List.cons_append, List.nil_append]
  rw [e1, e2] at hZ
  exact k q_100 q_102 q_104 q_106 q_108 q_110 H locs (by rw [List.length_append, hp0]; rfl) hZ
end ZC6
