def cW0 (V : zV) (q : Nat → Nat) (a1 : Nat) : va_W := [(q 0, .inr (0, [.ref a1, .int 0, .int 0, .int 0, .int 1, .int 0, .ref (q 1), .ref (q 2), .ref (q 3), .ref (q 4), .ref (q 5), .ref (q 6), .int (-1), .int 0, .ref (q 7), .ref (q 8), .ref (q 9), .ref (q 10)])), (q 1, .inl (V.2.1.1, (10, .inl (fun _ => 0)))), (q 2, .inl (V.2.1.1, (10, .inl (fun _ => 0)))), (q 3, .inl (V.2.1.1, (10, .inl (fun _ => 0)))), (q 4, .inl (V.2.1.1, (8, .inl (fun _ => 0)))), (q 5, .inl (V.2.1.1, (8, .inl (fun _ => 0)))), (q 6, .inl (V.2.1.1, (8, .inl (fun _ => 0)))), (q 7, .inl (V.2.1.1, (7, .inl (fun _ => 0)))), (q 8, .inl (V.2.1.1, (8, .inl (fun _ => 0)))), (q 9, .inl (V.2.1.1, (61, .inl (fun _ => 0)))), (q 10, .inl (V.2.1.1, (488, .inl (fun _ => 0))))]
set_option maxHeartbeats 8000000 in
set_option maxRecDepth 100000 in
theorem kX0_init (l : Launch) {V : zV} {h0 a1 : Nat} : zCi l yX0_init cX0_init 2 1 30 10 618 V h0 0 [.null, .int 0, .int 0, .int 0, .int 0, .int 0, .null, .null, .null, .null, .null, .null, .int 0, .int 0, .null, .null, .null, .null] [.ref a1] (fun q => cW0 V q a1) := by
  refine zCi_of (by decide) (Nat.le_of_ble_eq_true rfl) ?_
  intro p e s m below meth c A C0 hr hlk hin hZ ls hl
  generalize (.ref h0 :: [.ref a1] : List Value).toArray = args at C0 ⊢
  have hx := C0.1
  have hb := C0.2.1
  have hl : lv_has ls 2 [(0, .ref h0), (1, .ref a1)] := hl
  replace hZ : zC V A s s.heap [] ((h0, .inr (0, [.null, .int 0, .int 0, .int 0, .int 0, .int 0, .null, .null, .null, .null, .null, .null, .int 0, .int 0, .null, .null, .null, .null])) :: []) := hZ
  refine lv_aload_n hx hb dX0_init_0 rfl (lv_at hl 0 rfl) ?_
  refine zc_obj C0 hl.1 oRX0_3 dX0_init_1 ⟨Nat.le_of_ble_eq_true rfl, Nat.le_of_ble_eq_true rfl⟩ ?_
  refine lv_aload_n hx hb dX0_init_4 rfl (lv_at hl 0 rfl) ?_
  refine lv_iconst (v := 0) hx hb dX0_init_5 (by decide) ?_
  refine zc_put (ci := 0) (v := .int 0) (fs' := [.null, .int 0, .int 0, .int 0, .int 0, .int 0, .null, .null, .null, .null, .null, .null, .int 0, .int 0, .null, .null, .null, .null]) C0 hZ hin fRX0_9 (zmem 469 (by decide +kernel) (by decide +kernel)) tyX0_ok nmX0 rfl rfl rfl (by decide) rfl dX0_init_6 (fun H locs hZ => ?_)
  refine lv_aload_n hx hb dX0_init_9 rfl (lv_at hl 0 rfl) ?_
  refine lv_iconst (v := 0) hx hb dX0_init_10 (by decide) ?_
  refine zc_put (ci := 0) (v := .int 0) (fs' := [.null, .int 0, .int 0, .int 0, .int 0, .int 0, .null, .null, .null, .null, .null, .null, .int 0, .int 0, .null, .null, .null, .null]) C0 hZ hin fRX0_15 (zmem 471 (by decide +kernel) (by decide +kernel)) tyX0_ok nmX0 rfl rfl rfl (by decide) rfl dX0_init_11 (fun H locs hZ => ?_)
  refine lv_aload_n hx hb dX0_init_14 rfl (lv_at hl 0 rfl) ?_
  refine lv_iconst (v := 0) hx hb dX0_init_15 (by decide) ?_
  refine zc_put (ci := 0) (v := .int 0) (fs' := [.null, .int 0, .int 0, .int 0, .int 0, .int 0, .null, .null, .null, .null, .null, .null, .int 0, .int 0, .null, .null, .null, .null]) C0 hZ hin fRX0_18 (zmem 473 (by decide +kernel) (by decide +kernel)) tyX0_ok nmX0 rfl rfl rfl (by decide) rfl dX0_init_16 (fun H locs hZ => ?_)
  refine lv_aload_n hx hb dX0_init_19 rfl (lv_at hl 0 rfl) ?_
  refine lv_iconst (v := 1) hx hb dX0_init_20 (by decide) ?_
  refine zc_put (ci := 0) (v := .int 1) (fs' := [.null, .int 0, .int 0, .int 0, .int 1, .int 0, .null, .null, .null, .null, .null, .null, .int 0, .int 0, .null, .null, .null, .null]) C0 hZ hin fRX0_21 (zmem 475 (by decide +kernel) (by decide +kernel)) tyX0_ok nmX0 rfl rfl rfl (by decide) rfl dX0_init_21 (fun H locs hZ => ?_)
  refine lv_aload_n hx hb dX0_init_24 rfl (lv_at hl 0 rfl) ?_
  refine lv_iconst (v := 0) hx hb dX0_init_25 (by decide) ?_
  refine zc_put (ci := 0) (v := .int 0) (fs' := [.null, .int 0, .int 0, .int 0, .int 1, .int 0, .null, .null, .null, .null, .null, .null, .int 0, .int 0, .null, .null, .null, .null]) C0 hZ hin fRX0_24 (zmem 476 (by decide +kernel) (by decide +kernel)) tyX0_ok nmX0 rfl rfl rfl (by decide) rfl dX0_init_26 (fun H locs hZ => ?_)
  refine lv_aload_n hx hb dX0_init_29 rfl (lv_at hl 0 rfl) ?_
  refine lv_bipush (v := 10) hx hb dX0_init_30 (by decide) ?_
  refine zc_newa (N := 10) C0 hZ (zmem 228 (by decide +kernel) (by decide +kernel)) (by decide) (by decide) (by decide) ⟨Nat.le_of_ble_eq_true rfl, Nat.le_of_ble_eq_true rfl⟩ dX0_init_32 (fun q_1 H hZ => ?_)
  replace hZ : zC V A s H locs ((h0, .inr (0, [.null, .int 0, .int 0, .int 0, .int 1, .int 0, .null, .null, .null, .null, .null, .null, .int 0, .int 0, .null, .null, .null, .null])) :: ([] ++ [(q_1, .inl (V.2.1.1, (10, .inl (fun _ => 0))))])) := hZ
  refine zc_put (ci := 0) (v := .ref q_1) (fs' := [.null, .int 0, .int 0, .int 0, .int 1, .int 0, .ref q_1, .null, .null, .null, .null, .null, .int 0, .int 0, .null, .null, .null, .null]) C0 hZ hin fRX0_27 (zmem 478 (by decide +kernel) (by decide +kernel)) tyX0_ok nmX0 rfl rfl rfl (by decide) rfl dX0_init_34 (fun H locs hZ => ?_)
  refine lv_aload_n hx hb dX0_init_37 rfl (lv_at hl 0 rfl) ?_
  refine lv_bipush (v := 10) hx hb dX0_init_38 (by decide) ?_
  refine zc_newa (N := 10) C0 hZ (zmem 228 (by decide +kernel) (by decide +kernel)) (by decide) (by decide) (by decide) ⟨Nat.le_of_ble_eq_true rfl, Nat.le_of_ble_eq_true rfl⟩ dX0_init_40 (fun q_2 H hZ => ?_)
  replace hZ : zC V A s H locs ((h0, .inr (0, [.null, .int 0, .int 0, .int 0, .int 1, .int 0, .ref q_1, .null, .null, .null, .null, .null, .int 0, .int 0, .null, .null, .null, .null])) :: (([] ++ [(q_1, .inl (V.2.1.1, (10, .inl (fun _ => 0))))]) ++ [(q_2, .inl (V.2.1.1, (10, .inl (fun _ => 0))))])) := hZ
  refine zc_put (ci := 0) (v := .ref q_2) (fs' := [.null, .int 0, .int 0, .int 0, .int 1, .int 0, .ref q_1, .ref q_2, .null, .null, .null, .null, .int 0, .int 0, .null, .null, .null, .null]) C0 hZ hin fRX0_31 (zmem 480 (by decide +kernel) (by decide +kernel)) tyX0_ok nmX0 rfl rfl rfl (by decide) rfl dX0_init_42 (fun H locs hZ => ?_)
  refine lv_aload_n hx hb dX0_init_45 rfl (lv_at hl 0 rfl) ?_
  refine lv_bipush (v := 10) hx hb dX0_init_46 (by decide) ?_
  refine zc_newa (N := 10) C0 hZ (zmem 228 (by decide +kernel) (by decide +kernel)) (by decide) (by decide) (by decide) ⟨Nat.le_of_ble_eq_true rfl, Nat.le_of_ble_eq_true rfl⟩ dX0_init_48 (fun q_3 H hZ => ?_)
  replace hZ : zC V A s H locs ((h0, .inr (0, [.null, .int 0, .int 0, .int 0, .int 1, .int 0, .ref q_1, .ref q_2, .null, .null, .null, .null, .int 0, .int 0, .null, .null, .null, .null])) :: ((([] ++ [(q_1, .inl (V.2.1.1, (10, .inl (fun _ => 0))))]) ++ [(q_2, .inl (V.2.1.1, (10, .inl (fun _ => 0))))]) ++ [(q_3, .inl (V.2.1.1, (10, .inl (fun _ => 0))))])) := hZ
  refine zc_put (ci := 0) (v := .ref q_3) (fs' := [.null, .int 0, .int 0, .int 0, .int 1, .int 0, .ref q_1, .ref q_2, .ref q_3, .null, .null, .null, .int 0, .int 0, .null, .null, .null, .null]) C0 hZ hin fRX0_34 (zmem 482 (by decide +kernel) (by decide +kernel)) tyX0_ok nmX0 rfl rfl rfl (by decide) rfl dX0_init_50 (fun H locs hZ => ?_)
  refine lv_aload_n hx hb dX0_init_53 rfl (lv_at hl 0 rfl) ?_
  refine lv_bipush (v := 8) hx hb dX0_init_54 (by decide) ?_
  refine zc_newa (N := 8) C0 hZ (zmem 228 (by decide +kernel) (by decide +kernel)) (by decide) (by decide) (by decide) ⟨Nat.le_of_ble_eq_true rfl, Nat.le_of_ble_eq_true rfl⟩ dX0_init_56 (fun q_4 H hZ => ?_)
  replace hZ : zC V A s H locs ((h0, .inr (0, [.null, .int 0, .int 0, .int 0, .int 1, .int 0, .ref q_1, .ref q_2, .ref q_3, .null, .null, .null, .int 0, .int 0, .null, .null, .null, .null])) :: (((([] ++ [(q_1, .inl (V.2.1.1, (10, .inl (fun _ => 0))))]) ++ [(q_2, .inl (V.2.1.1, (10, .inl (fun _ => 0))))]) ++ [(q_3, .inl (V.2.1.1, (10, .inl (fun _ => 0))))]) ++ [(q_4, .inl (V.2.1.1, (8, .inl (fun _ => 0))))])) := hZ
  refine zc_put (ci := 0) (v := .ref q_4) (fs' := [.null, .int 0, .int 0, .int 0, .int 1, .int 0, .ref q_1, .ref q_2, .ref q_3, .ref q_4, .null, .null, .int 0, .int 0, .null, .null, .null, .null]) C0 hZ hin fRX0_37 (zmem 484 (by decide +kernel) (by decide +kernel)) tyX0_ok nmX0 rfl rfl rfl (by decide) rfl dX0_init_58 (fun H locs hZ => ?_)
  refine lv_aload_n hx hb dX0_init_61 rfl (lv_at hl 0 rfl) ?_
  refine lv_bipush (v := 8) hx hb dX0_init_62 (by decide) ?_
  refine zc_newa (N := 8) C0 hZ (zmem 228 (by decide +kernel) (by decide +kernel)) (by decide) (by decide) (by decide) ⟨Nat.le_of_ble_eq_true rfl, Nat.le_of_ble_eq_true rfl⟩ dX0_init_64 (fun q_5 H hZ => ?_)
  replace hZ : zC V A s H locs ((h0, .inr (0, [.null, .int 0, .int 0, .int 0, .int 1, .int 0, .ref q_1, .ref q_2, .ref q_3, .ref q_4, .null, .null, .int 0, .int 0, .null, .null, .null, .null])) :: ((((([] ++ [(q_1, .inl (V.2.1.1, (10, .inl (fun _ => 0))))]) ++ [(q_2, .inl (V.2.1.1, (10, .inl (fun _ => 0))))]) ++ [(q_3, .inl (V.2.1.1, (10, .inl (fun _ => 0))))]) ++ [(q_4, .inl (V.2.1.1, (8, .inl (fun _ => 0))))]) ++ [(q_5, .inl (V.2.1.1, (8, .inl (fun _ => 0))))])) := hZ
  refine zc_put (ci := 0) (v := .ref q_5) (fs' := [.null, .int 0, .int 0, .int 0, .int 1, .int 0, .ref q_1, .ref q_2, .ref q_3, .ref q_4, .ref q_5, .null, .int 0, .int 0, .null, .null, .null, .null]) C0 hZ hin fRX0_40 (zmem 485 (by decide +kernel) (by decide +kernel)) tyX0_ok nmX0 rfl rfl rfl (by decide) rfl dX0_init_66 (fun H locs hZ => ?_)
  refine lv_aload_n hx hb dX0_init_69 rfl (lv_at hl 0 rfl) ?_
  refine lv_bipush (v := 8) hx hb dX0_init_70 (by decide) ?_
  refine zc_newa (N := 8) C0 hZ (zmem 228 (by decide +kernel) (by decide +kernel)) (by decide) (by decide) (by decide) ⟨Nat.le_of_ble_eq_true rfl, Nat.le_of_ble_eq_true rfl⟩ dX0_init_72 (fun q_6 H hZ => ?_)
  replace hZ : zC V A s H locs ((h0, .inr (0, [.null, .int 0, .int 0, .int 0, .int 1, .int 0, .ref q_1, .ref q_2, .ref q_3, .ref q_4, .ref q_5, .null, .int 0, .int 0, .null, .null, .null, .null])) :: (((((([] ++ [(q_1, .inl (V.2.1.1, (10, .inl (fun _ => 0))))]) ++ [(q_2, .inl (V.2.1.1, (10, .inl (fun _ => 0))))]) ++ [(q_3, .inl (V.2.1.1, (10, .inl (fun _ => 0))))]) ++ [(q_4, .inl (V.2.1.1, (8, .inl (fun _ => 0))))]) ++ [(q_5, .inl (V.2.1.1, (8, .inl (fun _ => 0))))]) ++ [(q_6, .inl (V.2.1.1, (8, .inl (fun _ => 0))))])) := hZ
  refine zc_put (ci := 0) (v := .ref q_6) (fs' := [.null, .int 0, .int 0, .int 0, .int 1, .int 0, .ref q_1, .ref q_2, .ref q_3, .ref q_4, .ref q_5, .ref q_6, .int 0, .int 0, .null, .null, .null, .null]) C0 hZ hin fRX0_43 (zmem 486 (by decide +kernel) (by decide +kernel)) tyX0_ok nmX0 rfl rfl rfl (by decide) rfl dX0_init_74 (fun H locs hZ => ?_)
  refine lv_aload_n hx hb dX0_init_77 rfl (lv_at hl 0 rfl) ?_
  refine lv_iconst (v := (-1)) hx hb dX0_init_78 (by decide) ?_
  refine zc_put (ci := 0) (v := .int (-1)) (fs' := [.null, .int 0, .int 0, .int 0, .int 1, .int 0, .ref q_1, .ref q_2, .ref q_3, .ref q_4, .ref q_5, .ref q_6, .int (-1), .int 0, .null, .null, .null, .null]) C0 hZ hin fRX0_46 (zmem 487 (by decide +kernel) (by decide +kernel)) tyX0_ok nmX0 rfl rfl rfl (by decide) rfl dX0_init_79 (fun H locs hZ => ?_)
  refine lv_aload_n hx hb dX0_init_82 rfl (lv_at hl 0 rfl) ?_
  refine lv_iconst (v := 0) hx hb dX0_init_83 (by decide) ?_
  refine zc_put (ci := 0) (v := .int 0) (fs' := [.null, .int 0, .int 0, .int 0, .int 1, .int 0, .ref q_1, .ref q_2, .ref q_3, .ref q_4, .ref q_5, .ref q_6, .int (-1), .int 0, .null, .null, .null, .null]) C0 hZ hin fRX0_49 (zmem 488 (by decide +kernel) (by decide +kernel)) tyX0_ok nmX0 rfl rfl rfl (by decide) rfl dX0_init_84 (fun H locs hZ => ?_)
  refine lv_aload_n hx hb dX0_init_87 rfl (lv_at hl 0 rfl) ?_
  refine lv_bipush (v := 7) hx hb dX0_init_88 (by decide) ?_
  refine zc_newa (N := 7) C0 hZ (zmem 228 (by decide +kernel) (by decide +kernel)) (by decide) (by decide) (by decide) ⟨Nat.le_of_ble_eq_true rfl, Nat.le_of_ble_eq_true rfl⟩ dX0_init_90 (fun q_7 H hZ => ?_)
  replace hZ : zC V A s H locs ((h0, .inr (0, [.null, .int 0, .int 0, .int 0, .int 1, .int 0, .ref q_1, .ref q_2, .ref q_3, .ref q_4, .ref q_5, .ref q_6, .int (-1), .int 0, .null, .null, .null, .null])) :: ((((((([] ++ [(q_1, .inl (V.2.1.1, (10, .inl (fun _ => 0))))]) ++ [(q_2, .inl (V.2.1.1, (10, .inl (fun _ => 0))))]) ++ [(q_3, .inl (V.2.1.1, (10, .inl (fun _ => 0))))]) ++ [(q_4, .inl (V.2.1.1, (8, .inl (fun _ => 0))))]) ++ [(q_5, .inl (V.2.1.1, (8, .inl (fun _ => 0))))]) ++ [(q_6, .inl (V.2.1.1, (8, .inl (fun _ => 0))))]) ++ [(q_7, .inl (V.2.1.1, (7, .inl (fun _ => 0))))])) := hZ
  refine zc_put (ci := 0) (v := .ref q_7) (fs' := [.null, .int 0, .int 0, .int 0, .int 1, .int 0, .ref q_1, .ref q_2, .ref q_3, .ref q_4, .ref q_5, .ref q_6, .int (-1), .int 0, .ref q_7, .null, .null, .null]) C0 hZ hin fRX0_52 (zmem 489 (by decide +kernel) (by decide +kernel)) tyX0_ok nmX0 rfl rfl rfl (by decide) rfl dX0_init_92 (fun H locs hZ => ?_)
  refine lv_aload_n hx hb dX0_init_95 rfl (lv_at hl 0 rfl) ?_
  refine lv_bipush (v := 8) hx hb dX0_init_96 (by decide) ?_
  refine zc_newa (N := 8) C0 hZ (zmem 228 (by decide +kernel) (by decide +kernel)) (by decide) (by decide) (by decide) ⟨Nat.le_of_ble_eq_true rfl, Nat.le_of_ble_eq_true rfl⟩ dX0_init_98 (fun q_8 H hZ => ?_)
  replace hZ : zC V A s H locs ((h0, .inr (0, [.null, .int 0, .int 0, .int 0, .int 1, .int 0, .ref q_1, .ref q_2, .ref q_3, .ref q_4, .ref q_5, .ref q_6, .int (-1), .int 0, .ref q_7, .null, .null, .null])) :: (((((((([] ++ [(q_1, .inl (V.2.1.1, (10, .inl (fun _ => 0))))]) ++ [(q_2, .inl (V.2.1.1, (10, .inl (fun _ => 0))))]) ++ [(q_3, .inl (V.2.1.1, (10, .inl (fun _ => 0))))]) ++ [(q_4, .inl (V.2.1.1, (8, .inl (fun _ => 0))))]) ++ [(q_5, .inl (V.2.1.1, (8, .inl (fun _ => 0))))]) ++ [(q_6, .inl (V.2.1.1, (8, .inl (fun _ => 0))))]) ++ [(q_7, .inl (V.2.1.1, (7, .inl (fun _ => 0))))]) ++ [(q_8, .inl (V.2.1.1, (8, .inl (fun _ => 0))))])) := hZ
  refine zc_put (ci := 0) (v := .ref q_8) (fs' := [.null, .int 0, .int 0, .int 0, .int 1, .int 0, .ref q_1, .ref q_2, .ref q_3, .ref q_4, .ref q_5, .ref q_6, .int (-1), .int 0, .ref q_7, .ref q_8, .null, .null]) C0 hZ hin fRX0_55 (zmem 490 (by decide +kernel) (by decide +kernel)) tyX0_ok nmX0 rfl rfl rfl (by decide) rfl dX0_init_100 (fun H locs hZ => ?_)
  refine lv_aload_n hx hb dX0_init_103 rfl (lv_at hl 0 rfl) ?_
  refine lv_bipush (v := 61) hx hb dX0_init_104 (by decide) ?_
  refine zc_newa (N := 61) C0 hZ (zmem 228 (by decide +kernel) (by decide +kernel)) (by decide) (by decide) (by decide) ⟨Nat.le_of_ble_eq_true rfl, Nat.le_of_ble_eq_true rfl⟩ dX0_init_106 (fun q_9 H hZ => ?_)
  replace hZ : zC V A s H locs ((h0, .inr (0, [.null, .int 0, .int 0, .int 0, .int 1, .int 0, .ref q_1, .ref q_2, .ref q_3, .ref q_4, .ref q_5, .ref q_6, .int (-1), .int 0, .ref q_7, .ref q_8, .null, .null])) :: ((((((((([] ++ [(q_1, .inl (V.2.1.1, (10, .inl (fun _ => 0))))]) ++ [(q_2, .inl (V.2.1.1, (10, .inl (fun _ => 0))))]) ++ [(q_3, .inl (V.2.1.1, (10, .inl (fun _ => 0))))]) ++ [(q_4, .inl (V.2.1.1, (8, .inl (fun _ => 0))))]) ++ [(q_5, .inl (V.2.1.1, (8, .inl (fun _ => 0))))]) ++ [(q_6, .inl (V.2.1.1, (8, .inl (fun _ => 0))))]) ++ [(q_7, .inl (V.2.1.1, (7, .inl (fun _ => 0))))]) ++ [(q_8, .inl (V.2.1.1, (8, .inl (fun _ => 0))))]) ++ [(q_9, .inl (V.2.1.1, (61, .inl (fun _ => 0))))])) := hZ
  refine zc_put (ci := 0) (v := .ref q_9) (fs' := [.null, .int 0, .int 0, .int 0, .int 1, .int 0, .ref q_1, .ref q_2, .ref q_3, .ref q_4, .ref q_5, .ref q_6, .int (-1), .int 0, .ref q_7, .ref q_8, .ref q_9, .null]) C0 hZ hin fRX0_58 (zmem 492 (by decide +kernel) (by decide +kernel)) tyX0_ok nmX0 rfl rfl rfl (by decide) rfl dX0_init_108 (fun H locs hZ => ?_)
  refine lv_aload_n hx hb dX0_init_111 rfl (lv_at hl 0 rfl) ?_
  refine lv_sipush (v := 488) hx hb dX0_init_112 (by decide) ?_
  refine zc_newa (N := 488) C0 hZ (zmem 228 (by decide +kernel) (by decide +kernel)) (by decide) (by decide) (by decide) ⟨Nat.le_of_ble_eq_true rfl, Nat.le_of_ble_eq_true rfl⟩ dX0_init_115 (fun q_10 H hZ => ?_)
  replace hZ : zC V A s H locs ((h0, .inr (0, [.null, .int 0, .int 0, .int 0, .int 1, .int 0, .ref q_1, .ref q_2, .ref q_3, .ref q_4, .ref q_5, .ref q_6, .int (-1), .int 0, .ref q_7, .ref q_8, .ref q_9, .null])) :: (((((((((([] ++ [(q_1, .inl (V.2.1.1, (10, .inl (fun _ => 0))))]) ++ [(q_2, .inl (V.2.1.1, (10, .inl (fun _ => 0))))]) ++ [(q_3, .inl (V.2.1.1, (10, .inl (fun _ => 0))))]) ++ [(q_4, .inl (V.2.1.1, (8, .inl (fun _ => 0))))]) ++ [(q_5, .inl (V.2.1.1, (8, .inl (fun _ => 0))))]) ++ [(q_6, .inl (V.2.1.1, (8, .inl (fun _ => 0))))]) ++ [(q_7, .inl (V.2.1.1, (7, .inl (fun _ => 0))))]) ++ [(q_8, .inl (V.2.1.1, (8, .inl (fun _ => 0))))]) ++ [(q_9, .inl (V.2.1.1, (61, .inl (fun _ => 0))))]) ++ [(q_10, .inl (V.2.1.1, (488, .inl (fun _ => 0))))])) := hZ
  refine zc_put (ci := 0) (v := .ref q_10) (fs' := [.null, .int 0, .int 0, .int 0, .int 1, .int 0, .ref q_1, .ref q_2, .ref q_3, .ref q_4, .ref q_5, .ref q_6, .int (-1), .int 0, .ref q_7, .ref q_8, .ref q_9, .ref q_10]) C0 hZ hin fRX0_61 (zmem 494 (by decide +kernel) (by decide +kernel)) tyX0_ok nmX0 rfl rfl rfl (by decide) rfl dX0_init_117 (fun H locs hZ => ?_)
  refine lv_aload_n hx hb dX0_init_120 rfl (lv_at hl 0 rfl) ?_
  refine lv_aload_n hx hb dX0_init_121 rfl (lv_at hl 1 rfl) ?_
  refine zc_put (ci := 0) (v := .ref a1) (fs' := [.ref a1, .int 0, .int 0, .int 0, .int 1, .int 0, .ref q_1, .ref q_2, .ref q_3, .ref q_4, .ref q_5, .ref q_6, .int (-1), .int 0, .ref q_7, .ref q_8, .ref q_9, .ref q_10]) C0 hZ hin fRX0_64 (zmem 468 (by decide +kernel) (by decide +kernel)) tyX0_ok nmX0 rfl rfl rfl (by decide) rfl dX0_init_122 (fun H locs hZ => ?_)
  exact zc_vret C0 (fun i => ([h0, q_1, q_2, q_3, q_4, q_5, q_6, q_7, q_8, q_9, q_10] : List Nat).getD i 0) [0, 1, 2, 3, 4, 5, 6, 7, 8, 9, 10] hr hlk hZ rfl rfl (by decide) ⟨Nat.le_of_ble_eq_true rfl, Nat.le_of_ble_eq_true rfl⟩ dX0_init_125
