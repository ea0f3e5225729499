def cW6 (V : zV) (q : Nat → Nat) : va_W := [(q 0, .inr (6, [.int 0, .int 0, .int 0, .int 1, .int 0, .int 0, .ref (q 1), .ref (q 2), .int 0, .ref (q 3), .int 0, .ref (q 4), .ref (q 5), .int 0, .ref (q 6), .ref (q 7), .ref (q 8)])), (q 1, .inl (V.2.1.1, (10, .inl (fun _ => 0)))), (q 2, .inl (V.2.1.1, (10, .inl (fun _ => 0)))), (q 3, .inl (V.2.1.1, (1040, .inl (fun _ => 0)))), (q 4, .inl (V.2.1.1, (12, .inl (fun _ => 0)))), (q 5, .inl (V.2.1.1, (12, .inl (fun _ => 0)))), (q 6, .inl (V.2.1.1, (8, .inl (fun _ => 0)))), (q 7, .inl (V.2.1.1, (8, .inl (fun _ => 0)))), (q 8, .inl (V.2.1.1, (3, .inl (fun _ => 0))))]
set_option maxHeartbeats 8000000 in
set_option maxRecDepth 100000 in
theorem kX6_init (l : Launch) {V : zV} {h0 : Nat} : zCi l yX6_init cX6_init 1 1 30 8 1103 V h0 6 [.int 0, .int 0, .int 0, .int 0, .int 0, .int 0, .null, .null, .int 0, .null, .int 0, .null, .null, .int 0, .null, .null, .null] [] (fun q => cW6 V q) := by
  refine zCi_of (by decide) (Nat.le_of_ble_eq_true rfl) ?_
  intro p e s m below meth c A C0 hr hlk hin hZ ls hl
  generalize (.ref h0 :: [] : List Value).toArray = args at C0 ⊢
  have hx := C0.1
  have hb := C0.2.1
  have hl : lv_has ls 1 [(0, .ref h0)] := hl
  replace hZ : zC V A s s.heap [] ((h0, .inr (6, [.int 0, .int 0, .int 0, .int 0, .int 0, .int 0, .null, .null, .int 0, .null, .int 0, .null, .null, .int 0, .null, .null, .null])) :: []) := hZ
  refine lv_aload_n hx hb dX6_init_0 rfl (lv_at hl 0 rfl) ?_
  refine zc_obj C0 hl.1 oRX6_3 dX6_init_1 ⟨Nat.le_of_ble_eq_true rfl, Nat.le_of_ble_eq_true rfl⟩ ?_
  refine lv_aload_n hx hb dX6_init_4 rfl (lv_at hl 0 rfl) ?_
  refine lv_iconst (v := 0) hx hb dX6_init_5 (by decide) ?_
  refine zc_put (ci := 6) (v := .int 0) (fs' := [.int 0, .int 0, .int 0, .int 0, .int 0, .int 0, .null, .null, .int 0, .null, .int 0, .null, .null, .int 0, .null, .null, .null]) C0 hZ hin fRX6_9 (zmem 388 (by decide +kernel) (by decide +kernel)) tyX6_ok nmX6 rfl rfl rfl (Nat.le_of_ble_eq_true rfl) rfl dX6_init_6 (fun H locs hZ => ?_)
  refine lv_aload_n hx hb dX6_init_9 rfl (lv_at hl 0 rfl) ?_
  refine lv_iconst (v := 0) hx hb dX6_init_10 (by decide) ?_
  refine zc_put (ci := 6) (v := .int 0) (fs' := [.int 0, .int 0, .int 0, .int 0, .int 0, .int 0, .null, .null, .int 0, .null, .int 0, .null, .null, .int 0, .null, .null, .null]) C0 hZ hin fRX6_15 (zmem 391 (by decide +kernel) (by decide +kernel)) tyX6_ok nmX6 rfl rfl rfl (Nat.le_of_ble_eq_true rfl) rfl dX6_init_11 (fun H locs hZ => ?_)
  refine lv_aload_n hx hb dX6_init_14 rfl (lv_at hl 0 rfl) ?_
  refine lv_iconst (v := 0) hx hb dX6_init_15 (by decide) ?_
  refine zc_put (ci := 6) (v := .int 0) (fs' := [.int 0, .int 0, .int 0, .int 0, .int 0, .int 0, .null, .null, .int 0, .null, .int 0, .null, .null, .int 0, .null, .null, .null]) C0 hZ hin fRX6_18 (zmem 394 (by decide +kernel) (by decide +kernel)) tyX6_ok nmX6 rfl rfl rfl (Nat.le_of_ble_eq_true rfl) rfl dX6_init_16 (fun H locs hZ => ?_)
  refine lv_aload_n hx hb dX6_init_19 rfl (lv_at hl 0 rfl) ?_
  refine lv_iconst (v := 1) hx hb dX6_init_20 (by decide) ?_
  refine zc_put (ci := 6) (v := .int 1) (fs' := [.int 0, .int 0, .int 0, .int 1, .int 0, .int 0, .null, .null, .int 0, .null, .int 0, .null, .null, .int 0, .null, .null, .null]) C0 hZ hin fRX6_21 (zmem 397 (by decide +kernel) (by decide +kernel)) tyX6_ok nmX6 rfl rfl rfl (Nat.le_of_ble_eq_true rfl) rfl dX6_init_21 (fun H locs hZ => ?_)
  refine lv_aload_n hx hb dX6_init_24 rfl (lv_at hl 0 rfl) ?_
  refine lv_iconst (v := 0) hx hb dX6_init_25 (by decide) ?_
  refine zc_put (ci := 6) (v := .int 0) (fs' := [.int 0, .int 0, .int 0, .int 1, .int 0, .int 0, .null, .null, .int 0, .null, .int 0, .null, .null, .int 0, .null, .null, .null]) C0 hZ hin fRX6_24 (zmem 400 (by decide +kernel) (by decide +kernel)) tyX6_ok nmX6 rfl rfl rfl (Nat.le_of_ble_eq_true rfl) rfl dX6_init_26 (fun H locs hZ => ?_)
  refine lv_aload_n hx hb dX6_init_29 rfl (lv_at hl 0 rfl) ?_
  refine lv_iconst (v := 0) hx hb dX6_init_30 (by decide) ?_
  refine zc_put (ci := 6) (v := .int 0) (fs' := [.int 0, .int 0, .int 0, .int 1, .int 0, .int 0, .null, .null, .int 0, .null, .int 0, .null, .null, .int 0, .null, .null, .null]) C0 hZ hin fRX6_27 (zmem 402 (by decide +kernel) (by decide +kernel)) tyX6_ok nmX6 rfl rfl rfl (Nat.le_of_ble_eq_true rfl) rfl dX6_init_31 (fun H locs hZ => ?_)
  refine lv_aload_n hx hb dX6_init_34 rfl (lv_at hl 0 rfl) ?_
  refine lv_bipush (v := 10) hx hb dX6_init_35 (by decide) ?_
  refine zc_newa (N := 10) C0 hZ (zmem 228 (by decide +kernel) (by decide +kernel)) (by decide) (by decide) (by decide) ⟨Nat.le_of_ble_eq_true rfl, Nat.le_of_ble_eq_true rfl⟩ dX6_init_37 (fun q_1 H hZ => ?_)
  replace hZ : zC V A s H _ ((h0, .inr (6, [.int 0, .int 0, .int 0, .int 1, .int 0, .int 0, .null, .null, .int 0, .null, .int 0, .null, .null, .int 0, .null, .null, .null])) :: ([] ++ [(q_1, .inl (V.2.1.1, (10, .inl (fun _ => 0))))])) := hZ
  refine zc_put (ci := 6) (v := .ref q_1) (fs' := [.int 0, .int 0, .int 0, .int 1, .int 0, .int 0, .ref q_1, .null, .int 0, .null, .int 0, .null, .null, .int 0, .null, .null, .null]) C0 hZ hin fRX6_30 (zmem 404 (by decide +kernel) (by decide +kernel)) tyX6_ok nmX6 rfl rfl rfl (Nat.le_of_ble_eq_true rfl) rfl dX6_init_39 (fun H locs hZ => ?_)
  refine lv_aload_n hx hb dX6_init_42 rfl (lv_at hl 0 rfl) ?_
  refine lv_bipush (v := 10) hx hb dX6_init_43 (by decide) ?_
  refine zc_newa (N := 10) C0 hZ (zmem 228 (by decide +kernel) (by decide +kernel)) (by decide) (by decide) (by decide) ⟨Nat.le_of_ble_eq_true rfl, Nat.le_of_ble_eq_true rfl⟩ dX6_init_45 (fun q_2 H hZ => ?_)
  replace hZ : zC V A s H _ ((h0, .inr (6, [.int 0, .int 0, .int 0, .int 1, .int 0, .int 0, .ref q_1, .null, .int 0, .null, .int 0, .null, .null, .int 0, .null, .null, .null])) :: (([] ++ [(q_1, .inl (V.2.1.1, (10, .inl (fun _ => 0))))]) ++ [(q_2, .inl (V.2.1.1, (10, .inl (fun _ => 0))))])) := hZ
  refine zc_put (ci := 6) (v := .ref q_2) (fs' := [.int 0, .int 0, .int 0, .int 1, .int 0, .int 0, .ref q_1, .ref q_2, .int 0, .null, .int 0, .null, .null, .int 0, .null, .null, .null]) C0 hZ hin fRX6_34 (zmem 407 (by decide +kernel) (by decide +kernel)) tyX6_ok nmX6 rfl rfl rfl (Nat.le_of_ble_eq_true rfl) rfl dX6_init_47 (fun H locs hZ => ?_)
  refine lv_aload_n hx hb dX6_init_50 rfl (lv_at hl 0 rfl) ?_
  refine lv_iconst (v := 0) hx hb dX6_init_51 (by decide) ?_
  refine zc_put (ci := 6) (v := .int 0) (fs' := [.int 0, .int 0, .int 0, .int 1, .int 0, .int 0, .ref q_1, .ref q_2, .int 0, .null, .int 0, .null, .null, .int 0, .null, .null, .null]) C0 hZ hin fRX6_37 (zmem 410 (by decide +kernel) (by decide +kernel)) tyX6_ok nmX6 rfl rfl rfl (Nat.le_of_ble_eq_true rfl) rfl dX6_init_52 (fun H locs hZ => ?_)
  refine lv_aload_n hx hb dX6_init_55 rfl (lv_at hl 0 rfl) ?_
  refine lv_sipush (v := 1040) hx hb dX6_init_56 (by decide) ?_
  refine zc_newa (N := 1040) C0 hZ (zmem 228 (by decide +kernel) (by decide +kernel)) (by decide) (by decide) (by decide) ⟨Nat.le_of_ble_eq_true rfl, Nat.le_of_ble_eq_true rfl⟩ dX6_init_59 (fun q_3 H hZ => ?_)
  replace hZ : zC V A s H _ ((h0, .inr (6, [.int 0, .int 0, .int 0, .int 1, .int 0, .int 0, .ref q_1, .ref q_2, .int 0, .null, .int 0, .null, .null, .int 0, .null, .null, .null])) :: ((([] ++ [(q_1, .inl (V.2.1.1, (10, .inl (fun _ => 0))))]) ++ [(q_2, .inl (V.2.1.1, (10, .inl (fun _ => 0))))]) ++ [(q_3, .inl (V.2.1.1, (1040, .inl (fun _ => 0))))])) := hZ
  refine zc_put (ci := 6) (v := .ref q_3) (fs' := [.int 0, .int 0, .int 0, .int 1, .int 0, .int 0, .ref q_1, .ref q_2, .int 0, .ref q_3, .int 0, .null, .null, .int 0, .null, .null, .null]) C0 hZ hin fRX6_40 (zmem 412 (by decide +kernel) (by decide +kernel)) tyX6_ok nmX6 rfl rfl rfl (Nat.le_of_ble_eq_true rfl) rfl dX6_init_61 (fun H locs hZ => ?_)
  refine lv_aload_n hx hb dX6_init_64 rfl (lv_at hl 0 rfl) ?_
  refine lv_iconst (v := 0) hx hb dX6_init_65 (by decide) ?_
  refine zc_put (ci := 6) (v := .int 0) (fs' := [.int 0, .int 0, .int 0, .int 1, .int 0, .int 0, .ref q_1, .ref q_2, .int 0, .ref q_3, .int 0, .null, .null, .int 0, .null, .null, .null]) C0 hZ hin fRX6_43 (zmem 413 (by decide +kernel) (by decide +kernel)) tyX6_ok nmX6 rfl rfl rfl (Nat.le_of_ble_eq_true rfl) rfl dX6_init_66 (fun H locs hZ => ?_)
  refine lv_aload_n hx hb dX6_init_69 rfl (lv_at hl 0 rfl) ?_
  refine lv_bipush (v := 12) hx hb dX6_init_70 (by decide) ?_
  refine zc_newa (N := 12) C0 hZ (zmem 228 (by decide +kernel) (by decide +kernel)) (by decide) (by decide) (by decide) ⟨Nat.le_of_ble_eq_true rfl, Nat.le_of_ble_eq_true rfl⟩ dX6_init_72 (fun q_4 H hZ => ?_)
  replace hZ : zC V A s H _ ((h0, .inr (6, [.int 0, .int 0, .int 0, .int 1, .int 0, .int 0, .ref q_1, .ref q_2, .int 0, .ref q_3, .int 0, .null, .null, .int 0, .null, .null, .null])) :: (((([] ++ [(q_1, .inl (V.2.1.1, (10, .inl (fun _ => 0))))]) ++ [(q_2, .inl (V.2.1.1, (10, .inl (fun _ => 0))))]) ++ [(q_3, .inl (V.2.1.1, (1040, .inl (fun _ => 0))))]) ++ [(q_4, .inl (V.2.1.1, (12, .inl (fun _ => 0))))])) := hZ
  refine zc_put (ci := 6) (v := .ref q_4) (fs' := [.int 0, .int 0, .int 0, .int 1, .int 0, .int 0, .ref q_1, .ref q_2, .int 0, .ref q_3, .int 0, .ref q_4, .null, .int 0, .null, .null, .null]) C0 hZ hin fRX6_46 (zmem 415 (by decide +kernel) (by decide +kernel)) tyX6_ok nmX6 rfl rfl rfl (Nat.le_of_ble_eq_true rfl) rfl dX6_init_74 (fun H locs hZ => ?_)
  refine lv_aload_n hx hb dX6_init_77 rfl (lv_at hl 0 rfl) ?_
  refine lv_bipush (v := 12) hx hb dX6_init_78 (by decide) ?_
  refine zc_newa (N := 12) C0 hZ (zmem 228 (by decide +kernel) (by decide +kernel)) (by decide) (by decide) (by decide) ⟨Nat.le_of_ble_eq_true rfl, Nat.le_of_ble_eq_true rfl⟩ dX6_init_80 (fun q_5 H hZ => ?_)
  replace hZ : zC V A s H _ ((h0, .inr (6, [.int 0, .int 0, .int 0, .int 1, .int 0, .int 0, .ref q_1, .ref q_2, .int 0, .ref q_3, .int 0, .ref q_4, .null, .int 0, .null, .null, .null])) :: ((((([] ++ [(q_1, .inl (V.2.1.1, (10, .inl (fun _ => 0))))]) ++ [(q_2, .inl (V.2.1.1, (10, .inl (fun _ => 0))))]) ++ [(q_3, .inl (V.2.1.1, (1040, .inl (fun _ => 0))))]) ++ [(q_4, .inl (V.2.1.1, (12, .inl (fun _ => 0))))]) ++ [(q_5, .inl (V.2.1.1, (12, .inl (fun _ => 0))))])) := hZ
  refine zc_put (ci := 6) (v := .ref q_5) (fs' := [.int 0, .int 0, .int 0, .int 1, .int 0, .int 0, .ref q_1, .ref q_2, .int 0, .ref q_3, .int 0, .ref q_4, .ref q_5, .int 0, .null, .null, .null]) C0 hZ hin fRX6_49 (zmem 417 (by decide +kernel) (by decide +kernel)) tyX6_ok nmX6 rfl rfl rfl (Nat.le_of_ble_eq_true rfl) rfl dX6_init_82 (fun H locs hZ => ?_)
  refine lv_aload_n hx hb dX6_init_85 rfl (lv_at hl 0 rfl) ?_
  refine lv_iconst (v := 0) hx hb dX6_init_86 (by decide) ?_
  refine zc_put (ci := 6) (v := .int 0) (fs' := [.int 0, .int 0, .int 0, .int 1, .int 0, .int 0, .ref q_1, .ref q_2, .int 0, .ref q_3, .int 0, .ref q_4, .ref q_5, .int 0, .null, .null, .null]) C0 hZ hin fRX6_52 (zmem 419 (by decide +kernel) (by decide +kernel)) tyX6_ok nmX6 rfl rfl rfl (Nat.le_of_ble_eq_true rfl) rfl dX6_init_87 (fun H locs hZ => ?_)
  refine lv_aload_n hx hb dX6_init_90 rfl (lv_at hl 0 rfl) ?_
  refine lv_bipush (v := 8) hx hb dX6_init_91 (by decide) ?_
  refine zc_newa (N := 8) C0 hZ (zmem 228 (by decide +kernel) (by decide +kernel)) (by decide) (by decide) (by decide) ⟨Nat.le_of_ble_eq_true rfl, Nat.le_of_ble_eq_true rfl⟩ dX6_init_93 (fun q_6 H hZ => ?_)
  replace hZ : zC V A s H _ ((h0, .inr (6, [.int 0, .int 0, .int 0, .int 1, .int 0, .int 0, .ref q_1, .ref q_2, .int 0, .ref q_3, .int 0, .ref q_4, .ref q_5, .int 0, .null, .null, .null])) :: (((((([] ++ [(q_1, .inl (V.2.1.1, (10, .inl (fun _ => 0))))]) ++ [(q_2, .inl (V.2.1.1, (10, .inl (fun _ => 0))))]) ++ [(q_3, .inl (V.2.1.1, (1040, .inl (fun _ => 0))))]) ++ [(q_4, .inl (V.2.1.1, (12, .inl (fun _ => 0))))]) ++ [(q_5, .inl (V.2.1.1, (12, .inl (fun _ => 0))))]) ++ [(q_6, .inl (V.2.1.1, (8, .inl (fun _ => 0))))])) := hZ
  refine zc_put (ci := 6) (v := .ref q_6) (fs' := [.int 0, .int 0, .int 0, .int 1, .int 0, .int 0, .ref q_1, .ref q_2, .int 0, .ref q_3, .int 0, .ref q_4, .ref q_5, .int 0, .ref q_6, .null, .null]) C0 hZ hin fRX6_55 (zmem 421 (by decide +kernel) (by decide +kernel)) tyX6_ok nmX6 rfl rfl rfl (Nat.le_of_ble_eq_true rfl) rfl dX6_init_95 (fun H locs hZ => ?_)
  refine lv_aload_n hx hb dX6_init_98 rfl (lv_at hl 0 rfl) ?_
  refine lv_bipush (v := 8) hx hb dX6_init_99 (by decide) ?_
  refine zc_newa (N := 8) C0 hZ (zmem 228 (by decide +kernel) (by decide +kernel)) (by decide) (by decide) (by decide) ⟨Nat.le_of_ble_eq_true rfl, Nat.le_of_ble_eq_true rfl⟩ dX6_init_101 (fun q_7 H hZ => ?_)
  replace hZ : zC V A s H _ ((h0, .inr (6, [.int 0, .int 0, .int 0, .int 1, .int 0, .int 0, .ref q_1, .ref q_2, .int 0, .ref q_3, .int 0, .ref q_4, .ref q_5, .int 0, .ref q_6, .null, .null])) :: ((((((([] ++ [(q_1, .inl (V.2.1.1, (10, .inl (fun _ => 0))))]) ++ [(q_2, .inl (V.2.1.1, (10, .inl (fun _ => 0))))]) ++ [(q_3, .inl (V.2.1.1, (1040, .inl (fun _ => 0))))]) ++ [(q_4, .inl (V.2.1.1, (12, .inl (fun _ => 0))))]) ++ [(q_5, .inl (V.2.1.1, (12, .inl (fun _ => 0))))]) ++ [(q_6, .inl (V.2.1.1, (8, .inl (fun _ => 0))))]) ++ [(q_7, .inl (V.2.1.1, (8, .inl (fun _ => 0))))])) := hZ
  refine zc_put (ci := 6) (v := .ref q_7) (fs' := [.int 0, .int 0, .int 0, .int 1, .int 0, .int 0, .ref q_1, .ref q_2, .int 0, .ref q_3, .int 0, .ref q_4, .ref q_5, .int 0, .ref q_6, .ref q_7, .null]) C0 hZ hin fRX6_58 (zmem 423 (by decide +kernel) (by decide +kernel)) tyX6_ok nmX6 rfl rfl rfl (Nat.le_of_ble_eq_true rfl) rfl dX6_init_103 (fun H locs hZ => ?_)
  refine lv_aload_n hx hb dX6_init_106 rfl (lv_at hl 0 rfl) ?_
  refine lv_iconst (v := 3) hx hb dX6_init_107 (by decide) ?_
  refine zc_newa (N := 3) C0 hZ (zmem 228 (by decide +kernel) (by decide +kernel)) (by decide) (by decide) (by decide) ⟨Nat.le_of_ble_eq_true rfl, Nat.le_of_ble_eq_true rfl⟩ dX6_init_108 (fun q_8 H hZ => ?_)
  replace hZ : zC V A s H _ ((h0, .inr (6, [.int 0, .int 0, .int 0, .int 1, .int 0, .int 0, .ref q_1, .ref q_2, .int 0, .ref q_3, .int 0, .ref q_4, .ref q_5, .int 0, .ref q_6, .ref q_7, .null])) :: (((((((([] ++ [(q_1, .inl (V.2.1.1, (10, .inl (fun _ => 0))))]) ++ [(q_2, .inl (V.2.1.1, (10, .inl (fun _ => 0))))]) ++ [(q_3, .inl (V.2.1.1, (1040, .inl (fun _ => 0))))]) ++ [(q_4, .inl (V.2.1.1, (12, .inl (fun _ => 0))))]) ++ [(q_5, .inl (V.2.1.1, (12, .inl (fun _ => 0))))]) ++ [(q_6, .inl (V.2.1.1, (8, .inl (fun _ => 0))))]) ++ [(q_7, .inl (V.2.1.1, (8, .inl (fun _ => 0))))]) ++ [(q_8, .inl (V.2.1.1, (3, .inl (fun _ => 0))))])) := hZ
  refine zc_put (ci := 6) (v := .ref q_8) (fs' := [.int 0, .int 0, .int 0, .int 1, .int 0, .int 0, .ref q_1, .ref q_2, .int 0, .ref q_3, .int 0, .ref q_4, .ref q_5, .int 0, .ref q_6, .ref q_7, .ref q_8]) C0 hZ hin fRX6_61 (zmem 425 (by decide +kernel) (by decide +kernel)) tyX6_ok nmX6 rfl rfl rfl (Nat.le_of_ble_eq_true rfl) rfl dX6_init_110 (fun H locs hZ => ?_)
  exact zc_vret C0 (fun i => ([h0, q_1, q_2, q_3, q_4, q_5, q_6, q_7, q_8] : List Nat).getD i 0) [0, 1, 2, 3, 4, 5, 6, 7, 8] hr hlk hZ rfl rfl (by decide +kernel) ⟨Nat.le_of_ble_eq_true rfl, Nat.le_of_ble_eq_true rfl⟩ dX6_init_113
