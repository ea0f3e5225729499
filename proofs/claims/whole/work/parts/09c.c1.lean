def cW2 (V : zV) (q : Nat → Nat) : va_W := [(q 0, .inr (2, [.int 0, .ref (q 1), .ref (q 2), .ref (q 3), .ref (q 4), .ref (q 5), .ref (q 6)])), (q 1, .inl (V.2.1.1, (8, .inl (fun _ => 0)))), (q 2, .inl (V.2.1.1, (8, .inl (fun _ => 0)))), (q 3, .inl (V.2.1.1, (8, .inl (fun _ => 0)))), (q 4, .inl (V.2.1.1, (8, .inl (fun _ => 0)))), (q 5, .inl (V.2.1.1, (8, .inl (fun _ => 0)))), (q 6, .inl (V.2.1.1, (96, .inl (fun _ => 0))))]
set_option maxHeartbeats 8000000 in
set_option maxRecDepth 100000 in
theorem kX2_init (l : Launch) {V : zV} {h0 : Nat} : zCi l yX2_init cX2_init 1 1 30 6 136 V h0 2 [.int 0, .null, .null, .null, .null, .null, .null] [] (fun q => cW2 V q) := by
  refine zCi_of (by decide) (Nat.le_of_ble_eq_true rfl) ?_
  intro p e s m below meth c A C0 hr hlk hin hZ ls hl
  generalize (.ref h0 :: [] : List Value).toArray = args at C0 ⊢
  have hx := C0.1
  have hb := C0.2.1
  have hl : lv_has ls 1 [(0, .ref h0)] := hl
  replace hZ : zC V A s s.heap [] ((h0, .inr (2, [.int 0, .null, .null, .null, .null, .null, .null])) :: []) := hZ
  refine lv_aload_n hx hb dX2_init_0 rfl (lv_at hl 0 rfl) ?_
  refine zc_obj C0 hl.1 oRX2_3 dX2_init_1 ⟨Nat.le_of_ble_eq_true rfl, Nat.le_of_ble_eq_true rfl⟩ ?_
  refine lv_aload_n hx hb dX2_init_4 rfl (lv_at hl 0 rfl) ?_
  refine lv_iconst (v := 0) hx hb dX2_init_5 (by decide) ?_
  refine zc_put (ci := 2) (v := .int 0) (fs' := [.int 0, .null, .null, .null, .null, .null, .null]) C0 hZ hin fRX2_9 (zmem 235 (by decide +kernel) (by decide +kernel)) tyX2_ok nmX2 rfl rfl rfl (Nat.le_of_ble_eq_true rfl) rfl dX2_init_6 (fun H locs hZ => ?_)
  refine lv_aload_n hx hb dX2_init_9 rfl (lv_at hl 0 rfl) ?_
  refine lv_bipush (v := 8) hx hb dX2_init_10 (by decide) ?_
  refine zc_newa (N := 8) C0 hZ (zmem 228 (by decide +kernel) (by decide +kernel)) (by decide) (by decide) (by decide) ⟨Nat.le_of_ble_eq_true rfl, Nat.le_of_ble_eq_true rfl⟩ dX2_init_12 (fun q_1 H hZ => ?_)
  replace hZ : zC V A s H _ ((h0, .inr (2, [.int 0, .null, .null, .null, .null, .null, .null])) :: ([] ++ [(q_1, .inl (V.2.1.1, (8, .inl (fun _ => 0))))])) := hZ
  refine zc_put (ci := 2) (v := .ref q_1) (fs' := [.int 0, .ref q_1, .null, .null, .null, .null, .null]) C0 hZ hin fRX2_15 (zmem 240 (by decide +kernel) (by decide +kernel)) tyX2_ok nmX2 rfl rfl rfl (Nat.le_of_ble_eq_true rfl) rfl dX2_init_14 (fun H locs hZ => ?_)
  refine lv_aload_n hx hb dX2_init_17 rfl (lv_at hl 0 rfl) ?_
  refine lv_bipush (v := 8) hx hb dX2_init_18 (by decide) ?_
  refine zc_newa (N := 8) C0 hZ (zmem 228 (by decide +kernel) (by decide +kernel)) (by decide) (by decide) (by decide) ⟨Nat.le_of_ble_eq_true rfl, Nat.le_of_ble_eq_true rfl⟩ dX2_init_20 (fun q_2 H hZ => ?_)
  replace hZ : zC V A s H _ ((h0, .inr (2, [.int 0, .ref q_1, .null, .null, .null, .null, .null])) :: (([] ++ [(q_1, .inl (V.2.1.1, (8, .inl (fun _ => 0))))]) ++ [(q_2, .inl (V.2.1.1, (8, .inl (fun _ => 0))))])) := hZ
  refine zc_put (ci := 2) (v := .ref q_2) (fs' := [.int 0, .ref q_1, .ref q_2, .null, .null, .null, .null]) C0 hZ hin fRX2_19 (zmem 244 (by decide +kernel) (by decide +kernel)) tyX2_ok nmX2 rfl rfl rfl (Nat.le_of_ble_eq_true rfl) rfl dX2_init_22 (fun H locs hZ => ?_)
  refine lv_aload_n hx hb dX2_init_25 rfl (lv_at hl 0 rfl) ?_
  refine lv_bipush (v := 8) hx hb dX2_init_26 (by decide) ?_
  refine zc_newa (N := 8) C0 hZ (zmem 228 (by decide +kernel) (by decide +kernel)) (by decide) (by decide) (by decide) ⟨Nat.le_of_ble_eq_true rfl, Nat.le_of_ble_eq_true rfl⟩ dX2_init_28 (fun q_3 H hZ => ?_)
  replace hZ : zC V A s H _ ((h0, .inr (2, [.int 0, .ref q_1, .ref q_2, .null, .null, .null, .null])) :: ((([] ++ [(q_1, .inl (V.2.1.1, (8, .inl (fun _ => 0))))]) ++ [(q_2, .inl (V.2.1.1, (8, .inl (fun _ => 0))))]) ++ [(q_3, .inl (V.2.1.1, (8, .inl (fun _ => 0))))])) := hZ
  refine zc_put (ci := 2) (v := .ref q_3) (fs' := [.int 0, .ref q_1, .ref q_2, .ref q_3, .null, .null, .null]) C0 hZ hin fRX2_22 (zmem 248 (by decide +kernel) (by decide +kernel)) tyX2_ok nmX2 rfl rfl rfl (Nat.le_of_ble_eq_true rfl) rfl dX2_init_30 (fun H locs hZ => ?_)
  refine lv_aload_n hx hb dX2_init_33 rfl (lv_at hl 0 rfl) ?_
  refine lv_bipush (v := 8) hx hb dX2_init_34 (by decide) ?_
  refine zc_newa (N := 8) C0 hZ (zmem 228 (by decide +kernel) (by decide +kernel)) (by decide) (by decide) (by decide) ⟨Nat.le_of_ble_eq_true rfl, Nat.le_of_ble_eq_true rfl⟩ dX2_init_36 (fun q_4 H hZ => ?_)
  replace hZ : zC V A s H _ ((h0, .inr (2, [.int 0, .ref q_1, .ref q_2, .ref q_3, .null, .null, .null])) :: (((([] ++ [(q_1, .inl (V.2.1.1, (8, .inl (fun _ => 0))))]) ++ [(q_2, .inl (V.2.1.1, (8, .inl (fun _ => 0))))]) ++ [(q_3, .inl (V.2.1.1, (8, .inl (fun _ => 0))))]) ++ [(q_4, .inl (V.2.1.1, (8, .inl (fun _ => 0))))])) := hZ
  refine zc_put (ci := 2) (v := .ref q_4) (fs' := [.int 0, .ref q_1, .ref q_2, .ref q_3, .ref q_4, .null, .null]) C0 hZ hin fRX2_25 (zmem 251 (by decide +kernel) (by decide +kernel)) tyX2_ok nmX2 rfl rfl rfl (Nat.le_of_ble_eq_true rfl) rfl dX2_init_38 (fun H locs hZ => ?_)
  refine lv_aload_n hx hb dX2_init_41 rfl (lv_at hl 0 rfl) ?_
  refine lv_bipush (v := 8) hx hb dX2_init_42 (by decide) ?_
  refine zc_newa (N := 8) C0 hZ (zmem 228 (by decide +kernel) (by decide +kernel)) (by decide) (by decide) (by decide) ⟨Nat.le_of_ble_eq_true rfl, Nat.le_of_ble_eq_true rfl⟩ dX2_init_44 (fun q_5 H hZ => ?_)
  replace hZ : zC V A s H _ ((h0, .inr (2, [.int 0, .ref q_1, .ref q_2, .ref q_3, .ref q_4, .null, .null])) :: ((((([] ++ [(q_1, .inl (V.2.1.1, (8, .inl (fun _ => 0))))]) ++ [(q_2, .inl (V.2.1.1, (8, .inl (fun _ => 0))))]) ++ [(q_3, .inl (V.2.1.1, (8, .inl (fun _ => 0))))]) ++ [(q_4, .inl (V.2.1.1, (8, .inl (fun _ => 0))))]) ++ [(q_5, .inl (V.2.1.1, (8, .inl (fun _ => 0))))])) := hZ
  refine zc_put (ci := 2) (v := .ref q_5) (fs' := [.int 0, .ref q_1, .ref q_2, .ref q_3, .ref q_4, .ref q_5, .null]) C0 hZ hin fRX2_28 (zmem 255 (by decide +kernel) (by decide +kernel)) tyX2_ok nmX2 rfl rfl rfl (Nat.le_of_ble_eq_true rfl) rfl dX2_init_46 (fun H locs hZ => ?_)
  refine lv_aload_n hx hb dX2_init_49 rfl (lv_at hl 0 rfl) ?_
  refine lv_bipush (v := 96) hx hb dX2_init_50 (by decide) ?_
  refine zc_newa (N := 96) C0 hZ (zmem 228 (by decide +kernel) (by decide +kernel)) (by decide) (by decide) (by decide) ⟨Nat.le_of_ble_eq_true rfl, Nat.le_of_ble_eq_true rfl⟩ dX2_init_52 (fun q_6 H hZ => ?_)
  replace hZ : zC V A s H _ ((h0, .inr (2, [.int 0, .ref q_1, .ref q_2, .ref q_3, .ref q_4, .ref q_5, .null])) :: (((((([] ++ [(q_1, .inl (V.2.1.1, (8, .inl (fun _ => 0))))]) ++ [(q_2, .inl (V.2.1.1, (8, .inl (fun _ => 0))))]) ++ [(q_3, .inl (V.2.1.1, (8, .inl (fun _ => 0))))]) ++ [(q_4, .inl (V.2.1.1, (8, .inl (fun _ => 0))))]) ++ [(q_5, .inl (V.2.1.1, (8, .inl (fun _ => 0))))]) ++ [(q_6, .inl (V.2.1.1, (96, .inl (fun _ => 0))))])) := hZ
  refine zc_put (ci := 2) (v := .ref q_6) (fs' := [.int 0, .ref q_1, .ref q_2, .ref q_3, .ref q_4, .ref q_5, .ref q_6]) C0 hZ hin fRX2_31 (zmem 258 (by decide +kernel) (by decide +kernel)) tyX2_ok nmX2 rfl rfl rfl (Nat.le_of_ble_eq_true rfl) rfl dX2_init_54 (fun H locs hZ => ?_)
  exact zc_vret C0 (fun i => ([h0, q_1, q_2, q_3, q_4, q_5, q_6] : List Nat).getD i 0) [0, 1, 2, 3, 4, 5, 6] hr hlk hZ rfl rfl (by decide +kernel) ⟨Nat.le_of_ble_eq_true rfl, Nat.le_of_ble_eq_true rfl⟩ dX2_init_57
