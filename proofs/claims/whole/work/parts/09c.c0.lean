def cW1 (V : zV) (q : Nat → Nat) : va_W := [(q 0, .inr (1, [.int 0, .int 0, .int 0, .ref (q 1), .ref (q 2), .ref (q 3), .ref (q 4), .ref (q 5)])), (q 1, .inl (V.2.1.1, (10, .inl (fun _ => 0)))), (q 2, .inl (V.2.1.1, (10, .inl (fun _ => 0)))), (q 3, .inl (V.2.1.1, (10, .inl (fun _ => 0)))), (q 4, .inl (V.2.1.1, (10, .inl (fun _ => 0)))), (q 5, .inl (V.2.1.1, (100, .inl (fun _ => 0))))]
set_option maxHeartbeats 8000000 in
set_option maxRecDepth 100000 in
theorem kX1_init (l : Launch) {V : zV} {h0 : Nat} : zCi l yX1_init cX1_init 1 1 30 5 140 V h0 1 [.int 0, .int 0, .int 0, .null, .null, .null, .null, .null] [] (fun q => cW1 V q) := by
  refine zCi_of (by decide) (Nat.le_of_ble_eq_true rfl) ?_
  intro p e s m below meth c A C0 hr hlk hin hZ ls hl
  generalize (.ref h0 :: [] : List Value).toArray = args at C0 ⊢
  have hx := C0.1
  have hb := C0.2.1
  have hl : lv_has ls 1 [(0, .ref h0)] := hl
  replace hZ : zC V A s s.heap [] ((h0, .inr (1, [.int 0, .int 0, .int 0, .null, .null, .null, .null, .null])) :: []) := hZ
  refine lv_aload_n hx hb dX1_init_0 rfl (lv_at hl 0 rfl) ?_
  refine zc_obj C0 hl.1 oRX1_3 dX1_init_1 ⟨Nat.le_of_ble_eq_true rfl, Nat.le_of_ble_eq_true rfl⟩ ?_
  refine lv_aload_n hx hb dX1_init_4 rfl (lv_at hl 0 rfl) ?_
  refine lv_iconst (v := 0) hx hb dX1_init_5 (by decide) ?_
  refine zc_put (ci := 1) (v := .int 0) (fs' := [.int 0, .int 0, .int 0, .null, .null, .null, .null, .null]) C0 hZ hin fRX1_9 (zmem 190 (by decide +kernel) (by decide +kernel)) tyX1_ok nmX1 rfl rfl rfl (Nat.le_of_ble_eq_true rfl) rfl dX1_init_6 (fun H locs hZ => ?_)
  refine lv_aload_n hx hb dX1_init_9 rfl (lv_at hl 0 rfl) ?_
  refine lv_iconst (v := 0) hx hb dX1_init_10 (by decide) ?_
  refine zc_put (ci := 1) (v := .int 0) (fs' := [.int 0, .int 0, .int 0, .null, .null, .null, .null, .null]) C0 hZ hin fRX1_15 (zmem 194 (by decide +kernel) (by decide +kernel)) tyX1_ok nmX1 rfl rfl rfl (Nat.le_of_ble_eq_true rfl) rfl dX1_init_11 (fun H locs hZ => ?_)
  refine lv_aload_n hx hb dX1_init_14 rfl (lv_at hl 0 rfl) ?_
  refine lv_iconst (v := 0) hx hb dX1_init_15 (by decide) ?_
  refine zc_put (ci := 1) (v := .int 0) (fs' := [.int 0, .int 0, .int 0, .null, .null, .null, .null, .null]) C0 hZ hin fRX1_18 (zmem 197 (by decide +kernel) (by decide +kernel)) tyX1_ok nmX1 rfl rfl rfl (Nat.le_of_ble_eq_true rfl) rfl dX1_init_16 (fun H locs hZ => ?_)
  refine lv_aload_n hx hb dX1_init_19 rfl (lv_at hl 0 rfl) ?_
  refine lv_bipush (v := 10) hx hb dX1_init_20 (by decide) ?_
  refine zc_newa (N := 10) C0 hZ (zmem 228 (by decide +kernel) (by decide +kernel)) (by decide) (by decide) (by decide) ⟨Nat.le_of_ble_eq_true rfl, Nat.le_of_ble_eq_true rfl⟩ dX1_init_22 (fun q_1 H hZ => ?_)
  replace hZ : zC V A s H _ ((h0, .inr (1, [.int 0, .int 0, .int 0, .null, .null, .null, .null, .null])) :: ([] ++ [(q_1, .inl (V.2.1.1, (10, .inl (fun _ => 0))))])) := hZ
  refine zc_put (ci := 1) (v := .ref q_1) (fs' := [.int 0, .int 0, .int 0, .ref q_1, .null, .null, .null, .null]) C0 hZ hin fRX1_21 (zmem 200 (by decide +kernel) (by decide +kernel)) tyX1_ok nmX1 rfl rfl rfl (Nat.le_of_ble_eq_true rfl) rfl dX1_init_24 (fun H locs hZ => ?_)
  refine lv_aload_n hx hb dX1_init_27 rfl (lv_at hl 0 rfl) ?_
  refine lv_bipush (v := 10) hx hb dX1_init_28 (by decide) ?_
  refine zc_newa (N := 10) C0 hZ (zmem 228 (by decide +kernel) (by decide +kernel)) (by decide) (by decide) (by decide) ⟨Nat.le_of_ble_eq_true rfl, Nat.le_of_ble_eq_true rfl⟩ dX1_init_30 (fun q_2 H hZ => ?_)
  replace hZ : zC V A s H _ ((h0, .inr (1, [.int 0, .int 0, .int 0, .ref q_1, .null, .null, .null, .null])) :: (([] ++ [(q_1, .inl (V.2.1.1, (10, .inl (fun _ => 0))))]) ++ [(q_2, .inl (V.2.1.1, (10, .inl (fun _ => 0))))])) := hZ
  refine zc_put (ci := 1) (v := .ref q_2) (fs' := [.int 0, .int 0, .int 0, .ref q_1, .ref q_2, .null, .null, .null]) C0 hZ hin fRX1_25 (zmem 203 (by decide +kernel) (by decide +kernel)) tyX1_ok nmX1 rfl rfl rfl (Nat.le_of_ble_eq_true rfl) rfl dX1_init_32 (fun H locs hZ => ?_)
  refine lv_aload_n hx hb dX1_init_35 rfl (lv_at hl 0 rfl) ?_
  refine lv_bipush (v := 10) hx hb dX1_init_36 (by decide) ?_
  refine zc_newa (N := 10) C0 hZ (zmem 228 (by decide +kernel) (by decide +kernel)) (by decide) (by decide) (by decide) ⟨Nat.le_of_ble_eq_true rfl, Nat.le_of_ble_eq_true rfl⟩ dX1_init_38 (fun q_3 H hZ => ?_)
  replace hZ : zC V A s H _ ((h0, .inr (1, [.int 0, .int 0, .int 0, .ref q_1, .ref q_2, .null, .null, .null])) :: ((([] ++ [(q_1, .inl (V.2.1.1, (10, .inl (fun _ => 0))))]) ++ [(q_2, .inl (V.2.1.1, (10, .inl (fun _ => 0))))]) ++ [(q_3, .inl (V.2.1.1, (10, .inl (fun _ => 0))))])) := hZ
  refine zc_put (ci := 1) (v := .ref q_3) (fs' := [.int 0, .int 0, .int 0, .ref q_1, .ref q_2, .ref q_3, .null, .null]) C0 hZ hin fRX1_28 (zmem 205 (by decide +kernel) (by decide +kernel)) tyX1_ok nmX1 rfl rfl rfl (Nat.le_of_ble_eq_true rfl) rfl dX1_init_40 (fun H locs hZ => ?_)
  refine lv_aload_n hx hb dX1_init_43 rfl (lv_at hl 0 rfl) ?_
  refine lv_bipush (v := 10) hx hb dX1_init_44 (by decide) ?_
  refine zc_newa (N := 10) C0 hZ (zmem 228 (by decide +kernel) (by decide +kernel)) (by decide) (by decide) (by decide) ⟨Nat.le_of_ble_eq_true rfl, Nat.le_of_ble_eq_true rfl⟩ dX1_init_46 (fun q_4 H hZ => ?_)
  replace hZ : zC V A s H _ ((h0, .inr (1, [.int 0, .int 0, .int 0, .ref q_1, .ref q_2, .ref q_3, .null, .null])) :: (((([] ++ [(q_1, .inl (V.2.1.1, (10, .inl (fun _ => 0))))]) ++ [(q_2, .inl (V.2.1.1, (10, .inl (fun _ => 0))))]) ++ [(q_3, .inl (V.2.1.1, (10, .inl (fun _ => 0))))]) ++ [(q_4, .inl (V.2.1.1, (10, .inl (fun _ => 0))))])) := hZ
  refine zc_put (ci := 1) (v := .ref q_4) (fs' := [.int 0, .int 0, .int 0, .ref q_1, .ref q_2, .ref q_3, .ref q_4, .null]) C0 hZ hin fRX1_31 (zmem 207 (by decide +kernel) (by decide +kernel)) tyX1_ok nmX1 rfl rfl rfl (Nat.le_of_ble_eq_true rfl) rfl dX1_init_48 (fun H locs hZ => ?_)
  refine lv_aload_n hx hb dX1_init_51 rfl (lv_at hl 0 rfl) ?_
  refine lv_bipush (v := 100) hx hb dX1_init_52 (by decide) ?_
  refine zc_newa (N := 100) C0 hZ (zmem 228 (by decide +kernel) (by decide +kernel)) (by decide) (by decide) (by decide) ⟨Nat.le_of_ble_eq_true rfl, Nat.le_of_ble_eq_true rfl⟩ dX1_init_54 (fun q_5 H hZ => ?_)
  replace hZ : zC V A s H _ ((h0, .inr (1, [.int 0, .int 0, .int 0, .ref q_1, .ref q_2, .ref q_3, .ref q_4, .null])) :: ((((([] ++ [(q_1, .inl (V.2.1.1, (10, .inl (fun _ => 0))))]) ++ [(q_2, .inl (V.2.1.1, (10, .inl (fun _ => 0))))]) ++ [(q_3, .inl (V.2.1.1, (10, .inl (fun _ => 0))))]) ++ [(q_4, .inl (V.2.1.1, (10, .inl (fun _ => 0))))]) ++ [(q_5, .inl (V.2.1.1, (100, .inl (fun _ => 0))))])) := hZ
  refine zc_put (ci := 1) (v := .ref q_5) (fs' := [.int 0, .int 0, .int 0, .ref q_1, .ref q_2, .ref q_3, .ref q_4, .ref q_5]) C0 hZ hin fRX1_34 (zmem 210 (by decide +kernel) (by decide +kernel)) tyX1_ok nmX1 rfl rfl rfl (Nat.le_of_ble_eq_true rfl) rfl dX1_init_56 (fun H locs hZ => ?_)
  exact zc_vret C0 (fun i => ([h0, q_1, q_2, q_3, q_4, q_5] : List Nat).getD i 0) [0, 1, 2, 3, 4, 5] hr hlk hZ rfl rfl (by decide +kernel) ⟨Nat.le_of_ble_eq_true rfl, Nat.le_of_ble_eq_true rfl⟩ dX1_init_59
