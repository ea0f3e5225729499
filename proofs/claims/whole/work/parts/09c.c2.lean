def cW4 (V : zV) (q : Nat → Nat) : va_W := [(q 0, .inr (4, [.int 0, .int 0, .ref (q 1), .ref (q 2), .ref (q 3), .int 0])), (q 1, .inl (V.2.1.1, (4, .inl (fun _ => 0)))), (q 2, .inl (V.2.1.1, (700, .inl (fun _ => 0)))), (q 3, .inl (V.2.1.1, (40, .inl (fun _ => 0))))]
set_option maxHeartbeats 8000000 in
set_option maxRecDepth 100000 in
theorem kX4_init (l : Launch) {V : zV} {h0 : Nat} : zCi l yX4_init cX4_init 1 1 30 3 744 V h0 4 [.int 0, .int 0, .null, .null, .null, .int 0] [] (fun q => cW4 V q) := by
  refine zCi_of (by decide) (Nat.le_of_ble_eq_true rfl) ?_
  intro p e s m below meth c A C0 hr hlk hin hZ ls hl
  generalize (.ref h0 :: [] : List Value).toArray = args at C0 ⊢
  have hx := C0.1
  have hb := C0.2.1
  have hl : lv_has ls 1 [(0, .ref h0)] := hl
  replace hZ : zC V A s s.heap [] ((h0, .inr (4, [.int 0, .int 0, .null, .null, .null, .int 0])) :: []) := hZ
  refine lv_aload_n hx hb dX4_init_0 rfl (lv_at hl 0 rfl) ?_
  refine zc_obj C0 hl.1 oRX4_3 dX4_init_1 ⟨Nat.le_of_ble_eq_true rfl, Nat.le_of_ble_eq_true rfl⟩ ?_
  refine lv_aload_n hx hb dX4_init_4 rfl (lv_at hl 0 rfl) ?_
  refine lv_iconst (v := 0) hx hb dX4_init_5 (by decide) ?_
  refine zc_put (ci := 4) (v := .int 0) (fs' := [.int 0, .int 0, .null, .null, .null, .int 0]) C0 hZ hin fRX4_9 (zmem 281 (by decide +kernel) (by decide +kernel)) tyX4_ok nmX4 rfl rfl rfl (Nat.le_of_ble_eq_true rfl) rfl dX4_init_6 (fun H locs hZ => ?_)
  refine lv_aload_n hx hb dX4_init_9 rfl (lv_at hl 0 rfl) ?_
  refine lv_iconst (v := 0) hx hb dX4_init_10 (by decide) ?_
  refine zc_put (ci := 4) (v := .int 0) (fs' := [.int 0, .int 0, .null, .null, .null, .int 0]) C0 hZ hin fRX4_15 (zmem 285 (by decide +kernel) (by decide +kernel)) tyX4_ok nmX4 rfl rfl rfl (Nat.le_of_ble_eq_true rfl) rfl dX4_init_11 (fun H locs hZ => ?_)
  refine lv_aload_n hx hb dX4_init_14 rfl (lv_at hl 0 rfl) ?_
  refine lv_iconst (v := 4) hx hb dX4_init_15 (by decide) ?_
  refine zc_newa (N := 4) C0 hZ (zmem 228 (by decide +kernel) (by decide +kernel)) (by decide) (by decide) (by decide) ⟨Nat.le_of_ble_eq_true rfl, Nat.le_of_ble_eq_true rfl⟩ dX4_init_16 (fun q_1 H hZ => ?_)
  replace hZ : zC V A s H _ ((h0, .inr (4, [.int 0, .int 0, .null, .null, .null, .int 0])) :: ([] ++ [(q_1, .inl (V.2.1.1, (4, .inl (fun _ => 0))))])) := hZ
  refine zc_put (ci := 4) (v := .ref q_1) (fs' := [.int 0, .int 0, .ref q_1, .null, .null, .int 0]) C0 hZ hin fRX4_18 (zmem 286 (by decide +kernel) (by decide +kernel)) tyX4_ok nmX4 rfl rfl rfl (Nat.le_of_ble_eq_true rfl) rfl dX4_init_18 (fun H locs hZ => ?_)
  refine lv_aload_n hx hb dX4_init_21 rfl (lv_at hl 0 rfl) ?_
  refine lv_sipush (v := 700) hx hb dX4_init_22 (by decide) ?_
  refine zc_newa (N := 700) C0 hZ (zmem 228 (by decide +kernel) (by decide +kernel)) (by decide) (by decide) (by decide) ⟨Nat.le_of_ble_eq_true rfl, Nat.le_of_ble_eq_true rfl⟩ dX4_init_25 (fun q_2 H hZ => ?_)
  replace hZ : zC V A s H _ ((h0, .inr (4, [.int 0, .int 0, .ref q_1, .null, .null, .int 0])) :: (([] ++ [(q_1, .inl (V.2.1.1, (4, .inl (fun _ => 0))))]) ++ [(q_2, .inl (V.2.1.1, (700, .inl (fun _ => 0))))])) := hZ
  refine zc_put (ci := 4) (v := .ref q_2) (fs' := [.int 0, .int 0, .ref q_1, .ref q_2, .null, .int 0]) C0 hZ hin fRX4_22 (zmem 287 (by decide +kernel) (by decide +kernel)) tyX4_ok nmX4 rfl rfl rfl (Nat.le_of_ble_eq_true rfl) rfl dX4_init_27 (fun H locs hZ => ?_)
  refine lv_aload_n hx hb dX4_init_30 rfl (lv_at hl 0 rfl) ?_
  refine lv_bipush (v := 40) hx hb dX4_init_31 (by decide) ?_
  refine zc_newa (N := 40) C0 hZ (zmem 228 (by decide +kernel) (by decide +kernel)) (by decide) (by decide) (by decide) ⟨Nat.le_of_ble_eq_true rfl, Nat.le_of_ble_eq_true rfl⟩ dX4_init_33 (fun q_3 H hZ => ?_)
  replace hZ : zC V A s H _ ((h0, .inr (4, [.int 0, .int 0, .ref q_1, .ref q_2, .null, .int 0])) :: ((([] ++ [(q_1, .inl (V.2.1.1, (4, .inl (fun _ => 0))))]) ++ [(q_2, .inl (V.2.1.1, (700, .inl (fun _ => 0))))]) ++ [(q_3, .inl (V.2.1.1, (40, .inl (fun _ => 0))))])) := hZ
  refine zc_put (ci := 4) (v := .ref q_3) (fs' := [.int 0, .int 0, .ref q_1, .ref q_2, .ref q_3, .int 0]) C0 hZ hin fRX4_25 (zmem 288 (by decide +kernel) (by decide +kernel)) tyX4_ok nmX4 rfl rfl rfl (Nat.le_of_ble_eq_true rfl) rfl dX4_init_35 (fun H locs hZ => ?_)
  refine lv_aload_n hx hb dX4_init_38 rfl (lv_at hl 0 rfl) ?_
  refine lv_iconst (v := 0) hx hb dX4_init_39 (by decide) ?_
  refine zc_put (ci := 4) (v := .int 0) (fs' := [.int 0, .int 0, .ref q_1, .ref q_2, .ref q_3, .int 0]) C0 hZ hin fRX4_28 (zmem 289 (by decide +kernel) (by decide +kernel)) tyX4_ok nmX4 rfl rfl rfl (Nat.le_of_ble_eq_true rfl) rfl dX4_init_40 (fun H locs hZ => ?_)
  exact zc_vret C0 (fun i => ([h0, q_1, q_2, q_3] : List Nat).getD i 0) [0, 1, 2, 3] hr hlk hZ rfl rfl (by decide +kernel) ⟨Nat.le_of_ble_eq_true rfl, Nat.le_of_ble_eq_true rfl⟩ dX4_init_43
