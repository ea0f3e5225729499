def cW3 (V : zV) (q : Nat → Nat) : va_W := [(q 0, .inr (3, [.ref (q 1), .ref (q 2), .int 0, .int 0, .int 0, .int 0, .int 0, .int 0, .int 0, .int (-1)])), (q 1, .inl (V.2.1.1, (700, .inl (fun _ => 0)))), (q 2, .inr (5, [.ref (q 3), .ref (q 9), .ref (q 16), .int 3, .int 400, .int 1])), (q 3, .inr (1, [.int 0, .int 0, .int 0, .ref (q 4), .ref (q 5), .ref (q 6), .ref (q 7), .ref (q 8)])), (q 4, .inl (V.2.1.1, (10, .inl (fun _ => 0)))), (q 5, .inl (V.2.1.1, (10, .inl (fun _ => 0)))), (q 6, .inl (V.2.1.1, (10, .inl (fun _ => 0)))), (q 7, .inl (V.2.1.1, (10, .inl (fun _ => 0)))), (q 8, .inl (V.2.1.1, (100, .inl (fun _ => 0)))), (q 9, .inr (2, [.int 0, .ref (q 10), .ref (q 11), .ref (q 12), .ref (q 13), .ref (q 14), .ref (q 15)])), (q 10, .inl (V.2.1.1, (8, .inl (fun _ => 0)))), (q 11, .inl (V.2.1.1, (8, .inl (fun _ => 0)))), (q 12, .inl (V.2.1.1, (8, .inl (fun _ => 0)))), (q 13, .inl (V.2.1.1, (8, .inl (fun _ => 0)))), (q 14, .inl (V.2.1.1, (8, .inl (fun _ => 0)))), (q 15, .inl (V.2.1.1, (96, .inl (fun _ => 0)))), (q 16, .inr (4, [.int 0, .int 0, .ref (q 17), .ref (q 18), .ref (q 19), .int 0])), (q 17, .inl (V.2.1.1, (4, .inl (fun _ => 0)))), (q 18, .inl (V.2.1.1, (700, .inl (fun _ => 0)))), (q 19, .inl (V.2.1.1, (40, .inl (fun _ => 0))))]
set_option maxHeartbeats 8000000 in
set_option maxRecDepth 100000 in
theorem kX3_init (l : Launch) {V : zV} {h0 : Nat} : zCi l yX3_init cX3_init 1 3 70 19 1747 V h0 3 [.null, .null, .int 0, .int 0, .int 0, .int 0, .int 0, .int 0, .int 0, .int 0] [] (fun q => cW3 V q) := by
  refine zCi_of (by decide) (Nat.le_of_ble_eq_true rfl) ?_
  intro p e s m below meth c A C0 hr hlk hin hZ ls hl
  generalize (.ref h0 :: [] : List Value).toArray = args at C0 ⊢
  have hx := C0.1
  have hb := C0.2.1
  have hl : lv_has ls 1 [(0, .ref h0)] := hl
  replace hZ : zC V A s s.heap [] ((h0, .inr (3, [.null, .null, .int 0, .int 0, .int 0, .int 0, .int 0, .int 0, .int 0, .int 0])) :: []) := hZ
  refine lv_aload_n hx hb dX3_init_0 rfl (lv_at hl 0 rfl) ?_
  refine zc_obj C0 hl.1 oRX3_3 dX3_init_1 ⟨Nat.le_of_ble_eq_true rfl, Nat.le_of_ble_eq_true rfl⟩ ?_
  refine lv_aload_n hx hb dX3_init_4 rfl (lv_at hl 0 rfl) ?_
  refine lv_sipush (v := 700) hx hb dX3_init_5 (by decide) ?_
  refine zc_newa (N := 700) C0 hZ (zmem 228 (by decide +kernel) (by decide +kernel)) (by decide) (by decide) (by decide) ⟨Nat.le_of_ble_eq_true rfl, Nat.le_of_ble_eq_true rfl⟩ dX3_init_8 (fun q_1 H hZ => ?_)
  replace hZ : zC V A s H _ ((h0, .inr (3, [.null, .null, .int 0, .int 0, .int 0, .int 0, .int 0, .int 0, .int 0, .int 0])) :: ([] ++ [(q_1, .inl (V.2.1.1, (700, .inl (fun _ => 0))))])) := hZ
  refine zc_put (ci := 3) (v := .ref q_1) (fs' := [.ref q_1, .null, .int 0, .int 0, .int 0, .int 0, .int 0, .int 0, .int 0, .int 0]) C0 hZ hin fRX3_9 (zmem 349 (by decide +kernel) (by decide +kernel)) tyX3_ok nmX3 rfl rfl rfl (Nat.le_of_ble_eq_true rfl) rfl dX3_init_10 (fun H locs hZ => ?_)
  refine lv_aload_n hx hb dX3_init_13 rfl (lv_at hl 0 rfl) ?_
  refine zc_new (ci := 5) (fs := [.null, .null, .null, .int 0, .int 0, .int 0]) C0 hZ zin5 tyX5_ok (zmem 347 (by decide +kernel) (by decide +kernel)) (zmem 179 (by decide +kernel) (by decide +kernel)) (zmem 150 (by decide +kernel) (by decide +kernel)) rfl (fun j hj => by match j, hj with | 0, _ => rfl | 1, _ => rfl | 2, _ => rfl | 3, _ => rfl | 4, _ => rfl | 5, _ => rfl | j + 6, hj => exact absurd hj (by omega)) ⟨Nat.le_of_ble_eq_true rfl, Nat.le_of_ble_eq_true rfl⟩ dX3_init_14 (fun q_2 H hZ => ?_)
  replace hZ : zC V A s H _ ((h0, .inr (3, [.ref q_1, .null, .int 0, .int 0, .int 0, .int 0, .int 0, .int 0, .int 0, .int 0])) :: ([] ++ [(q_1, .inl (V.2.1.1, (700, .inl (fun _ => 0))))]) ++ [(q_2, .inr (5, [.null, .null, .null, .int 0, .int 0, .int 0]))]) := hZ
  refine lv_dup hx hb dX3_init_17 rfl ?_
  refine zc_init (As := []) (rest := [.ref q_2, .ref h0]) C0 (ws := (h0, .inr (3, [.ref q_1, .null, .int 0, .int 0, .int 0, .int 0, .int 0, .int 0, .int 0, .int 0])) :: ([] ++ [(q_1, .inl (V.2.1.1, (700, .inl (fun _ => 0))))])) hZ (kX5_init l) mRX3_17 iX5_init rfl rfl rfl hl.1 (Nat.le_of_ble_eq_true rfl) ⟨Nat.le_of_ble_eq_true rfl, Nat.le_of_ble_eq_true rfl⟩ dX3_init_18 ⟨Nat.le_of_ble_eq_true rfl, Nat.le_of_ble_eq_true rfl⟩ (fun qa_3 H locs hq_3 hZ => ?_)
  replace hZ : zC V A s H _ ((h0, .inr (3, [.ref q_1, .null, .int 0, .int 0, .int 0, .int 0, .int 0, .int 0, .int 0, .int 0])) :: (([] ++ [(q_1, .inl (V.2.1.1, (700, .inl (fun _ => 0))))]) ++ cW5 V qa_3)) := hZ
  rw [← hq_3]
  refine zc_put (ci := 3) (v := .ref (qa_3 0)) (fs' := [.ref q_1, .ref (qa_3 0), .int 0, .int 0, .int 0, .int 0, .int 0, .int 0, .int 0, .int 0]) C0 hZ hin fRX3_18 (zmem 351 (by decide +kernel) (by decide +kernel)) tyX3_ok nmX3 rfl rfl rfl (Nat.le_of_ble_eq_true rfl) rfl dX3_init_21 (fun H locs hZ => ?_)
  refine lv_aload_n hx hb dX3_init_24 rfl (lv_at hl 0 rfl) ?_
  refine lv_iconst (v := 0) hx hb dX3_init_25 (by decide) ?_
  refine zc_put (ci := 3) (v := .int 0) (fs' := [.ref q_1, .ref (qa_3 0), .int 0, .int 0, .int 0, .int 0, .int 0, .int 0, .int 0, .int 0]) C0 hZ hin fRX3_22 (zmem 352 (by decide +kernel) (by decide +kernel)) tyX3_ok nmX3 rfl rfl rfl (Nat.le_of_ble_eq_true rfl) rfl dX3_init_26 (fun H locs hZ => ?_)
  refine lv_aload_n hx hb dX3_init_29 rfl (lv_at hl 0 rfl) ?_
  refine lv_iconst (v := 0) hx hb dX3_init_30 (by decide) ?_
  refine zc_put (ci := 3) (v := .int 0) (fs' := [.ref q_1, .ref (qa_3 0), .int 0, .int 0, .int 0, .int 0, .int 0, .int 0, .int 0, .int 0]) C0 hZ hin fRX3_26 (zmem 353 (by decide +kernel) (by decide +kernel)) tyX3_ok nmX3 rfl rfl rfl (Nat.le_of_ble_eq_true rfl) rfl dX3_init_31 (fun H locs hZ => ?_)
  refine lv_aload_n hx hb dX3_init_34 rfl (lv_at hl 0 rfl) ?_
  refine lv_iconst (v := 0) hx hb dX3_init_35 (by decide) ?_
  refine zc_put (ci := 3) (v := .int 0) (fs' := [.ref q_1, .ref (qa_3 0), .int 0, .int 0, .int 0, .int 0, .int 0, .int 0, .int 0, .int 0]) C0 hZ hin fRX3_29 (zmem 354 (by decide +kernel) (by decide +kernel)) tyX3_ok nmX3 rfl rfl rfl (Nat.le_of_ble_eq_true rfl) rfl dX3_init_36 (fun H locs hZ => ?_)
  refine lv_aload_n hx hb dX3_init_39 rfl (lv_at hl 0 rfl) ?_
  refine lv_iconst (v := 0) hx hb dX3_init_40 (by decide) ?_
  refine zc_put (ci := 3) (v := .int 0) (fs' := [.ref q_1, .ref (qa_3 0), .int 0, .int 0, .int 0, .int 0, .int 0, .int 0, .int 0, .int 0]) C0 hZ hin fRX3_32 (zmem 355 (by decide +kernel) (by decide +kernel)) tyX3_ok nmX3 rfl rfl rfl (Nat.le_of_ble_eq_true rfl) rfl dX3_init_41 (fun H locs hZ => ?_)
  refine lv_aload_n hx hb dX3_init_44 rfl (lv_at hl 0 rfl) ?_
  refine lv_iconst (v := 0) hx hb dX3_init_45 (by decide) ?_
  refine zc_put (ci := 3) (v := .int 0) (fs' := [.ref q_1, .ref (qa_3 0), .int 0, .int 0, .int 0, .int 0, .int 0, .int 0, .int 0, .int 0]) C0 hZ hin fRX3_35 (zmem 356 (by decide +kernel) (by decide +kernel)) tyX3_ok nmX3 rfl rfl rfl (Nat.le_of_ble_eq_true rfl) rfl dX3_init_46 (fun H locs hZ => ?_)
  refine lv_aload_n hx hb dX3_init_49 rfl (lv_at hl 0 rfl) ?_
  refine lv_iconst (v := 0) hx hb dX3_init_50 (by decide) ?_
  refine zc_put (ci := 3) (v := .int 0) (fs' := [.ref q_1, .ref (qa_3 0), .int 0, .int 0, .int 0, .int 0, .int 0, .int 0, .int 0, .int 0]) C0 hZ hin fRX3_38 (zmem 357 (by decide +kernel) (by decide +kernel)) tyX3_ok nmX3 rfl rfl rfl (Nat.le_of_ble_eq_true rfl) rfl dX3_init_51 (fun H locs hZ => ?_)
  refine lv_aload_n hx hb dX3_init_54 rfl (lv_at hl 0 rfl) ?_
  refine lv_iconst (v := 0) hx hb dX3_init_55 (by decide) ?_
  refine zc_put (ci := 3) (v := .int 0) (fs' := [.ref q_1, .ref (qa_3 0), .int 0, .int 0, .int 0, .int 0, .int 0, .int 0, .int 0, .int 0]) C0 hZ hin fRX3_41 (zmem 358 (by decide +kernel) (by decide +kernel)) tyX3_ok nmX3 rfl rfl rfl (Nat.le_of_ble_eq_true rfl) rfl dX3_init_56 (fun H locs hZ => ?_)
  refine lv_aload_n hx hb dX3_init_59 rfl (lv_at hl 0 rfl) ?_
  refine lv_iconst (v := (-1)) hx hb dX3_init_60 (by decide) ?_
  refine zc_put (ci := 3) (v := .int (-1)) (fs' := [.ref q_1, .ref (qa_3 0), .int 0, .int 0, .int 0, .int 0, .int 0, .int 0, .int 0, .int (-1)]) C0 hZ hin fRX3_44 (zmem 359 (by decide +kernel) (by decide +kernel)) tyX3_ok nmX3 rfl rfl rfl (Nat.le_of_ble_eq_true rfl) rfl dX3_init_61 (fun H locs hZ => ?_)
  exact zc_vret C0 (fun i => ([h0, q_1, qa_3 0, qa_3 1, qa_3 2, qa_3 3, qa_3 4, qa_3 5, qa_3 6, qa_3 7, qa_3 8, qa_3 9, qa_3 10, qa_3 11, qa_3 12, qa_3 13, qa_3 14, qa_3 15, qa_3 16, qa_3 17] : List Nat).getD i 0) [0, 1, 2, 3, 4, 5, 6, 7, 8, 9, 10, 11, 12, 13, 14, 15, 16, 17, 18, 19] hr hlk hZ rfl rfl (by decide +kernel) ⟨Nat.le_of_ble_eq_true rfl, Nat.le_of_ble_eq_true rfl⟩ dX3_init_64
