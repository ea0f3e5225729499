def cW5 (V : zV) (q : Nat → Nat) : va_W := [(q 0, .inr (5, [.ref (q 1), .ref (q 7), .ref (q 14), .int 3, .int 400, .int 1])), (q 1, .inr (1, [.int 0, .int 0, .int 0, .ref (q 2), .ref (q 3), .ref (q 4), .ref (q 5), .ref (q 6)])), (q 2, .inl (V.2.1.1, (10, .inl (fun _ => 0)))), (q 3, .inl (V.2.1.1, (10, .inl (fun _ => 0)))), (q 4, .inl (V.2.1.1, (10, .inl (fun _ => 0)))), (q 5, .inl (V.2.1.1, (10, .inl (fun _ => 0)))), (q 6, .inl (V.2.1.1, (100, .inl (fun _ => 0)))), (q 7, .inr (2, [.int 0, .ref (q 8), .ref (q 9), .ref (q 10), .ref (q 11), .ref (q 12), .ref (q 13)])), (q 8, .inl (V.2.1.1, (8, .inl (fun _ => 0)))), (q 9, .inl (V.2.1.1, (8, .inl (fun _ => 0)))), (q 10, .inl (V.2.1.1, (8, .inl (fun _ => 0)))), (q 11, .inl (V.2.1.1, (8, .inl (fun _ => 0)))), (q 12, .inl (V.2.1.1, (8, .inl (fun _ => 0)))), (q 13, .inl (V.2.1.1, (96, .inl (fun _ => 0)))), (q 14, .inr (4, [.int 0, .int 0, .ref (q 15), .ref (q 16), .ref (q 17), .int 0])), (q 15, .inl (V.2.1.1, (4, .inl (fun _ => 0)))), (q 16, .inl (V.2.1.1, (700, .inl (fun _ => 0)))), (q 17, .inl (V.2.1.1, (40, .inl (fun _ => 0))))]
set_option maxHeartbeats 8000000 in
set_option maxRecDepth 100000 in
theorem kX5_init (l : Launch) {V : zV} {h0 : Nat} : zCi l yX5_init cX5_init 1 2 50 17 1041 V h0 5 [.null, .null, .null, .int 0, .int 0, .int 0] [] (fun q => cW5 V q) := by
  refine zCi_of (by decide) (Nat.le_of_ble_eq_true rfl) ?_
  intro p e s m below meth c A C0 hr hlk hin hZ ls hl
  generalize (.ref h0 :: [] : List Value).toArray = args at C0 ⊢
  have hx := C0.1
  have hb := C0.2.1
  have hl : lv_has ls 1 [(0, .ref h0)] := hl
  replace hZ : zC V A s s.heap [] ((h0, .inr (5, [.null, .null, .null, .int 0, .int 0, .int 0])) :: []) := hZ
  refine lv_aload_n hx hb dX5_init_0 rfl (lv_at hl 0 rfl) ?_
  refine zc_obj C0 hl.1 oRX5_3 dX5_init_1 ⟨Nat.le_of_ble_eq_true rfl, Nat.le_of_ble_eq_true rfl⟩ ?_
  refine lv_aload_n hx hb dX5_init_4 rfl (lv_at hl 0 rfl) ?_
  refine zc_new (ci := 1) (fs := [.int 0, .int 0, .int 0, .null, .null, .null, .null, .null]) C0 hZ zin1 tyX1_ok (zmem 184 (by decide +kernel) (by decide +kernel)) (zmem 185 (by decide +kernel) (by decide +kernel)) (zmem 151 (by decide +kernel) (by decide +kernel)) rfl (fun j hj => by match j, hj with | 0, _ => rfl | 1, _ => rfl | 2, _ => rfl | 3, _ => rfl | 4, _ => rfl | 5, _ => rfl | 6, _ => rfl | 7, _ => rfl | j + 8, hj => exact absurd hj (by omega)) ⟨Nat.le_of_ble_eq_true rfl, Nat.le_of_ble_eq_true rfl⟩ dX5_init_5 (fun q_1 H hZ => ?_)
  replace hZ : zC V A s H _ ((h0, .inr (5, [.null, .null, .null, .int 0, .int 0, .int 0])) :: [] ++ [(q_1, .inr (1, [.int 0, .int 0, .int 0, .null, .null, .null, .null, .null]))]) := hZ
  refine lv_dup hx hb dX5_init_8 rfl ?_
  refine zc_init (As := []) (rest := [.ref q_1, .ref h0]) C0 (ws := (h0, .inr (5, [.null, .null, .null, .int 0, .int 0, .int 0])) :: []) hZ (kX1_init l) mRX5_11 iX1_init rfl rfl rfl hl.1 (Nat.le_of_ble_eq_true rfl) ⟨Nat.le_of_ble_eq_true rfl, Nat.le_of_ble_eq_true rfl⟩ dX5_init_9 ⟨Nat.le_of_ble_eq_true rfl, Nat.le_of_ble_eq_true rfl⟩ (fun qa_2 H locs hq_2 hZ => ?_)
  replace hZ : zC V A s H _ ((h0, .inr (5, [.null, .null, .null, .int 0, .int 0, .int 0])) :: ([] ++ cW1 V qa_2)) := hZ
  rw [← hq_2]
  refine zc_put (ci := 5) (v := .ref (qa_2 0)) (fs' := [.ref (qa_2 0), .null, .null, .int 0, .int 0, .int 0]) C0 hZ hin fRX5_12 (zmem 303 (by decide +kernel) (by decide +kernel)) tyX5_ok nmX5 rfl rfl rfl (Nat.le_of_ble_eq_true rfl) rfl dX5_init_12 (fun H locs hZ => ?_)
  refine lv_aload_n hx hb dX5_init_15 rfl (lv_at hl 0 rfl) ?_
  refine zc_new (ci := 2) (fs := [.int 0, .null, .null, .null, .null, .null, .null]) C0 hZ zin2 tyX2_ok (zmem 229 (by decide +kernel) (by decide +kernel)) (zmem 230 (by decide +kernel) (by decide +kernel)) (zmem 152 (by decide +kernel) (by decide +kernel)) rfl (fun j hj => by match j, hj with | 0, _ => rfl | 1, _ => rfl | 2, _ => rfl | 3, _ => rfl | 4, _ => rfl | 5, _ => rfl | 6, _ => rfl | j + 7, hj => exact absurd hj (by omega)) ⟨Nat.le_of_ble_eq_true rfl, Nat.le_of_ble_eq_true rfl⟩ dX5_init_16 (fun q_3 H hZ => ?_)
  replace hZ : zC V A s H _ ((h0, .inr (5, [.ref (qa_2 0), .null, .null, .int 0, .int 0, .int 0])) :: ([] ++ cW1 V qa_2) ++ [(q_3, .inr (2, [.int 0, .null, .null, .null, .null, .null, .null]))]) := hZ
  refine lv_dup hx hb dX5_init_19 rfl ?_
  refine zc_init (As := []) (rest := [.ref q_3, .ref h0]) C0 (ws := (h0, .inr (5, [.ref (qa_2 0), .null, .null, .int 0, .int 0, .int 0])) :: ([] ++ cW1 V qa_2)) hZ (kX2_init l) mRX5_20 iX2_init rfl rfl rfl hl.1 (Nat.le_of_ble_eq_true rfl) ⟨Nat.le_of_ble_eq_true rfl, Nat.le_of_ble_eq_true rfl⟩ dX5_init_20 ⟨Nat.le_of_ble_eq_true rfl, Nat.le_of_ble_eq_true rfl⟩ (fun qa_4 H locs hq_4 hZ => ?_)
  replace hZ : zC V A s H _ ((h0, .inr (5, [.ref (qa_2 0), .null, .null, .int 0, .int 0, .int 0])) :: (([] ++ cW1 V qa_2) ++ cW2 V qa_4)) := hZ
  rw [← hq_4]
  refine zc_put (ci := 5) (v := .ref (qa_4 0)) (fs' := [.ref (qa_2 0), .ref (qa_4 0), .null, .int 0, .int 0, .int 0]) C0 hZ hin fRX5_21 (zmem 308 (by decide +kernel) (by decide +kernel)) tyX5_ok nmX5 rfl rfl rfl (Nat.le_of_ble_eq_true rfl) rfl dX5_init_23 (fun H locs hZ => ?_)
  refine lv_aload_n hx hb dX5_init_26 rfl (lv_at hl 0 rfl) ?_
  refine zc_new (ci := 4) (fs := [.int 0, .int 0, .null, .null, .null, .int 0]) C0 hZ zin4 tyX4_ok (zmem 275 (by decide +kernel) (by decide +kernel)) (zmem 276 (by decide +kernel) (by decide +kernel)) (zmem 153 (by decide +kernel) (by decide +kernel)) rfl (fun j hj => by match j, hj with | 0, _ => rfl | 1, _ => rfl | 2, _ => rfl | 3, _ => rfl | 4, _ => rfl | 5, _ => rfl | j + 6, hj => exact absurd hj (by omega)) ⟨Nat.le_of_ble_eq_true rfl, Nat.le_of_ble_eq_true rfl⟩ dX5_init_27 (fun q_5 H hZ => ?_)
  replace hZ : zC V A s H _ ((h0, .inr (5, [.ref (qa_2 0), .ref (qa_4 0), .null, .int 0, .int 0, .int 0])) :: (([] ++ cW1 V qa_2) ++ cW2 V qa_4) ++ [(q_5, .inr (4, [.int 0, .int 0, .null, .null, .null, .int 0]))]) := hZ
  refine lv_dup hx hb dX5_init_30 rfl ?_
  refine zc_init (As := []) (rest := [.ref q_5, .ref h0]) C0 (ws := (h0, .inr (5, [.ref (qa_2 0), .ref (qa_4 0), .null, .int 0, .int 0, .int 0])) :: (([] ++ cW1 V qa_2) ++ cW2 V qa_4)) hZ (kX4_init l) mRX5_27 iX4_init rfl rfl rfl hl.1 (Nat.le_of_ble_eq_true rfl) ⟨Nat.le_of_ble_eq_true rfl, Nat.le_of_ble_eq_true rfl⟩ dX5_init_31 ⟨Nat.le_of_ble_eq_true rfl, Nat.le_of_ble_eq_true rfl⟩ (fun qa_6 H locs hq_6 hZ => ?_)
  replace hZ : zC V A s H _ ((h0, .inr (5, [.ref (qa_2 0), .ref (qa_4 0), .null, .int 0, .int 0, .int 0])) :: ((([] ++ cW1 V qa_2) ++ cW2 V qa_4) ++ cW4 V qa_6)) := hZ
  rw [← hq_6]
  refine zc_put (ci := 5) (v := .ref (qa_6 0)) (fs' := [.ref (qa_2 0), .ref (qa_4 0), .ref (qa_6 0), .int 0, .int 0, .int 0]) C0 hZ hin fRX5_28 (zmem 312 (by decide +kernel) (by decide +kernel)) tyX5_ok nmX5 rfl rfl rfl (Nat.le_of_ble_eq_true rfl) rfl dX5_init_34 (fun H locs hZ => ?_)
  refine lv_aload_n hx hb dX5_init_37 rfl (lv_at hl 0 rfl) ?_
  refine lv_iconst (v := 3) hx hb dX5_init_38 (by decide) ?_
  refine zc_put (ci := 5) (v := .int 3) (fs' := [.ref (qa_2 0), .ref (qa_4 0), .ref (qa_6 0), .int 3, .int 0, .int 0]) C0 hZ hin fRX5_32 (zmem 317 (by decide +kernel) (by decide +kernel)) tyX5_ok nmX5 rfl rfl rfl (Nat.le_of_ble_eq_true rfl) rfl dX5_init_39 (fun H locs hZ => ?_)
  refine lv_aload_n hx hb dX5_init_42 rfl (lv_at hl 0 rfl) ?_
  refine lv_sipush (v := 400) hx hb dX5_init_43 (by decide) ?_
  refine zc_put (ci := 5) (v := .int 400) (fs' := [.ref (qa_2 0), .ref (qa_4 0), .ref (qa_6 0), .int 3, .int 400, .int 0]) C0 hZ hin fRX5_36 (zmem 321 (by decide +kernel) (by decide +kernel)) tyX5_ok nmX5 rfl rfl rfl (Nat.le_of_ble_eq_true rfl) rfl dX5_init_46 (fun H locs hZ => ?_)
  refine lv_aload_n hx hb dX5_init_49 rfl (lv_at hl 0 rfl) ?_
  refine lv_iconst (v := 1) hx hb dX5_init_50 (by decide) ?_
  refine zc_put (ci := 5) (v := .int 1) (fs' := [.ref (qa_2 0), .ref (qa_4 0), .ref (qa_6 0), .int 3, .int 400, .int 1]) C0 hZ hin fRX5_39 (zmem 325 (by decide +kernel) (by decide +kernel)) tyX5_ok nmX5 rfl rfl rfl (Nat.le_of_ble_eq_true rfl) rfl dX5_init_51 (fun H locs hZ => ?_)
  exact zc_vret C0 (fun i => ([h0, qa_2 0, qa_2 1, qa_2 2, qa_2 3, qa_2 4, qa_2 5, qa_4 0, qa_4 1, qa_4 2, qa_4 3, qa_4 4, qa_4 5, qa_4 6, qa_6 0, qa_6 1, qa_6 2, qa_6 3] : List Nat).getD i 0) [0, 1, 2, 3, 4, 5, 6, 7, 8, 9, 10, 11, 12, 13, 14, 15, 16, 17] hr hlk hZ rfl rfl (by decide +kernel) ⟨Nat.le_of_ble_eq_true rfl, Nat.le_of_ble_eq_true rfl⟩ dX5_init_54
