set_option maxHeartbeats 8000000 in
set_option maxRecDepth 100000 in
theorem kX8_init (l : Launch) {V : zV} {h0 : Nat} : zCi l yX8_init cX8_init 1 1 30 40 4924 V h0 8 cD8 [] (fun q => cW8 V q) := by
  refine zCi_of (by decide) (Nat.le_of_ble_eq_true rfl) ?_
  intro p e s m below meth c A C0 hr hlk hin hZ ls hl
  generalize (.ref h0 :: [] : List Value).toArray = args at C0 ⊢
  have hx := C0.1
  have hb := C0.2.1
  have hover : va_AO "java/lang/String" s := va_AO.of (C0.2.2.2.2 (.arrayOver (.object "java/lang/String")) (zmem 1392 (by decide +kernel) (by decide +kernel)))
  have hl : lv_has ls 1 [(0, .ref h0)] := hl
  have hp : ([] : List Value).length = 0 := rfl
  replace hZ : zC V A s s.heap [] ((h0, .inr (8, [] ++ [.null, .null, .int 0, .null, .null, .null, .null, .null, .null, .null, .null, .null, .null, .null, .null, .null, .null, .null, .int 0, .int 0, .int 0, .int 0, .int 0, .int 0, .int 0, .int 0, .int 0, .int 0, .null, .int 0, .int 0, .int 0, .int 0, .int 0, .int 0, .int 0, .int 0, .int 0, .null, .null, .null, .null, .null, .null, .null, .null, .int 0, .int 0, .int 0, .int 0, .int 0, .int 0, .int 0, .int 0, .int 0, .int 0, .int 0, .int 0, .int 0, .int 0, .int 0, .int 0, .int 0, .null, .null, .int 0, .null, .null, .null, .null, .null, .int 0, .int 0, .int 0, .int 0, .int 0, .null, .null, .null, .null, .null, .null, .null])) :: []) := hZ
  refine lv_aload_n hx hb dX8_init_0 rfl (lv_at hl 0 rfl) ?_
  refine zc_obj C0 hl.1 oRX8_3 dX8_init_1 ⟨Nat.le_of_ble_eq_true rfl, Nat.le_of_ble_eq_true rfl⟩ ?_
  replace hZ : zC V A s s.heap [] ((h0, .inr (8, [] ++ (.null :: .null :: .int 0 :: .null :: .null :: .null :: .null :: [.null, .null, .null, .null, .null, .null, .null, .null, .null, .null, .null, .int 0, .int 0, .int 0, .int 0, .int 0, .int 0, .int 0, .int 0, .int 0, .int 0, .null, .int 0, .int 0, .int 0, .int 0, .int 0, .int 0, .int 0, .int 0, .int 0, .null, .null, .null, .null, .null, .null, .null, .null, .int 0, .int 0, .int 0, .int 0, .int 0, .int 0, .int 0, .int 0, .int 0, .int 0, .int 0, .int 0, .int 0, .int 0, .int 0, .int 0, .int 0, .null, .null, .int 0, .null, .null, .null, .null, .null, .int 0, .int 0, .int 0, .int 0, .int 0, .null, .null, .null, .null, .null, .null, .null]))) :: []) := hZ
  have hp : ([] : List Value).length = 0 := rfl
  refine kY_0 C0 hin hl hover hp hZ (fun q_1 q_7 q_16 q_36 q_38 q_40 H locs hZ => ?_)
  sorry
