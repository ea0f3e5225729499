set_option maxHeartbeats 8000000 in
set_option maxRecDepth 100000 in
theorem kX8_init (l : Launch) {V : zV} {h0 : Nat} : zCi l yX8_init cX8_init 1 1 30 40 4924 V h0 8 cD8 [] (fun q => cW8 V q) := by
  refine zCi_of (by decide) (Nat.le_of_ble_eq_true rfl) ?_
  intro p e s m below meth c A C0 hr hlk hin hZ ls hl
  generalize (.ref h0 :: [] : List Value).toArray = args at C0 ⊢
  have hx := C0.1
  have hb := C0.2.1
  have hover : va_AO "java/lang/String" s := va_AO.of (C0.2.2.2.2 (.arrayOver (.object "java/lang/String")) (zmem 1392 (by decide +kernel) (by decide +kernel)))
  have hl : lv_has ls 1 [(0, .ref h0)] := hl
  have hp : ([] : List Value).length = 0 := rfl
  replace hZ : zC V A s s.heap [] ((h0, .inr (8, [] ++ [.null, .null, .int 0, .null, .null, .null, .null, .null, .null, .null, .null, .null, .null, .null, .null, .null, .null, .null, .int 0, .int 0, .int 0, .int 0, .int 0, .int 0, .int 0, .int 0, .int 0, .int 0, .null, .int 0, .int 0, .int 0, .int 0, .int 0, .int 0, .int 0, .int 0, .int 0, .null, .null, .null, .null, .null, .null, .null, .null, .int 0, .int 0, .int 0, .int 0, .int 0, .int 0, .int 0, .int 0, .int 0, .int 0, .int 0, .int 0, .int 0, .int 0, .int 0, .int 0, .int 0, .null, .null, .int 0, .null, .null, .null, .null, .null, .int 0, .int 0, .int 0, .int 0, .int 0, .null, .null, .null, .null, .null, .null, .null])) :: []) := hZ
  refine lv_aload_n hx hb dX8_init_0 rfl (lv_at hl 0 rfl) ?_
  refine zc_obj C0 hl.1 oRX8_3 dX8_init_1 ⟨Nat.le_of_ble_eq_true rfl, Nat.le_of_ble_eq_true rfl⟩ ?_
  replace hZ : zC V A s s.heap [] ((h0, .inr (8, [] ++ (.null :: .null :: .int 0 :: .null :: .null :: .null :: .null :: [.null, .null, .null, .null, .null, .null, .null, .null, .null, .null, .null, .int 0, .int 0, .int 0, .int 0, .int 0, .int 0, .int 0, .int 0, .int 0, .int 0, .null, .int 0, .int 0, .int 0, .int 0, .int 0, .int 0, .int 0, .int 0, .int 0, .null, .null, .null, .null, .null, .null, .null, .null, .int 0, .int 0, .int 0, .int 0, .int 0, .int 0, .int 0, .int 0, .int 0, .int 0, .int 0, .int 0, .int 0, .int 0, .int 0, .int 0, .int 0, .null, .null, .int 0, .null, .null, .null, .null, .null, .int 0, .int 0, .int 0, .int 0, .int 0, .null, .null, .null, .null, .null, .null, .null]))) :: []) := hZ
  refine kY_0 C0 hin hl hover hp hZ (fun q_1 q_7 q_16 q_36 q_38 q_40 H locs hp hZ => ?_)
  refine kY_1 C0 hin hl hover hp hZ (fun q_42 q_44 q_46 q_48 q_50 q_52 H locs hp hZ => ?_)
  refine kY_2 C0 hin hl hover hp hZ (fun q_54 q_56 q_58 q_60 q_62 H locs hp hZ => ?_)
  refine kY_3 C0 hin hl hover hp hZ (fun q_65 q_68 q_70 q_72 q_74 H locs hp hZ => ?_)
  refine kY_4 C0 hin hl hover hp hZ (fun q_76 q_78 q_80 q_82 q_84 q_86 H locs hp hZ => ?_)
  refine kY_5 C0 hin hl hover hp hZ (fun q_88 q_90 q_92 q_94 q_96 q_98 H locs hp hZ => ?_)
  refine kY_6 C0 hin hl hover hp hZ (fun q_100 q_102 q_104 q_106 q_108 q_110 H locs hp hZ => ?_)
  simp only [List.append_assoc, List.nil_append, List.cons_append, List.append_nil] at hZ
  exact zc_vret C0 (fun i => ([h0, q_1, q_7, q_16, q_36, q_38, q_40, q_42, q_44, q_46, q_48, q_50, q_52, q_54, q_56, q_58, q_60, q_62, q_65, q_68, q_70, q_72, q_74, q_76, q_78, q_80, q_82, q_84, q_86, q_88, q_90, q_92, q_94, q_96, q_98, q_100, q_102, q_104, q_106, q_108, q_110] : List Nat).getD i 0) [0, 1, 2, 3, 4, 5, 6, 7, 8, 9, 10, 11, 12, 13, 14, 15, 16, 17, 18, 19, 20, 21, 22, 23, 24, 25, 26, 27, 28, 29, 30, 31, 32, 33, 34, 35, 36, 37, 38, 39, 40] hr hlk hZ rfl rfl (by decide +kernel) ⟨Nat.le_of_ble_eq_true rfl, Nat.le_of_ble_eq_true rfl⟩ dX8_init_482
