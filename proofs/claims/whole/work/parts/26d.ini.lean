set_option maxRecDepth 100000 in
set_option maxHeartbeats 4000000 in
theorem w0_map (V : zV) (q : Nat → Nat) : pw0.map (fun i => (cW7 V q)[i]?) = (zw 0 (zat V (fun k => q (pw0.getD k 0))) zs0).map some := Eq.trans rfl rfl
