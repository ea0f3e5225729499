noncomputable def FX7_needAisle (k0 : Nat) (x1 : Int32) (σ : zS) : Option zT3 := zgd (kd 0 (σ k0 2).toNatClampNeg == 5) (zlet (σ k0 2).toNatClampNeg (fun q_1 => zbd (FX1_hasAisle (q_1 + 1) x1 σ) (fun r_3 σ_2 => if r_3 = 0 then some (1, 0, σ_2) else some (0, 0, σ_2))))
set_option maxHeartbeats 4000000 in
set_option maxRecDepth 100000 in
theorem kX7_needAisle (l : Launch) (hfl : l.stackTraces = false) {V : zV} {σ : zS} {t0 : zT3} {k0 : Nat} {x1 : Int32} (hk0 : kd 0 k0 = 7) (h1 : FX7_needAisle k0 x1 σ = some t0) : zXv l yX7_needAisle cX7_needAisle 2 6 90 1 6 0 V σ t0 [.ref (zad V k0), .int x1] := by
  refine zXv_of (by decide) (Nat.le_of_ble_eq_true rfl) ?_
  intro p e s m below meth c A C0 hr hlk hnt hZ ls hl
  generalize ([.ref (zad V k0), .int x1] : List Value).toArray = args at C0 ⊢
  obtain ⟨Q, hQ⟩ : ∃ Q, Q = vx_MQ below (zxQv 0 V t0 A) (zxX 0 V t0 A) args s 1 6 A := ⟨_, rfl⟩
  rw [← hQ]
  have hx := C0.1
  have hb := C0.2.1
  have hl : lv_has ls 2 [(0, .ref (zad V k0)), (1, .int x1)] := hl
  unfold FX7_needAisle at h1
  refine lv_aload_n hx hb dX7_needAisle_0 rfl (lv_at hl 0 rfl) ?_
  refine z_getm C0 hZ h1 hk0 fRX7_19 rfl dX7_needAisle_1 (fun q_1 hq_1 h1 => ?_)
  refine z_getr C0 hZ hq_1 fRX7_103 rfl dX7_needAisle_4 ?_
  refine lv_iload_n hx hb dX7_needAisle_7 rfl (lv_at hl 1 rfl) ?_
  refine z_cVi (As := [.int x1]) (rest := []) C0 hZ h1 (fun _ hf => kX1_hasAisle l (zkt5_0 hq_1) hf) mRX7_225 vX1_hasAisle (zkt5_0 hq_1) rfl rfl hl.1 (Nat.le_of_ble_eq_true rfl) ⟨Nat.le_of_ble_eq_true rfl, Nat.le_of_ble_eq_true rfl⟩ dX7_needAisle_8 ⟨Nat.le_of_ble_eq_true rfl, Nat.le_of_ble_eq_true rfl⟩ (fun r_3 σ_2 H locs h1 hZ => ?_)
  refine z_if_ne (tgt := 22) C0 h1 dX7_needAisle_11 (by decide) (fun h1 => ?_) (fun h1 => ?_)
  · rw [hQ]; exact z_xvret C0 hr hlk hZ h1 ⟨Nat.le_of_ble_eq_true rfl, Nat.le_of_ble_eq_true rfl⟩ dX7_needAisle_22
  rw [hQ]; exact z_throw (n := 0) C0 hfl hnt hl.1 hlk hZ h1 xxRX7_171 dX7_needAisle_14 dX7_needAisle_17 dX7_needAisle_18 dX7_needAisle_21 ⟨Nat.le_of_ble_eq_true rfl, Nat.le_of_ble_eq_true rfl, Nat.le_of_ble_eq_true rfl, Nat.le_of_ble_eq_true rfl⟩ ⟨Nat.le_of_ble_eq_true rfl, Nat.le_of_ble_eq_true rfl⟩
noncomputable def FX7_aisle (k0 : Nat) (x1 : Int32) (x2 : Int32) (σ : zS) : Option zT3 := zbx (FX7_needAisle k0 x1 σ) (fun _ σ_1 => if x2 = 0 then zgd (kd 0 (σ_1 k0 2).toNatClampNeg == 5) (zlet (σ_1 k0 2).toNatClampNeg (fun q_2 => zbd (FX7_at ((q_2 + 1) + 1) x1 σ_1) (fun r_4 σ_3 => some (0, r_4, σ_3)))) else if x2 = 1 then zbd (FX7_at ((k0 + 6) + 2) x1 σ_1) (fun r_6 σ_5 => some (0, r_6, σ_5)) else if x2 = 2 then zgd (kd 0 (σ_1 k0 2).toNatClampNeg == 5) (zlet (σ_1 k0 2).toNatClampNeg (fun q_7 => zbd (FX7_at ((q_7 + 1) + 3) x1 σ_1) (fun r_9 σ_8 => some (0, r_9, σ_8)))) else if x2 = 3 then zbd (FX7_at ((k0 + 6) + 1) x1 σ_1) (fun r_11 σ_10 => some (0, r_11, σ_10)) else some (1, 0, σ_1)) (fun n σ => some (n, 0, σ))
set_option maxHeartbeats 4000000 in
set_option maxRecDepth 100000 in
theorem kX7_aisle (l : Launch) (hfl : l.stackTraces = false) {V : zV} {σ : zS} {t0 : zT3} {k0 : Nat} {x1 : Int32} {x2 : Int32} (hk0 : kd 0 k0 = 7) (h1 : FX7_aisle k0 x1 x2 σ = some t0) : zXi l yX7_aisle cX7_aisle 3 (some .int) 7 111 2 12 0 V σ t0 [.ref (zad V k0), .int x1, .int x2] := by
  refine zXi_of (by decide) (Nat.le_of_ble_eq_true rfl) ?_
  intro p e s m below meth c A C0 hr hlk hnt hZ ls hl
  generalize ([.ref (zad V k0), .int x1, .int x2] : List Value).toArray = args at C0 ⊢
  obtain ⟨Q, hQ⟩ : ∃ Q, Q = vx_MQ below (zxQ 0 V t0 A) (zxX 0 V t0 A) args s 2 12 A := ⟨_, rfl⟩
  rw [← hQ]
  have hx := C0.1
  have hb := C0.2.1
  have hl : lv_has ls 3 [(0, .ref (zad V k0)), (1, .int x1), (2, .int x2)] := hl
  unfold FX7_aisle at h1
  refine lv_aload_n hx hb dX7_aisle_0 rfl (lv_at hl 0 rfl) ?_
  refine lv_iload_n hx hb dX7_aisle_1 rfl (lv_at hl 1 rfl) ?_
  rw [hQ]
  refine z_xVv (As := [.int x1]) (rest := []) C0 hlk hnt hZ h1 (fun _ hf => kX7_needAisle l hfl hk0 hf) (zmem 1195 (by decide +kernel) (by decide +kernel)) mRX7_174 vX7_needAisle hk0 rfl rfl hl.1 (Nat.le_of_ble_eq_true rfl) ⟨Nat.le_of_ble_eq_true rfl, Nat.le_of_ble_eq_true rfl⟩ dX7_aisle_2 ⟨Nat.le_of_ble_eq_true rfl, Nat.le_of_ble_eq_true rfl⟩ ⟨Nat.le_of_ble_eq_true rfl, Nat.le_of_ble_eq_true rfl⟩ (fun _ σ_1 H locs h1 hZ => ?_)
  rw [← hQ]
  refine lv_iload_n hx hb dX7_aisle_5 rfl (lv_at hl 2 rfl) ?_
  refine z_case h1 (fun hv h1 => ?_) (fun e6_0 h1 => ?_)
  · refine lv_tableIn (tgt := 36) hx hb dX7_aisle_6 (by rw [hv]; decide) (by rw [hv]; decide) (by rw [hv]; rfl) (by decide) ?_
    refine lv_aload_n hx hb dX7_aisle_36 rfl (lv_at hl 0 rfl) ?_
    refine z_getm C0 hZ h1 hk0 fRX7_19 rfl dX7_aisle_37 (fun q_2 hq_2 h1 => ?_)
    refine z_getr C0 hZ hq_2 fRX7_103 rfl dX7_aisle_40 ?_
    refine z_getr C0 hZ (zkt5_0 hq_2) fRX7_177 rfl dX7_aisle_43 ?_
    refine lv_iload_n hx hb dX7_aisle_46 rfl (lv_at hl 1 rfl) ?_
    refine z_cSi (As := [.ref (zad V ((q_2 + 1) + 1)), .int x1]) (rest := []) C0 hZ h1 (fun _ hf => kX7_at l (zkt1_3 (zkt5_0 hq_2)) hf) mRX7_167 sX7_at rfl rfl hl.1 (Nat.le_of_ble_eq_true rfl) ⟨Nat.le_of_ble_eq_true rfl, Nat.le_of_ble_eq_true rfl⟩ dX7_aisle_47 ⟨Nat.le_of_ble_eq_true rfl, Nat.le_of_ble_eq_true rfl⟩ (fun r_4 σ_3 H locs h1 hZ => ?_)
    rw [hQ]; exact z_xiret C0 hr hlk hZ h1 ⟨Nat.le_of_ble_eq_true rfl, Nat.le_of_ble_eq_true rfl⟩ dX7_aisle_50
  refine z_case h1 (fun hv h1 => ?_) (fun e6_1 h1 => ?_)
  · refine lv_tableIn (tgt := 51) hx hb dX7_aisle_6 (by rw [hv]; decide) (by rw [hv]; decide) (by rw [hv]; rfl) (by decide) ?_
    refine lv_aload_n hx hb dX7_aisle_51 rfl (lv_at hl 0 rfl) ?_
    refine z_getr C0 hZ hk0 fRX7_33 rfl dX7_aisle_52 ?_
    refine z_getr C0 hZ (zkt7_4 hk0) fRX7_180 rfl dX7_aisle_55 ?_
    refine lv_iload_n hx hb dX7_aisle_58 rfl (lv_at hl 1 rfl) ?_
    refine z_cSi (As := [.ref (zad V ((k0 + 6) + 2)), .int x1]) (rest := []) C0 hZ h1 (fun _ hf => kX7_at l (zkt6_7 (zkt7_4 hk0)) hf) mRX7_167 sX7_at rfl rfl hl.1 (Nat.le_of_ble_eq_true rfl) ⟨Nat.le_of_ble_eq_true rfl, Nat.le_of_ble_eq_true rfl⟩ dX7_aisle_59 ⟨Nat.le_of_ble_eq_true rfl, Nat.le_of_ble_eq_true rfl⟩ (fun r_6 σ_5 H locs h1 hZ => ?_)
    rw [hQ]; exact z_xiret C0 hr hlk hZ h1 ⟨Nat.le_of_ble_eq_true rfl, Nat.le_of_ble_eq_true rfl⟩ dX7_aisle_62
  refine z_case h1 (fun hv h1 => ?_) (fun e6_2 h1 => ?_)
  · refine lv_tableIn (tgt := 63) hx hb dX7_aisle_6 (by rw [hv]; decide) (by rw [hv]; decide) (by rw [hv]; rfl) (by decide) ?_
    refine lv_aload_n hx hb dX7_aisle_63 rfl (lv_at hl 0 rfl) ?_
    refine z_getm C0 hZ h1 hk0 fRX7_19 rfl dX7_aisle_64 (fun q_7 hq_7 h1 => ?_)
    refine z_getr C0 hZ hq_7 fRX7_103 rfl dX7_aisle_67 ?_
    refine z_getr C0 hZ (zkt5_0 hq_7) fRX7_183 rfl dX7_aisle_70 ?_
    refine lv_iload_n hx hb dX7_aisle_73 rfl (lv_at hl 1 rfl) ?_
    refine z_cSi (As := [.ref (zad V ((q_7 + 1) + 3)), .int x1]) (rest := []) C0 hZ h1 (fun _ hf => kX7_at l (zkt1_5 (zkt5_0 hq_7)) hf) mRX7_167 sX7_at rfl rfl hl.1 (Nat.le_of_ble_eq_true rfl) ⟨Nat.le_of_ble_eq_true rfl, Nat.le_of_ble_eq_true rfl⟩ dX7_aisle_74 ⟨Nat.le_of_ble_eq_true rfl, Nat.le_of_ble_eq_true rfl⟩ (fun r_9 σ_8 H locs h1 hZ => ?_)
    rw [hQ]; exact z_xiret C0 hr hlk hZ h1 ⟨Nat.le_of_ble_eq_true rfl, Nat.le_of_ble_eq_true rfl⟩ dX7_aisle_77
  refine z_case h1 (fun hv h1 => ?_) (fun e6_3 h1 => ?_)
  · refine lv_tableIn (tgt := 78) hx hb dX7_aisle_6 (by rw [hv]; decide) (by rw [hv]; decide) (by rw [hv]; rfl) (by decide) ?_
    refine lv_aload_n hx hb dX7_aisle_78 rfl (lv_at hl 0 rfl) ?_
    refine z_getr C0 hZ hk0 fRX7_33 rfl dX7_aisle_79 ?_
    refine z_getr C0 hZ (zkt7_4 hk0) fRX7_186 rfl dX7_aisle_82 ?_
    refine lv_iload_n hx hb dX7_aisle_85 rfl (lv_at hl 1 rfl) ?_
    refine z_cSi (As := [.ref (zad V ((k0 + 6) + 1)), .int x1]) (rest := []) C0 hZ h1 (fun _ hf => kX7_at l (zkt6_6 (zkt7_4 hk0)) hf) mRX7_167 sX7_at rfl rfl hl.1 (Nat.le_of_ble_eq_true rfl) ⟨Nat.le_of_ble_eq_true rfl, Nat.le_of_ble_eq_true rfl⟩ dX7_aisle_86 ⟨Nat.le_of_ble_eq_true rfl, Nat.le_of_ble_eq_true rfl⟩ (fun r_11 σ_10 H locs h1 hZ => ?_)
    rw [hQ]; exact z_xiret C0 hr hlk hZ h1 ⟨Nat.le_of_ble_eq_true rfl, Nat.le_of_ble_eq_true rfl⟩ dX7_aisle_89
  refine lv_tableOut (tgt := 90) hx hb dX7_aisle_6 (z_tout [0, 1, 2, 3] (by decide) (by decide) (List.forall_mem_cons.mpr ⟨e6_0, List.forall_mem_cons.mpr ⟨e6_1, List.forall_mem_cons.mpr ⟨e6_2, List.forall_mem_cons.mpr ⟨e6_3, fun _ h => absurd h List.not_mem_nil⟩⟩⟩⟩)) (by decide) ?_
  rw [hQ]; exact z_throw (n := 0) C0 hfl hnt hl.1 hlk hZ h1 xxRX7_171 dX7_aisle_90 dX7_aisle_93 dX7_aisle_94 dX7_aisle_97 ⟨Nat.le_of_ble_eq_true rfl, Nat.le_of_ble_eq_true rfl, Nat.le_of_ble_eq_true rfl, Nat.le_of_ble_eq_true rfl⟩ ⟨Nat.le_of_ble_eq_true rfl, Nat.le_of_ble_eq_true rfl⟩
noncomputable def FX7_needPerson (k0 : Nat) (x1 : Int32) (σ : zS) : Option zT3 := zgd (kd 0 (σ k0 2).toNatClampNeg == 5) (zlet (σ k0 2).toNatClampNeg (fun q_1 => zbd (FX2_hasPerson (q_1 + 7) x1 σ) (fun r_3 σ_2 => if r_3 = 0 then some (1, 0, σ_2) else some (0, 0, σ_2))))
set_option maxHeartbeats 4000000 in
set_option maxRecDepth 100000 in
theorem kX7_needPerson (l : Launch) (hfl : l.stackTraces = false) {V : zV} {σ : zS} {t0 : zT3} {k0 : Nat} {x1 : Int32} (hk0 : kd 0 k0 = 7) (h1 : FX7_needPerson k0 x1 σ = some t0) : zXv l yX7_needPerson cX7_needPerson 2 6 90 1 6 0 V σ t0 [.ref (zad V k0), .int x1] := by
  refine zXv_of (by decide) (Nat.le_of_ble_eq_true rfl) ?_
  intro p e s m below meth c A C0 hr hlk hnt hZ ls hl
  generalize ([.ref (zad V k0), .int x1] : List Value).toArray = args at C0 ⊢
  obtain ⟨Q, hQ⟩ : ∃ Q, Q = vx_MQ below (zxQv 0 V t0 A) (zxX 0 V t0 A) args s 1 6 A := ⟨_, rfl⟩
  rw [← hQ]
  have hx := C0.1
  have hb := C0.2.1
  have hl : lv_has ls 2 [(0, .ref (zad V k0)), (1, .int x1)] := hl
  unfold FX7_needPerson at h1
  refine lv_aload_n hx hb dX7_needPerson_0 rfl (lv_at hl 0 rfl) ?_
  refine z_getm C0 hZ h1 hk0 fRX7_19 rfl dX7_needPerson_1 (fun q_1 hq_1 h1 => ?_)
  refine z_getr C0 hZ hq_1 fRX7_118 rfl dX7_needPerson_4 ?_
  refine lv_iload_n hx hb dX7_needPerson_7 rfl (lv_at hl 1 rfl) ?_
  refine z_cVi (As := [.int x1]) (rest := []) C0 hZ h1 (fun _ hf => kX2_hasPerson l (zkt5_1 hq_1) hf) mRX7_221 vX2_hasPerson (zkt5_1 hq_1) rfl rfl hl.1 (Nat.le_of_ble_eq_true rfl) ⟨Nat.le_of_ble_eq_true rfl, Nat.le_of_ble_eq_true rfl⟩ dX7_needPerson_8 ⟨Nat.le_of_ble_eq_true rfl, Nat.le_of_ble_eq_true rfl⟩ (fun r_3 σ_2 H locs h1 hZ => ?_)
  refine z_if_ne (tgt := 22) C0 h1 dX7_needPerson_11 (by decide) (fun h1 => ?_) (fun h1 => ?_)
  · rw [hQ]; exact z_xvret C0 hr hlk hZ h1 ⟨Nat.le_of_ble_eq_true rfl, Nat.le_of_ble_eq_true rfl⟩ dX7_needPerson_22
  rw [hQ]; exact z_throw (n := 0) C0 hfl hnt hl.1 hlk hZ h1 xxRX7_171 dX7_needPerson_14 dX7_needPerson_17 dX7_needPerson_18 dX7_needPerson_21 ⟨Nat.le_of_ble_eq_true rfl, Nat.le_of_ble_eq_true rfl, Nat.le_of_ble_eq_true rfl, Nat.le_of_ble_eq_true rfl⟩ ⟨Nat.le_of_ble_eq_true rfl, Nat.le_of_ble_eq_true rfl⟩
noncomputable def FX7_person (k0 : Nat) (x1 : Int32) (x2 : Int32) (σ : zS) : Option zT3 := zbx (FX7_needPerson k0 x1 σ) (fun _ σ_1 => if x2 = 0 then zgd (kd 0 (σ_1 k0 2).toNatClampNeg == 5) (zlet (σ_1 k0 2).toNatClampNeg (fun q_2 => zbd (FX7_at ((q_2 + 7) + 1) x1 σ_1) (fun r_4 σ_3 => some (0, r_4, σ_3)))) else if x2 = 1 then zgd (kd 0 (σ_1 k0 2).toNatClampNeg == 5) (zlet (σ_1 k0 2).toNatClampNeg (fun q_5 => zbd (FX7_at ((q_5 + 7) + 2) x1 σ_1) (fun r_7 σ_6 => some (0, r_7, σ_6)))) else if x2 = 2 then zgd (kd 0 (σ_1 k0 2).toNatClampNeg == 5) (zlet (σ_1 k0 2).toNatClampNeg (fun q_8 => zbd (FX7_at ((q_8 + 7) + 3) x1 σ_1) (fun r_10 σ_9 => some (0, r_10, σ_9)))) else if x2 = 3 then zgd (kd 0 (σ_1 k0 2).toNatClampNeg == 5) (zlet (σ_1 k0 2).toNatClampNeg (fun q_11 => zbd (FX7_at ((q_11 + 7) + 4) x1 σ_1) (fun r_13 σ_12 => some (0, r_13, σ_12)))) else if x2 = 4 then zgd (kd 0 (σ_1 k0 2).toNatClampNeg == 5) (zlet (σ_1 k0 2).toNatClampNeg (fun q_14 => zbd (FX7_at ((q_14 + 7) + 5) x1 σ_1) (fun r_16 σ_15 => some (0, r_16, σ_15)))) else some (1, 0, σ_1)) (fun n σ => some (n, 0, σ))
set_option maxHeartbeats 4000000 in
set_option maxRecDepth 100000 in
theorem kX7_person (l : Launch) (hfl : l.stackTraces = false) {V : zV} {σ : zS} {t0 : zT3} {k0 : Nat} {x1 : Int32} {x2 : Int32} (hk0 : kd 0 k0 = 7) (h1 : FX7_person k0 x1 x2 σ = some t0) : zXi l yX7_person cX7_person 3 (some .int) 7 111 2 12 0 V σ t0 [.ref (zad V k0), .int x1, .int x2] := by
  refine zXi_of (by decide) (Nat.le_of_ble_eq_true rfl) ?_
  intro p e s m below meth c A C0 hr hlk hnt hZ ls hl
  generalize ([.ref (zad V k0), .int x1, .int x2] : List Value).toArray = args at C0 ⊢
  obtain ⟨Q, hQ⟩ : ∃ Q, Q = vx_MQ below (zxQ 0 V t0 A) (zxX 0 V t0 A) args s 2 12 A := ⟨_, rfl⟩
  rw [← hQ]
  have hx := C0.1
  have hb := C0.2.1
  have hl : lv_has ls 3 [(0, .ref (zad V k0)), (1, .int x1), (2, .int x2)] := hl
  unfold FX7_person at h1
  refine lv_aload_n hx hb dX7_person_0 rfl (lv_at hl 0 rfl) ?_
  refine lv_iload_n hx hb dX7_person_1 rfl (lv_at hl 1 rfl) ?_
  rw [hQ]
  refine z_xVv (As := [.int x1]) (rest := []) C0 hlk hnt hZ h1 (fun _ hf => kX7_needPerson l hfl hk0 hf) (zmem 1206 (by decide +kernel) (by decide +kernel)) mRX7_189 vX7_needPerson hk0 rfl rfl hl.1 (Nat.le_of_ble_eq_true rfl) ⟨Nat.le_of_ble_eq_true rfl, Nat.le_of_ble_eq_true rfl⟩ dX7_person_2 ⟨Nat.le_of_ble_eq_true rfl, Nat.le_of_ble_eq_true rfl⟩ ⟨Nat.le_of_ble_eq_true rfl, Nat.le_of_ble_eq_true rfl⟩ (fun _ σ_1 H locs h1 hZ => ?_)
  rw [← hQ]
  refine lv_iload_n hx hb dX7_person_5 rfl (lv_at hl 2 rfl) ?_
  refine z_case h1 (fun hv h1 => ?_) (fun e6_0 h1 => ?_)
  · refine lv_tableIn (tgt := 40) hx hb dX7_person_6 (by rw [hv]; decide) (by rw [hv]; decide) (by rw [hv]; rfl) (by decide) ?_
    refine lv_aload_n hx hb dX7_person_40 rfl (lv_at hl 0 rfl) ?_
    refine z_getm C0 hZ h1 hk0 fRX7_19 rfl dX7_person_41 (fun q_2 hq_2 h1 => ?_)
    refine z_getr C0 hZ hq_2 fRX7_118 rfl dX7_person_44 ?_
    refine z_getr C0 hZ (zkt5_1 hq_2) fRX7_192 rfl dX7_person_47 ?_
    refine lv_iload_n hx hb dX7_person_50 rfl (lv_at hl 1 rfl) ?_
    refine z_cSi (As := [.ref (zad V ((q_2 + 7) + 1)), .int x1]) (rest := []) C0 hZ h1 (fun _ hf => kX7_at l (zkt2_1 (zkt5_1 hq_2)) hf) mRX7_167 sX7_at rfl rfl hl.1 (Nat.le_of_ble_eq_true rfl) ⟨Nat.le_of_ble_eq_true rfl, Nat.le_of_ble_eq_true rfl⟩ dX7_person_51 ⟨Nat.le_of_ble_eq_true rfl, Nat.le_of_ble_eq_true rfl⟩ (fun r_4 σ_3 H locs h1 hZ => ?_)
    rw [hQ]; exact z_xiret C0 hr hlk hZ h1 ⟨Nat.le_of_ble_eq_true rfl, Nat.le_of_ble_eq_true rfl⟩ dX7_person_54
  refine z_case h1 (fun hv h1 => ?_) (fun e6_1 h1 => ?_)
  · refine lv_tableIn (tgt := 55) hx hb dX7_person_6 (by rw [hv]; decide) (by rw [hv]; decide) (by rw [hv]; rfl) (by decide) ?_
    refine lv_aload_n hx hb dX7_person_55 rfl (lv_at hl 0 rfl) ?_
    refine z_getm C0 hZ h1 hk0 fRX7_19 rfl dX7_person_56 (fun q_5 hq_5 h1 => ?_)
    refine z_getr C0 hZ hq_5 fRX7_118 rfl dX7_person_59 ?_
    refine z_getr C0 hZ (zkt5_1 hq_5) fRX7_195 rfl dX7_person_62 ?_
    refine lv_iload_n hx hb dX7_person_65 rfl (lv_at hl 1 rfl) ?_
    refine z_cSi (As := [.ref (zad V ((q_5 + 7) + 2)), .int x1]) (rest := []) C0 hZ h1 (fun _ hf => kX7_at l (zkt2_2 (zkt5_1 hq_5)) hf) mRX7_167 sX7_at rfl rfl hl.1 (Nat.le_of_ble_eq_true rfl) ⟨Nat.le_of_ble_eq_true rfl, Nat.le_of_ble_eq_true rfl⟩ dX7_person_66 ⟨Nat.le_of_ble_eq_true rfl, Nat.le_of_ble_eq_true rfl⟩ (fun r_7 σ_6 H locs h1 hZ => ?_)
    rw [hQ]; exact z_xiret C0 hr hlk hZ h1 ⟨Nat.le_of_ble_eq_true rfl, Nat.le_of_ble_eq_true rfl⟩ dX7_person_69
  refine z_case h1 (fun hv h1 => ?_) (fun e6_2 h1 => ?_)
  · refine lv_tableIn (tgt := 70) hx hb dX7_person_6 (by rw [hv]; decide) (by rw [hv]; decide) (by rw [hv]; rfl) (by decide) ?_
    refine lv_aload_n hx hb dX7_person_70 rfl (lv_at hl 0 rfl) ?_
    refine z_getm C0 hZ h1 hk0 fRX7_19 rfl dX7_person_71 (fun q_8 hq_8 h1 => ?_)
    refine z_getr C0 hZ hq_8 fRX7_118 rfl dX7_person_74 ?_
    refine z_getr C0 hZ (zkt5_1 hq_8) fRX7_198 rfl dX7_person_77 ?_
    refine lv_iload_n hx hb dX7_person_80 rfl (lv_at hl 1 rfl) ?_
    refine z_cSi (As := [.ref (zad V ((q_8 + 7) + 3)), .int x1]) (rest := []) C0 hZ h1 (fun _ hf => kX7_at l (zkt2_3 (zkt5_1 hq_8)) hf) mRX7_167 sX7_at rfl rfl hl.1 (Nat.le_of_ble_eq_true rfl) ⟨Nat.le_of_ble_eq_true rfl, Nat.le_of_ble_eq_true rfl⟩ dX7_person_81 ⟨Nat.le_of_ble_eq_true rfl, Nat.le_of_ble_eq_true rfl⟩ (fun r_10 σ_9 H locs h1 hZ => ?_)
    rw [hQ]; exact z_xiret C0 hr hlk hZ h1 ⟨Nat.le_of_ble_eq_true rfl, Nat.le_of_ble_eq_true rfl⟩ dX7_person_84
  refine z_case h1 (fun hv h1 => ?_) (fun e6_3 h1 => ?_)
  · refine lv_tableIn (tgt := 85) hx hb dX7_person_6 (by rw [hv]; decide) (by rw [hv]; decide) (by rw [hv]; rfl) (by decide) ?_
    refine lv_aload_n hx hb dX7_person_85 rfl (lv_at hl 0 rfl) ?_
    refine z_getm C0 hZ h1 hk0 fRX7_19 rfl dX7_person_86 (fun q_11 hq_11 h1 => ?_)
    refine z_getr C0 hZ hq_11 fRX7_118 rfl dX7_person_89 ?_
    refine z_getr C0 hZ (zkt5_1 hq_11) fRX7_201 rfl dX7_person_92 ?_
    refine lv_iload_n hx hb dX7_person_95 rfl (lv_at hl 1 rfl) ?_
    refine z_cSi (As := [.ref (zad V ((q_11 + 7) + 4)), .int x1]) (rest := []) C0 hZ h1 (fun _ hf => kX7_at l (zkt2_4 (zkt5_1 hq_11)) hf) mRX7_167 sX7_at rfl rfl hl.1 (Nat.le_of_ble_eq_true rfl) ⟨Nat.le_of_ble_eq_true rfl, Nat.le_of_ble_eq_true rfl⟩ dX7_person_96 ⟨Nat.le_of_ble_eq_true rfl, Nat.le_of_ble_eq_true rfl⟩ (fun r_13 σ_12 H locs h1 hZ => ?_)
    rw [hQ]; exact z_xiret C0 hr hlk hZ h1 ⟨Nat.le_of_ble_eq_true rfl, Nat.le_of_ble_eq_true rfl⟩ dX7_person_99
  refine z_case h1 (fun hv h1 => ?_) (fun e6_4 h1 => ?_)
  · refine lv_tableIn (tgt := 100) hx hb dX7_person_6 (by rw [hv]; decide) (by rw [hv]; decide) (by rw [hv]; rfl) (by decide) ?_
    refine lv_aload_n hx hb dX7_person_100 rfl (lv_at hl 0 rfl) ?_
    refine z_getm C0 hZ h1 hk0 fRX7_19 rfl dX7_person_101 (fun q_14 hq_14 h1 => ?_)
    refine z_getr C0 hZ hq_14 fRX7_118 rfl dX7_person_104 ?_
    refine z_getr C0 hZ (zkt5_1 hq_14) fRX7_204 rfl dX7_person_107 ?_
    refine lv_iload_n hx hb dX7_person_110 rfl (lv_at hl 1 rfl) ?_
    refine z_cSi (As := [.ref (zad V ((q_14 + 7) + 5)), .int x1]) (rest := []) C0 hZ h1 (fun _ hf => kX7_at l (zkt2_5 (zkt5_1 hq_14)) hf) mRX7_167 sX7_at rfl rfl hl.1 (Nat.le_of_ble_eq_true rfl) ⟨Nat.le_of_ble_eq_true rfl, Nat.le_of_ble_eq_true rfl⟩ dX7_person_111 ⟨Nat.le_of_ble_eq_true rfl, Nat.le_of_ble_eq_true rfl⟩ (fun r_16 σ_15 H locs h1 hZ => ?_)
    rw [hQ]; exact z_xiret C0 hr hlk hZ h1 ⟨Nat.le_of_ble_eq_true rfl, Nat.le_of_ble_eq_true rfl⟩ dX7_person_114
  refine lv_tableOut (tgt := 115) hx hb dX7_person_6 (z_tout [0, 1, 2, 3, 4] (by decide) (by decide) (List.forall_mem_cons.mpr ⟨e6_0, List.forall_mem_cons.mpr ⟨e6_1, List.forall_mem_cons.mpr ⟨e6_2, List.forall_mem_cons.mpr ⟨e6_3, List.forall_mem_cons.mpr ⟨e6_4, fun _ h => absurd h List.not_mem_nil⟩⟩⟩⟩⟩)) (by decide) ?_
  rw [hQ]; exact z_throw (n := 0) C0 hfl hnt hl.1 hlk hZ h1 xxRX7_171 dX7_person_115 dX7_person_118 dX7_person_119 dX7_person_122 ⟨Nat.le_of_ble_eq_true rfl, Nat.le_of_ble_eq_true rfl, Nat.le_of_ble_eq_true rfl, Nat.le_of_ble_eq_true rfl⟩ ⟨Nat.le_of_ble_eq_true rfl, Nat.le_of_ble_eq_true rfl⟩
noncomputable def FX7_route_b27  (σ : zS) : Option zT3 := some (1, 0, σ)
noncomputable def FX7_route (k0 : Nat) (x1 : Int32) (x2 : Int32) (σ : zS) : Option zT3 := zbx (FX7_needPerson k0 x1 σ) (fun _ σ_1 => if x2 < 0 then FX7_route_b27  σ_1 else zgd (kd 0 (σ_1 k0 2).toNatClampNeg == 5) (zlet (σ_1 k0 2).toNatClampNeg (fun q_2 => zbd (FX7_at ((q_2 + 7) + 5) x1 σ_1) (fun r_4 σ_3 => if x2 < r_4 then zgd (kd 0 (σ_3 k0 2).toNatClampNeg == 5) (zlet (σ_3 k0 2).toNatClampNeg (fun q_5 => zbd (FX2_stepOf (q_5 + 7) x1 x2 σ_3) (fun r_7 σ_6 => some (0, r_7, σ_6)))) else FX7_route_b27  σ_3)))) (fun n σ => some (n, 0, σ))
set_option maxHeartbeats 4000000 in
set_option maxRecDepth 100000 in
theorem kX7_route (l : Launch) (hfl : l.stackTraces = false) {V : zV} {σ : zS} {t0 : zT3} {k0 : Nat} {x1 : Int32} {x2 : Int32} (hk0 : kd 0 k0 = 7) (h1 : FX7_route k0 x1 x2 σ = some t0) : zXi l yX7_route cX7_route 3 (some .int) 7 111 2 12 0 V σ t0 [.ref (zad V k0), .int x1, .int x2] := by
  refine zXi_of (by decide) (Nat.le_of_ble_eq_true rfl) ?_
  intro p e s m below meth c A C0 hr hlk hnt hZ ls hl
  generalize ([.ref (zad V k0), .int x1, .int x2] : List Value).toArray = args at C0 ⊢
  obtain ⟨Q, hQ⟩ : ∃ Q, Q = vx_MQ below (zxQ 0 V t0 A) (zxX 0 V t0 A) args s 2 12 A := ⟨_, rfl⟩
  rw [← hQ]
  have hx := C0.1
  have hb := C0.2.1
  have hl : lv_has ls 3 [(0, .ref (zad V k0)), (1, .int x1), (2, .int x2)] := hl
  unfold FX7_route at h1
  have J27 : ∀  (σ : zS) (H : Heap) (locs : List Loc) (ls : Array Slot), zZ 0 V A σ s H locs → lv_has ls 3 [] → FX7_route_b27  σ = some t0 → W p l e { frames := 7, cells := 2, slots := 12, locals := 111 } s m args below meth c H locs 1 6 Q (F0 m 27 ls []) := by
    intro  σ H locs ls  hZ hl h1
    unfold FX7_route_b27 at h1
    rw [hQ]; exact z_throw (n := 0) C0 hfl hnt hl.1 hlk hZ h1 xxRX7_171 dX7_route_27 dX7_route_30 dX7_route_31 dX7_route_34 ⟨Nat.le_of_ble_eq_true rfl, Nat.le_of_ble_eq_true rfl, Nat.le_of_ble_eq_true rfl, Nat.le_of_ble_eq_true rfl⟩ ⟨Nat.le_of_ble_eq_true rfl, Nat.le_of_ble_eq_true rfl⟩
  refine lv_aload_n hx hb dX7_route_0 rfl (lv_at hl 0 rfl) ?_
  refine lv_iload_n hx hb dX7_route_1 rfl (lv_at hl 1 rfl) ?_
  rw [hQ]
  refine z_xVv (As := [.int x1]) (rest := []) C0 hlk hnt hZ h1 (fun _ hf => kX7_needPerson l hfl hk0 hf) (zmem 1206 (by decide +kernel) (by decide +kernel)) mRX7_189 vX7_needPerson hk0 rfl rfl hl.1 (Nat.le_of_ble_eq_true rfl) ⟨Nat.le_of_ble_eq_true rfl, Nat.le_of_ble_eq_true rfl⟩ dX7_route_2 ⟨Nat.le_of_ble_eq_true rfl, Nat.le_of_ble_eq_true rfl⟩ ⟨Nat.le_of_ble_eq_true rfl, Nat.le_of_ble_eq_true rfl⟩ (fun _ σ_1 H locs h1 hZ => ?_)
  rw [← hQ]
  refine lv_iload_n hx hb dX7_route_5 rfl (lv_at hl 2 rfl) ?_
  refine z_if_lt (tgt := 27) C0 h1 dX7_route_6 (by decide) (fun h1 => ?_) (fun h1 => ?_)
  · exact J27  _ _ _ _  hZ (lv_sub hl [] rfl) h1
  refine lv_iload_n hx hb dX7_route_9 rfl (lv_at hl 2 rfl) ?_
  refine lv_aload_n hx hb dX7_route_10 rfl (lv_at hl 0 rfl) ?_
  refine z_getm C0 hZ h1 hk0 fRX7_19 rfl dX7_route_11 (fun q_2 hq_2 h1 => ?_)
  refine z_getr C0 hZ hq_2 fRX7_118 rfl dX7_route_14 ?_
  refine z_getr C0 hZ (zkt5_1 hq_2) fRX7_204 rfl dX7_route_17 ?_
  refine lv_iload_n hx hb dX7_route_20 rfl (lv_at hl 1 rfl) ?_
  refine z_cSi (As := [.ref (zad V ((q_2 + 7) + 5)), .int x1]) (rest := [.int x2]) C0 hZ h1 (fun _ hf => kX7_at l (zkt2_5 (zkt5_1 hq_2)) hf) mRX7_167 sX7_at rfl rfl hl.1 (Nat.le_of_ble_eq_true rfl) ⟨Nat.le_of_ble_eq_true rfl, Nat.le_of_ble_eq_true rfl⟩ dX7_route_21 ⟨Nat.le_of_ble_eq_true rfl, Nat.le_of_ble_eq_true rfl⟩ (fun r_4 σ_3 H locs h1 hZ => ?_)
  refine z_ic_lt (tgt := 35) C0 h1 dX7_route_24 (by decide) (fun h1 => ?_) (fun h1 => ?_)
  · refine lv_aload_n hx hb dX7_route_35 rfl (lv_at hl 0 rfl) ?_
    refine z_getm C0 hZ h1 hk0 fRX7_19 rfl dX7_route_36 (fun q_5 hq_5 h1 => ?_)
    refine z_getr C0 hZ hq_5 fRX7_118 rfl dX7_route_39 ?_
    refine lv_iload_n hx hb dX7_route_42 rfl (lv_at hl 1 rfl) ?_
    refine lv_iload_n hx hb dX7_route_43 rfl (lv_at hl 2 rfl) ?_
    refine z_cVi (As := [.int x1, .int x2]) (rest := []) C0 hZ h1 (fun _ hf => kX2_stepOf l (zkt5_1 hq_5) hf) mRX7_207 vX2_stepOf (zkt5_1 hq_5) rfl rfl hl.1 (Nat.le_of_ble_eq_true rfl) ⟨Nat.le_of_ble_eq_true rfl, Nat.le_of_ble_eq_true rfl⟩ dX7_route_44 ⟨Nat.le_of_ble_eq_true rfl, Nat.le_of_ble_eq_true rfl⟩ (fun r_7 σ_6 H locs h1 hZ => ?_)
    rw [hQ]; exact z_xiret C0 hr hlk hZ h1 ⟨Nat.le_of_ble_eq_true rfl, Nat.le_of_ble_eq_true rfl⟩ dX7_route_47
  exact J27  _ _ _ _  hZ (lv_sub hl [] rfl) h1
noncomputable def FX7_far_b34 (y0 : Int32) (σ : zS) : Option zT3 := some (0, y0, σ)
noncomputable def FX7_far (k0 : Nat) (x1 : Int32) (x2 : Int32) (σ : zS) : Option zT3 := zbx (FX7_needAisle k0 x1 σ) (fun _ σ_1 => zbx (FX7_needAisle k0 x2 σ_1) (fun _ σ_2 => zgd (kd 0 (σ_2 k0 2).toNatClampNeg == 5) (zlet (σ_2 k0 2).toNatClampNeg (fun q_3 => zbd (FX1_between (q_3 + 1) x1 x2 σ_2) (fun r_5 σ_4 => zlet r_5 (fun x3_6 => if x3_6 = 99 then FX7_far_b34 (-1) σ_4 else FX7_far_b34 x3_6 σ_4))))) (fun n σ => some (n, 0, σ))) (fun n σ => some (n, 0, σ))
set_option maxHeartbeats 4000000 in
set_option maxRecDepth 100000 in
theorem kX7_far (l : Launch) (hfl : l.stackTraces = false) {V : zV} {σ : zS} {t0 : zT3} {k0 : Nat} {x1 : Int32} {x2 : Int32} (hk0 : kd 0 k0 = 7) (h1 : FX7_far k0 x1 x2 σ = some t0) : zXi l yX7_far cX7_far 4 (some .int) 7 111 2 12 0 V σ t0 [.ref (zad V k0), .int x1, .int x2] := by
  refine zXi_of (by decide) (Nat.le_of_ble_eq_true rfl) ?_
  intro p e s m below meth c A C0 hr hlk hnt hZ ls hl
  generalize ([.ref (zad V k0), .int x1, .int x2] : List Value).toArray = args at C0 ⊢
  obtain ⟨Q, hQ⟩ : ∃ Q, Q = vx_MQ below (zxQ 0 V t0 A) (zxX 0 V t0 A) args s 2 12 A := ⟨_, rfl⟩
  rw [← hQ]
  have hx := C0.1
  have hb := C0.2.1
  have hl : lv_has ls 4 [(0, .ref (zad V k0)), (1, .int x1), (2, .int x2)] := hl
  unfold FX7_far at h1
  have J34 : ∀ (y0 : Int32) (σ : zS) (H : Heap) (locs : List Loc) (ls : Array Slot), zZ 0 V A σ s H locs → lv_has ls 4 [] → FX7_far_b34 y0 σ = some t0 → W p l e { frames := 7, cells := 2, slots := 12, locals := 111 } s m args below meth c H locs 2 12 Q (F0 m 34 ls [.int y0]) := by
    intro y0 σ H locs ls  hZ hl h1
    unfold FX7_far_b34 at h1
    rw [hQ]; exact z_xiret C0 hr hlk hZ h1 ⟨Nat.le_of_ble_eq_true rfl, Nat.le_of_ble_eq_true rfl⟩ dX7_far_34
  refine lv_aload_n hx hb dX7_far_0 rfl (lv_at hl 0 rfl) ?_
  refine lv_iload_n hx hb dX7_far_1 rfl (lv_at hl 1 rfl) ?_
  rw [hQ]
  refine z_xVv (As := [.int x1]) (rest := []) C0 hlk hnt hZ h1 (fun _ hf => kX7_needAisle l hfl hk0 hf) (zmem 1195 (by decide +kernel) (by decide +kernel)) mRX7_174 vX7_needAisle hk0 rfl rfl hl.1 (Nat.le_of_ble_eq_true rfl) ⟨Nat.le_of_ble_eq_true rfl, Nat.le_of_ble_eq_true rfl⟩ dX7_far_2 ⟨Nat.le_of_ble_eq_true rfl, Nat.le_of_ble_eq_true rfl⟩ ⟨Nat.le_of_ble_eq_true rfl, Nat.le_of_ble_eq_true rfl⟩ (fun _ σ_1 H locs h1 hZ => ?_)
  rw [← hQ]
  refine lv_aload_n hx hb dX7_far_5 rfl (lv_at hl 0 rfl) ?_
  refine lv_iload_n hx hb dX7_far_6 rfl (lv_at hl 2 rfl) ?_
  rw [hQ]
  refine z_xVv (As := [.int x2]) (rest := []) C0 hlk hnt hZ h1 (fun _ hf => kX7_needAisle l hfl hk0 hf) (zmem 1195 (by decide +kernel) (by decide +kernel)) mRX7_174 vX7_needAisle hk0 rfl rfl hl.1 (Nat.le_of_ble_eq_true rfl) ⟨Nat.le_of_ble_eq_true rfl, Nat.le_of_ble_eq_true rfl⟩ dX7_far_7 ⟨Nat.le_of_ble_eq_true rfl, Nat.le_of_ble_eq_true rfl⟩ ⟨Nat.le_of_ble_eq_true rfl, Nat.le_of_ble_eq_true rfl⟩ (fun _ σ_2 H locs h1 hZ => ?_)
  rw [← hQ]
  refine lv_aload_n hx hb dX7_far_10 rfl (lv_at hl 0 rfl) ?_
  refine z_getm C0 hZ h1 hk0 fRX7_19 rfl dX7_far_11 (fun q_3 hq_3 h1 => ?_)
  refine z_getr C0 hZ hq_3 fRX7_103 rfl dX7_far_14 ?_
  refine lv_iload_n hx hb dX7_far_17 rfl (lv_at hl 1 rfl) ?_
  refine lv_iload_n hx hb dX7_far_18 rfl (lv_at hl 2 rfl) ?_
  refine z_cVi (As := [.int x1, .int x2]) (rest := []) C0 hZ h1 (fun _ hf => kX1_between l (zkt5_0 hq_3) hf) mRX7_211 vX1_between (zkt5_0 hq_3) rfl rfl hl.1 (Nat.le_of_ble_eq_true rfl) ⟨Nat.le_of_ble_eq_true rfl, Nat.le_of_ble_eq_true rfl⟩ dX7_far_19 ⟨Nat.le_of_ble_eq_true rfl, Nat.le_of_ble_eq_true rfl⟩ (fun r_5 σ_4 H locs h1 hZ => ?_)
  refine z_istore_n C0 h1 hl (fun x3_6 => [(3, .int x3_6), (0, .ref (zad V k0)), (1, .int x1), (2, .int x2)]) dX7_far_22 rfl (by decide) (fun _ => rfl) (fun x3_6 ls h1 hl => ?_)
  refine lv_iload_n hx hb dX7_far_23 rfl (lv_at hl 0 rfl) ?_
  refine lv_bipush (v := 99) hx hb dX7_far_24 (by decide) ?_
  refine z_ic_ne (tgt := 33) C0 h1 dX7_far_26 (by decide) (fun h1 => ?_) (fun h1 => ?_)
  · refine lv_iload_n hx hb dX7_far_33 rfl (lv_at hl 0 rfl) ?_
    exact J34 x3_6 _ _ _ _  hZ (lv_sub hl [] rfl) h1
  refine lv_iconst (v := (-1)) hx hb dX7_far_29 (by decide) ?_
  refine lv_goto (tgt := 34) hx hb dX7_far_30 (by decide) ?_
  exact J34 (-1) _ _ _ _  hZ (lv_sub hl [] rfl) h1
noncomputable def FX7_canWatch_b57 (y0 : Int32) (σ : zS) : Option (Int32 × zS) := zgd (y0 == 0 || y0 == 1) (some (y0, σ))
noncomputable def FX7_canWatch_b56  (σ : zS) : Option (Int32 × zS) := FX7_canWatch_b57 0 σ
noncomputable def FX7_canWatch (k0 : Nat) (x1 : Int32) (x2 : Int32) (σ : zS) : Option (Int32 × zS) := if x1 = 0 then zgd (1 == 0 || 1 == 1) (some (1, σ)) else if x1 = 1 then if x2 < 0 then FX7_canWatch_b56  σ else zgd (kd 0 (σ k0 2).toNatClampNeg == 5) (zlet (σ k0 2).toNatClampNeg (fun q_1 => if (σ (q_1 + 14) 0) ≤ x2 then FX7_canWatch_b56  σ else FX7_canWatch_b57 1 σ)) else if x1 = 2 then zgd (kd 0 (σ k0 2).toNatClampNeg == 5) (zlet (σ k0 2).toNatClampNeg (fun q_2 => zbd (FX2_hasPerson (q_2 + 7) x2 σ) (fun r_4 σ_3 => zgd (r_4 == 0 || r_4 == 1) (some (r_4, σ_3))))) else if x1 = 3 then zgd (kd 0 (σ k0 2).toNatClampNeg == 5) (zlet (σ k0 2).toNatClampNeg (fun q_5 => zbd (FX1_hasAisle (q_5 + 1) x2 σ) (fun r_7 σ_6 => zgd (r_7 == 0 || r_7 == 1) (some (r_7, σ_6))))) else zgd (0 == 0 || 0 == 1) (some (0, σ))
set_option maxHeartbeats 4000000 in
set_option maxRecDepth 100000 in
theorem kX7_canWatch (l : Launch) {V : zV} {σ : zS} {t0 : Int32 × zS} {k0 : Nat} {x1 : Int32} {x2 : Int32} (hk0 : kd 0 k0 = 7) (h1 : FX7_canWatch k0 x1 x2 σ = some t0) : zMi l yX7_canWatch cX7_canWatch 3 (some .boolean) 1 21 0 V σ t0 [.ref (zad V k0), .int x1, .int x2] := by
  refine zMi_of (by decide) (Nat.le_of_ble_eq_true rfl) ?_
  intro p e s m below meth c A C0 hr hlk hZ ls hl
  generalize ([.ref (zad V k0), .int x1, .int x2] : List Value).toArray = args at C0 ⊢
  obtain ⟨Q, hQ⟩ : ∃ Q, Q = MQ below (zQi 0 V t0 A) args s 0 0 A := ⟨_, rfl⟩
  rw [← hQ]
  have hx := C0.1
  have hb := C0.2.1
  have hl : lv_has ls 3 [(0, .ref (zad V k0)), (1, .int x1), (2, .int x2)] := hl
  unfold FX7_canWatch at h1
  have J57 : ∀ (y0 : Int32) (σ : zS) (H : Heap) (locs : List Loc) (ls : Array Slot), zZ 0 V A σ s H locs → lv_has ls 3 [] → FX7_canWatch_b57 y0 σ = some t0 → W p l e (zrm 1 21) s m args below meth c H locs 0 0 Q (F0 m 57 ls [.int y0]) := by
    intro y0 σ H locs ls  hZ hl h1
    unfold FX7_canWatch_b57 at h1
    rw [hQ]; exact z_zret C0 hr hlk hZ h1 dX7_canWatch_57
  have J56 : ∀  (σ : zS) (H : Heap) (locs : List Loc) (ls : Array Slot), zZ 0 V A σ s H locs → lv_has ls 3 [] → FX7_canWatch_b56  σ = some t0 → W p l e (zrm 1 21) s m args below meth c H locs 0 0 Q (F0 m 56 ls []) := by
    intro  σ H locs ls  hZ hl h1
    unfold FX7_canWatch_b56 at h1
    refine lv_iconst (v := 0) hx hb dX7_canWatch_56 (by decide) ?_
    exact J57 0 _ _ _ _  hZ (lv_sub hl [] rfl) h1
  refine lv_iload_n hx hb dX7_canWatch_0 rfl (lv_at hl 1 rfl) ?_
  refine z_case h1 (fun hv h1 => ?_) (fun e1_0 h1 => ?_)
  · refine lv_tableIn (tgt := 32) hx hb dX7_canWatch_1 (by rw [hv]; decide) (by rw [hv]; decide) (by rw [hv]; rfl) (by decide) ?_
    refine lv_iconst (v := 1) hx hb dX7_canWatch_32 (by decide) ?_
    rw [hQ]; exact z_zret C0 hr hlk hZ h1 dX7_canWatch_33
  refine z_case h1 (fun hv h1 => ?_) (fun e1_1 h1 => ?_)
  · refine lv_tableIn (tgt := 34) hx hb dX7_canWatch_1 (by rw [hv]; decide) (by rw [hv]; decide) (by rw [hv]; rfl) (by decide) ?_
    refine lv_iload_n hx hb dX7_canWatch_34 rfl (lv_at hl 2 rfl) ?_
    refine z_if_lt (tgt := 56) C0 h1 dX7_canWatch_35 (by decide) (fun h1 => ?_) (fun h1 => ?_)
    · exact J56  _ _ _ _  hZ (lv_sub hl [] rfl) h1
    refine lv_iload_n hx hb dX7_canWatch_38 rfl (lv_at hl 2 rfl) ?_
    refine lv_aload_n hx hb dX7_canWatch_39 rfl (lv_at hl 0 rfl) ?_
    refine z_getm C0 hZ h1 hk0 fRX7_19 rfl dX7_canWatch_40 (fun q_1 hq_1 h1 => ?_)
    refine z_getr C0 hZ hq_1 fRX7_127 rfl dX7_canWatch_43 ?_
    refine z_geti C0 hZ (zkt5_2 hq_1) fRX7_131 rfl dX7_canWatch_46 ?_
    refine z_ic_ge (tgt := 56) C0 h1 dX7_canWatch_49 (by decide) (fun h1 => ?_) (fun h1 => ?_)
    · exact J56  _ _ _ _  hZ (lv_sub hl [] rfl) h1
    refine lv_iconst (v := 1) hx hb dX7_canWatch_52 (by decide) ?_
    refine lv_goto (tgt := 57) hx hb dX7_canWatch_53 (by decide) ?_
    exact J57 1 _ _ _ _  hZ (lv_sub hl [] rfl) h1
  refine z_case h1 (fun hv h1 => ?_) (fun e1_2 h1 => ?_)
  · refine lv_tableIn (tgt := 58) hx hb dX7_canWatch_1 (by rw [hv]; decide) (by rw [hv]; decide) (by rw [hv]; rfl) (by decide) ?_
    refine lv_aload_n hx hb dX7_canWatch_58 rfl (lv_at hl 0 rfl) ?_
    refine z_getm C0 hZ h1 hk0 fRX7_19 rfl dX7_canWatch_59 (fun q_2 hq_2 h1 => ?_)
    refine z_getr C0 hZ hq_2 fRX7_118 rfl dX7_canWatch_62 ?_
    refine lv_iload_n hx hb dX7_canWatch_65 rfl (lv_at hl 2 rfl) ?_
    refine z_cVi (As := [.int x2]) (rest := []) C0 hZ h1 (fun _ hf => kX2_hasPerson l (zkt5_1 hq_2) hf) mRX7_221 vX2_hasPerson (zkt5_1 hq_2) rfl rfl hl.1 (Nat.le_of_ble_eq_true rfl) ⟨Nat.le_of_ble_eq_true rfl, Nat.le_of_ble_eq_true rfl⟩ dX7_canWatch_66 ⟨Nat.le_of_ble_eq_true rfl, Nat.le_of_ble_eq_true rfl⟩ (fun r_4 σ_3 H locs h1 hZ => ?_)
    rw [hQ]; exact z_zret C0 hr hlk hZ h1 dX7_canWatch_69
  refine z_case h1 (fun hv h1 => ?_) (fun e1_3 h1 => ?_)
  · refine lv_tableIn (tgt := 70) hx hb dX7_canWatch_1 (by rw [hv]; decide) (by rw [hv]; decide) (by rw [hv]; rfl) (by decide) ?_
    refine lv_aload_n hx hb dX7_canWatch_70 rfl (lv_at hl 0 rfl) ?_
    refine z_getm C0 hZ h1 hk0 fRX7_19 rfl dX7_canWatch_71 (fun q_5 hq_5 h1 => ?_)
    refine z_getr C0 hZ hq_5 fRX7_103 rfl dX7_canWatch_74 ?_
    refine lv_iload_n hx hb dX7_canWatch_77 rfl (lv_at hl 2 rfl) ?_
    refine z_cVi (As := [.int x2]) (rest := []) C0 hZ h1 (fun _ hf => kX1_hasAisle l (zkt5_0 hq_5) hf) mRX7_225 vX1_hasAisle (zkt5_0 hq_5) rfl rfl hl.1 (Nat.le_of_ble_eq_true rfl) ⟨Nat.le_of_ble_eq_true rfl, Nat.le_of_ble_eq_true rfl⟩ dX7_canWatch_78 ⟨Nat.le_of_ble_eq_true rfl, Nat.le_of_ble_eq_true rfl⟩ (fun r_7 σ_6 H locs h1 hZ => ?_)
    rw [hQ]; exact z_zret C0 hr hlk hZ h1 dX7_canWatch_81
  refine lv_tableOut (tgt := 82) hx hb dX7_canWatch_1 (z_tout [0, 1, 2, 3] (by decide) (by decide) (List.forall_mem_cons.mpr ⟨e1_0, List.forall_mem_cons.mpr ⟨e1_1, List.forall_mem_cons.mpr ⟨e1_2, List.forall_mem_cons.mpr ⟨e1_3, fun _ h => absurd h List.not_mem_nil⟩⟩⟩⟩)) (by decide) ?_
  refine lv_iconst (v := 0) hx hb dX7_canWatch_82 (by decide) ?_
  rw [hQ]; exact z_zret C0 hr hlk hZ h1 dX7_canWatch_83
noncomputable def FX7_beginAct (k0 : Nat) (σ : zS) : Option (Int32 × zS) := zbd (FX6_keepAct (k0 + 6) σ) (fun _ σ_1 => zlet (zup σ_1 k0 9 0) (fun σ_3 => some (0, σ_3)))
set_option maxHeartbeats 4000000 in
set_option maxRecDepth 100000 in
theorem kX7_beginAct (l : Launch) {V : zV} {σ : zS} {t0 : Int32 × zS} {k0 : Nat} (hk0 : kd 0 k0 = 7) (h1 : FX7_beginAct k0 σ = some t0) : zMv l yX7_beginAct cX7_beginAct 1 2 82 0 V σ t0 [.ref (zad V k0)] := by
  refine zMv_of (by decide) (Nat.le_of_ble_eq_true rfl) ?_
  intro p e s m below meth c A C0 hr hlk hZ ls hl
  generalize ([.ref (zad V k0)] : List Value).toArray = args at C0 ⊢
  obtain ⟨Q, hQ⟩ : ∃ Q, Q = MQ below (zQv 0 V t0 A) args s 0 0 A := ⟨_, rfl⟩
  rw [← hQ]
  have hx := C0.1
  have hb := C0.2.1
  have hl : lv_has ls 1 [(0, .ref (zad V k0))] := hl
  unfold FX7_beginAct at h1
  refine lv_aload_n hx hb dX7_beginAct_0 rfl (lv_at hl 0 rfl) ?_
  refine z_getr C0 hZ hk0 fRX7_33 rfl dX7_beginAct_1 ?_
  refine z_cVv (As := []) (rest := []) C0 hZ h1 (fun _ hf => kX6_keepAct l (zkt7_4 hk0) hf) mRX7_359 vX6_keepAct (zkt7_4 hk0) rfl rfl hl.1 (Nat.le_of_ble_eq_true rfl) ⟨Nat.le_of_ble_eq_true rfl, Nat.le_of_ble_eq_true rfl⟩ dX7_beginAct_4 ⟨Nat.le_of_ble_eq_true rfl, Nat.le_of_ble_eq_true rfl⟩ (fun _ σ_1 H locs h1 hZ => ?_)
  refine lv_aload_n hx hb dX7_beginAct_7 rfl (lv_at hl 0 rfl) ?_
  refine lv_iconst (v := 0) hx hb dX7_beginAct_8 (by decide) ?_
  refine z_puti C0 hZ h1 hk0 fRX7_56 rfl tyX7_ok nmX7 rfl rfl rfl dX7_beginAct_9 (fun σ_3 H locs h1 hZ => ?_)
  rw [hQ]; exact z_vret C0 hr hlk hZ h1 dX7_beginAct_12
noncomputable def FX7_watch_b44 (q0 : Nat) (y1 : Int32) (σ : zS) : Option (Int32 × zS) := zlet (zup σ q0 1 y1) (fun σ_1 => zgd (1 == 0 || 1 == 1) (some (1, σ_1)))
noncomputable def FX7_watch (k0 : Nat) (x1 : Int32) (x2 : Int32) (σ : zS) : Option (Int32 × zS) := zbd (FX7_canWatch k0 x1 x2 σ) (fun r_3 σ_2 => if r_3 = 0 then zbd (FX6_refuse (k0 + 6) 1 σ_2) (fun _ σ_7 => zgd (0 == 0 || 0 == 1) (some (0, σ_7))) else zbd (FX7_beginAct k0 σ_2) (fun _ σ_4 => zlet (zup σ_4 (k0 + 6) 0 x1) (fun σ_6 => if x1 = 0 then FX7_watch_b44 (k0 + 6) 0 σ_6 else FX7_watch_b44 (k0 + 6) x2 σ_6)))
set_option maxHeartbeats 4000000 in
set_option maxRecDepth 100000 in
theorem kX7_watch (l : Launch) {V : zV} {σ : zS} {t0 : Int32 × zS} {k0 : Nat} {x1 : Int32} {x2 : Int32} (hk0 : kd 0 k0 = 7) (h1 : FX7_watch k0 x1 x2 σ = some t0) : zMi l yX7_watch cX7_watch 3 (some .boolean) 3 102 0 V σ t0 [.ref (zad V k0), .int x1, .int x2] := by
  refine zMi_of (by decide) (Nat.le_of_ble_eq_true rfl) ?_
  intro p e s m below meth c A C0 hr hlk hZ ls hl
  generalize ([.ref (zad V k0), .int x1, .int x2] : List Value).toArray = args at C0 ⊢
  obtain ⟨Q, hQ⟩ : ∃ Q, Q = MQ below (zQi 0 V t0 A) args s 0 0 A := ⟨_, rfl⟩
  rw [← hQ]
  have hx := C0.1
  have hb := C0.2.1
  have hl : lv_has ls 3 [(0, .ref (zad V k0)), (1, .int x1), (2, .int x2)] := hl
  unfold FX7_watch at h1
  have J44 : ∀ (q0 : Nat) (y1 : Int32) (σ : zS) (H : Heap) (locs : List Loc) (ls : Array Slot), kd 0 q0 = 6 → zZ 0 V A σ s H locs → lv_has ls 3 [] → FX7_watch_b44 q0 y1 σ = some t0 → W p l e (zrm 3 102) s m args below meth c H locs 0 0 Q (F0 m 44 ls [.int y1, .ref (zad V q0)]) := by
    intro q0 y1 σ H locs ls hq0 hZ hl h1
    unfold FX7_watch_b44 at h1
    refine z_puti C0 hZ h1 hq0 fRX7_146 rfl tyX6_ok nmX6 rfl rfl rfl dX7_watch_44 (fun σ_1 H locs h1 hZ => ?_)
    refine lv_iconst (v := 1) hx hb dX7_watch_47 (by decide) ?_
    rw [hQ]; exact z_zret C0 hr hlk hZ h1 dX7_watch_48
  refine lv_aload_n hx hb dX7_watch_0 rfl (lv_at hl 0 rfl) ?_
  refine lv_iload_n hx hb dX7_watch_1 rfl (lv_at hl 1 rfl) ?_
  refine lv_iload_n hx hb dX7_watch_2 rfl (lv_at hl 2 rfl) ?_
  refine z_cVi (As := [.int x1, .int x2]) (rest := []) C0 hZ h1 (fun _ hf => kX7_canWatch l hk0 hf) mRX7_214 vX7_canWatch hk0 rfl rfl hl.1 (Nat.le_of_ble_eq_true rfl) ⟨Nat.le_of_ble_eq_true rfl, Nat.le_of_ble_eq_true rfl⟩ dX7_watch_3 ⟨Nat.le_of_ble_eq_true rfl, Nat.le_of_ble_eq_true rfl⟩ (fun r_3 σ_2 H locs h1 hZ => ?_)
  refine z_if_ne (tgt := 19) C0 h1 dX7_watch_6 (by decide) (fun h1 => ?_) (fun h1 => ?_)
  · refine lv_aload_n hx hb dX7_watch_19 rfl (lv_at hl 0 rfl) ?_
    refine z_cVv (As := []) (rest := []) C0 hZ h1 (fun _ hf => kX7_beginAct l hk0 hf) mRX7_218 vX7_beginAct hk0 rfl rfl hl.1 (Nat.le_of_ble_eq_true rfl) ⟨Nat.le_of_ble_eq_true rfl, Nat.le_of_ble_eq_true rfl⟩ dX7_watch_20 ⟨Nat.le_of_ble_eq_true rfl, Nat.le_of_ble_eq_true rfl⟩ (fun _ σ_4 H locs h1 hZ => ?_)
    refine lv_aload_n hx hb dX7_watch_23 rfl (lv_at hl 0 rfl) ?_
    refine z_getr C0 hZ hk0 fRX7_33 rfl dX7_watch_24 ?_
    refine lv_iload_n hx hb dX7_watch_27 rfl (lv_at hl 1 rfl) ?_
    refine z_puti C0 hZ h1 (zkt7_4 hk0) fRX7_143 rfl tyX6_ok nmX6 rfl rfl rfl dX7_watch_28 (fun σ_6 H locs h1 hZ => ?_)
    refine lv_aload_n hx hb dX7_watch_31 rfl (lv_at hl 0 rfl) ?_
    refine z_getr C0 hZ hk0 fRX7_33 rfl dX7_watch_32 ?_
    refine lv_iload_n hx hb dX7_watch_35 rfl (lv_at hl 1 rfl) ?_
    refine z_if_ne (tgt := 43) C0 h1 dX7_watch_36 (by decide) (fun h1 => ?_) (fun h1 => ?_)
    · refine lv_iload_n hx hb dX7_watch_43 rfl (lv_at hl 2 rfl) ?_
      exact J44 (k0 + 6) x2 _ _ _ _ (zkt7_4 hk0) hZ (lv_sub hl [] rfl) h1
    refine lv_iconst (v := 0) hx hb dX7_watch_39 (by decide) ?_
    refine lv_goto (tgt := 44) hx hb dX7_watch_40 (by decide) ?_
    exact J44 (k0 + 6) 0 _ _ _ _ (zkt7_4 hk0) hZ (lv_sub hl [] rfl) h1
  refine lv_aload_n hx hb dX7_watch_9 rfl (lv_at hl 0 rfl) ?_
  refine z_getr C0 hZ hk0 fRX7_33 rfl dX7_watch_10 ?_
  refine lv_iconst (v := 1) hx hb dX7_watch_13 (by decide) ?_
  refine z_cVv (As := [.int 1]) (rest := []) C0 hZ h1 (fun _ hf => kX6_refuse l (zkt7_4 hk0) hf) mRX7_93 vX6_refuse (zkt7_4 hk0) rfl rfl hl.1 (Nat.le_of_ble_eq_true rfl) ⟨Nat.le_of_ble_eq_true rfl, Nat.le_of_ble_eq_true rfl⟩ dX7_watch_14 ⟨Nat.le_of_ble_eq_true rfl, Nat.le_of_ble_eq_true rfl⟩ (fun _ σ_7 H locs h1 hZ => ?_)
  refine lv_iconst (v := 0) hx hb dX7_watch_17 (by decide) ?_
  rw [hQ]; exact z_zret C0 hr hlk hZ h1 dX7_watch_18
noncomputable def FX7_open_b34 (x2 : Int32) (q0 : Nat) (y1 : Int32) (σ : zS) : Option (Int32 × zS) := zlet (zup σ q0 2 y1) (fun σ_1 => zgd (x2 == 0 || x2 == 1) (some (x2, σ_1)))
noncomputable def FX7_open_b16 (k0 : Nat) (x1 : Int32) (y0 : Int32) (σ : zS) : Option (Int32 × zS) := zlet y0 (fun x2_2 => zbd (FX7_beginAct k0 σ) (fun _ σ_3 => if x1 = 0 then FX7_open_b34 x2_2 (k0 + 6) 0 σ_3 else FX7_open_b34 x2_2 (k0 + 6) 1 σ_3))
noncomputable def FX7_open (k0 : Nat) (x1 : Int32) (σ : zS) : Option (Int32 × zS) := if (σ (k0 + 6) 2) = 1 then FX7_open_b16 k0 x1 1 σ else FX7_open_b16 k0 x1 0 σ
set_option maxHeartbeats 4000000 in
set_option maxRecDepth 100000 in
theorem kX7_open (l : Launch) {V : zV} {σ : zS} {t0 : Int32 × zS} {k0 : Nat} {x1 : Int32} (hk0 : kd 0 k0 = 7) (h1 : FX7_open k0 x1 σ = some t0) : zMi l yX7_open cX7_open 3 (some .boolean) 3 102 0 V σ t0 [.ref (zad V k0), .int x1] := by
  refine zMi_of (by decide) (Nat.le_of_ble_eq_true rfl) ?_
  intro p e s m below meth c A C0 hr hlk hZ ls hl
  generalize ([.ref (zad V k0), .int x1] : List Value).toArray = args at C0 ⊢
  obtain ⟨Q, hQ⟩ : ∃ Q, Q = MQ below (zQi 0 V t0 A) args s 0 0 A := ⟨_, rfl⟩
  rw [← hQ]
  have hx := C0.1
  have hb := C0.2.1
  have hl : lv_has ls 3 [(0, .ref (zad V k0)), (1, .int x1)] := hl
  unfold FX7_open at h1
  have J34 : ∀ (x2 : Int32) (q0 : Nat) (y1 : Int32) (σ : zS) (H : Heap) (locs : List Loc) (ls : Array Slot), kd 0 q0 = 6 → zZ 0 V A σ s H locs → lv_has ls 3 [(2, .int x2)] → FX7_open_b34 x2 q0 y1 σ = some t0 → W p l e (zrm 3 102) s m args below meth c H locs 0 0 Q (F0 m 34 ls [.int y1, .ref (zad V q0)]) := by
    intro x2 q0 y1 σ H locs ls hq0 hZ hl h1
    unfold FX7_open_b34 at h1
    refine z_puti C0 hZ h1 hq0 fRX7_149 rfl tyX6_ok nmX6 rfl rfl rfl dX7_open_34 (fun σ_1 H locs h1 hZ => ?_)
    refine lv_iload_n hx hb dX7_open_37 rfl (lv_at hl 0 rfl) ?_
    rw [hQ]; exact z_zret C0 hr hlk hZ h1 dX7_open_38
  have J16 : ∀ (y0 : Int32) (σ : zS) (H : Heap) (locs : List Loc) (ls : Array Slot), zZ 0 V A σ s H locs → lv_has ls 3 [(0, .ref (zad V k0)), (1, .int x1)] → FX7_open_b16 k0 x1 y0 σ = some t0 → W p l e (zrm 3 102) s m args below meth c H locs 0 0 Q (F0 m 16 ls [.int y0]) := by
    intro y0 σ H locs ls  hZ hl h1
    unfold FX7_open_b16 at h1
    refine z_istore_n C0 h1 hl (fun x2_2 => [(2, .int x2_2), (0, .ref (zad V k0)), (1, .int x1)]) dX7_open_16 rfl (by decide) (fun _ => rfl) (fun x2_2 ls h1 hl => ?_)
    refine lv_aload_n hx hb dX7_open_17 rfl (lv_at hl 1 rfl) ?_
    refine z_cVv (As := []) (rest := []) C0 hZ h1 (fun _ hf => kX7_beginAct l hk0 hf) mRX7_218 vX7_beginAct hk0 rfl rfl hl.1 (Nat.le_of_ble_eq_true rfl) ⟨Nat.le_of_ble_eq_true rfl, Nat.le_of_ble_eq_true rfl⟩ dX7_open_18 ⟨Nat.le_of_ble_eq_true rfl, Nat.le_of_ble_eq_true rfl⟩ (fun _ σ_3 H locs h1 hZ => ?_)
    refine lv_aload_n hx hb dX7_open_21 rfl (lv_at hl 1 rfl) ?_
    refine z_getr C0 hZ hk0 fRX7_33 rfl dX7_open_22 ?_
    refine lv_iload_n hx hb dX7_open_25 rfl (lv_at hl 2 rfl) ?_
    refine z_if_eq (tgt := 33) C0 h1 dX7_open_26 (by decide) (fun h1 => ?_) (fun h1 => ?_)
    · refine lv_iconst (v := 0) hx hb dX7_open_33 (by decide) ?_
      exact J34 x2_2 (k0 + 6) 0 _ _ _ _ (zkt7_4 hk0) hZ (lv_sub hl [0] rfl) h1
    refine lv_iconst (v := 1) hx hb dX7_open_29 (by decide) ?_
    refine lv_goto (tgt := 34) hx hb dX7_open_30 (by decide) ?_
    exact J34 x2_2 (k0 + 6) 1 _ _ _ _ (zkt7_4 hk0) hZ (lv_sub hl [0] rfl) h1
  refine lv_aload_n hx hb dX7_open_0 rfl (lv_at hl 0 rfl) ?_
  refine z_getr C0 hZ hk0 fRX7_33 rfl dX7_open_1 ?_
  refine z_geti C0 hZ (zkt7_4 hk0) fRX7_149 rfl dX7_open_4 ?_
  refine lv_iconst (v := 1) hx hb dX7_open_7 (by decide) ?_
  refine z_ic_ne (tgt := 15) C0 h1 dX7_open_8 (by decide) (fun h1 => ?_) (fun h1 => ?_)
  · refine lv_iconst (v := 0) hx hb dX7_open_15 (by decide) ?_
    exact J16 0 _ _ _ _  hZ (lv_sub hl [0, 1] rfl) h1
  refine lv_iconst (v := 1) hx hb dX7_open_11 (by decide) ?_
  refine lv_goto (tgt := 16) hx hb dX7_open_12 (by decide) ?_
  exact J16 1 _ _ _ _  hZ (lv_sub hl [0, 1] rfl) h1
noncomputable def FX7_stops_b9 (k0 : Nat) (σ : zS) : Option (Int32 × zS) := zbd (FX6_refuse (k0 + 6) 1 σ) (fun _ σ_1 => some ((-1), σ_1))
noncomputable def FX7_stops (k0 : Nat) (x1 : Int32) (σ : zS) : Option (Int32 × zS) := if x1 < 0 then FX7_stops_b9 k0 σ else if x1 ≤ 2 then zlet (σ (k0 + 6) 3) (fun x2_3 => zbd (FX7_beginAct k0 σ) (fun _ σ_4 => zlet (zup σ_4 (k0 + 6) 3 x1) (fun σ_6 => some (x2_3, σ_6)))) else FX7_stops_b9 k0 σ
set_option maxHeartbeats 4000000 in
set_option maxRecDepth 100000 in
theorem kX7_stops (l : Launch) {V : zV} {σ : zS} {t0 : Int32 × zS} {k0 : Nat} {x1 : Int32} (hk0 : kd 0 k0 = 7) (h1 : FX7_stops k0 x1 σ = some t0) : zMi l yX7_stops cX7_stops 3 (some .int) 3 102 0 V σ t0 [.ref (zad V k0), .int x1] := by
  refine zMi_of (by decide) (Nat.le_of_ble_eq_true rfl) ?_
  intro p e s m below meth c A C0 hr hlk hZ ls hl
  generalize ([.ref (zad V k0), .int x1] : List Value).toArray = args at C0 ⊢
  obtain ⟨Q, hQ⟩ : ∃ Q, Q = MQ below (zQi 0 V t0 A) args s 0 0 A := ⟨_, rfl⟩
  rw [← hQ]
  have hx := C0.1
  have hb := C0.2.1
  have hl : lv_has ls 3 [(0, .ref (zad V k0)), (1, .int x1)] := hl
  unfold FX7_stops at h1
  have J9 : ∀  (σ : zS) (H : Heap) (locs : List Loc) (ls : Array Slot), zZ 0 V A σ s H locs → lv_has ls 3 [(0, .ref (zad V k0))] → FX7_stops_b9 k0 σ = some t0 → W p l e (zrm 3 102) s m args below meth c H locs 0 0 Q (F0 m 9 ls []) := by
    intro  σ H locs ls  hZ hl h1
    unfold FX7_stops_b9 at h1
    refine lv_aload_n hx hb dX7_stops_9 rfl (lv_at hl 0 rfl) ?_
    refine z_getr C0 hZ hk0 fRX7_33 rfl dX7_stops_10 ?_
    refine lv_iconst (v := 1) hx hb dX7_stops_13 (by decide) ?_
    refine z_cVv (As := [.int 1]) (rest := []) C0 hZ h1 (fun _ hf => kX6_refuse l (zkt7_4 hk0) hf) mRX7_93 vX6_refuse (zkt7_4 hk0) rfl rfl hl.1 (Nat.le_of_ble_eq_true rfl) ⟨Nat.le_of_ble_eq_true rfl, Nat.le_of_ble_eq_true rfl⟩ dX7_stops_14 ⟨Nat.le_of_ble_eq_true rfl, Nat.le_of_ble_eq_true rfl⟩ (fun _ σ_1 H locs h1 hZ => ?_)
    refine lv_iconst (v := (-1)) hx hb dX7_stops_17 (by decide) ?_
    rw [hQ]; exact z_iret C0 hr hlk hZ h1 dX7_stops_18
  refine lv_iload_n hx hb dX7_stops_0 rfl (lv_at hl 1 rfl) ?_
  refine z_if_lt (tgt := 9) C0 h1 dX7_stops_1 (by decide) (fun h1 => ?_) (fun h1 => ?_)
  · exact J9  _ _ _ _  hZ (lv_sub hl [0] rfl) h1
  refine lv_iload_n hx hb dX7_stops_4 rfl (lv_at hl 1 rfl) ?_
  refine lv_iconst (v := 2) hx hb dX7_stops_5 (by decide) ?_
  refine z_ic_le (tgt := 19) C0 h1 dX7_stops_6 (by decide) (fun h1 => ?_) (fun h1 => ?_)
  · refine lv_aload_n hx hb dX7_stops_19 rfl (lv_at hl 0 rfl) ?_
    refine z_getr C0 hZ hk0 fRX7_33 rfl dX7_stops_20 ?_
    refine z_geti C0 hZ (zkt7_4 hk0) fRX7_140 rfl dX7_stops_23 ?_
    refine z_istore_n C0 h1 hl (fun x2_3 => [(2, .int x2_3), (0, .ref (zad V k0)), (1, .int x1)]) dX7_stops_26 rfl (by decide) (fun _ => rfl) (fun x2_3 ls h1 hl => ?_)
    refine lv_aload_n hx hb dX7_stops_27 rfl (lv_at hl 1 rfl) ?_
    refine z_cVv (As := []) (rest := []) C0 hZ h1 (fun _ hf => kX7_beginAct l hk0 hf) mRX7_218 vX7_beginAct hk0 rfl rfl hl.1 (Nat.le_of_ble_eq_true rfl) ⟨Nat.le_of_ble_eq_true rfl, Nat.le_of_ble_eq_true rfl⟩ dX7_stops_28 ⟨Nat.le_of_ble_eq_true rfl, Nat.le_of_ble_eq_true rfl⟩ (fun _ σ_4 H locs h1 hZ => ?_)
    refine lv_aload_n hx hb dX7_stops_31 rfl (lv_at hl 1 rfl) ?_
    refine z_getr C0 hZ hk0 fRX7_33 rfl dX7_stops_32 ?_
    refine lv_iload_n hx hb dX7_stops_35 rfl (lv_at hl 2 rfl) ?_
    refine z_puti C0 hZ h1 (zkt7_4 hk0) fRX7_140 rfl tyX6_ok nmX6 rfl rfl rfl dX7_stops_36 (fun σ_6 H locs h1 hZ => ?_)
    refine lv_iload_n hx hb dX7_stops_39 rfl (lv_at hl 0 rfl) ?_
    rw [hQ]; exact z_iret C0 hr hlk hZ h1 dX7_stops_40
  exact J9  _ _ _ _  hZ (lv_sub hl [0] rfl) h1
noncomputable def FX7_canHang_b56 (y0 : Int32) (σ : zS) : Option (Int32 × zS) := zgd (y0 == 0 || y0 == 1) (some (y0, σ))
noncomputable def FX7_canHang_b55  (σ : zS) : Option (Int32 × zS) := FX7_canHang_b56 0 σ
noncomputable def FX7_canHang (k0 : Nat) (x1 : Int32) (x2 : Int32) (σ : zS) : Option (Int32 × zS) := zgd (kd 0 (σ k0 2).toNatClampNeg == 5) (zlet (σ k0 2).toNatClampNeg (fun q_1 => zbd (FX1_hasAisle (q_1 + 1) x1 σ) (fun r_3 σ_2 => if r_3 = 0 then FX7_canHang_b55  σ_2 else zgd (kd 0 (σ_2 k0 2).toNatClampNeg == 5) (zlet (σ_2 k0 2).toNatClampNeg (fun q_4 => zbd (FX1_hasAisle (q_4 + 1) x2 σ_2) (fun r_6 σ_5 => if r_6 = 0 then FX7_canHang_b55  σ_5 else if x1 = x2 then FX7_canHang_b55  σ_5 else zbd (FX7_at ((k0 + 6) + 1) x1 σ_5) (fun r_8 σ_7 => zbd (FX7_holds r_8 x2 σ_7) (fun r_10 σ_9 => if r_10 = 0 then FX7_canHang_b56 1 σ_9 else FX7_canHang_b55  σ_9))))))))
set_option maxHeartbeats 4000000 in
set_option maxRecDepth 100000 in
theorem kX7_canHang (l : Launch) {V : zV} {σ : zS} {t0 : Int32 × zS} {k0 : Nat} {x1 : Int32} {x2 : Int32} (hk0 : kd 0 k0 = 7) (h1 : FX7_canHang k0 x1 x2 σ = some t0) : zMi l yX7_canHang cX7_canHang 3 (some .boolean) 1 21 0 V σ t0 [.ref (zad V k0), .int x1, .int x2] := by
  refine zMi_of (by decide) (Nat.le_of_ble_eq_true rfl) ?_
  intro p e s m below meth c A C0 hr hlk hZ ls hl
  generalize ([.ref (zad V k0), .int x1, .int x2] : List Value).toArray = args at C0 ⊢
  obtain ⟨Q, hQ⟩ : ∃ Q, Q = MQ below (zQi 0 V t0 A) args s 0 0 A := ⟨_, rfl⟩
  rw [← hQ]
  have hx := C0.1
  have hb := C0.2.1
  have hl : lv_has ls 3 [(0, .ref (zad V k0)), (1, .int x1), (2, .int x2)] := hl
  unfold FX7_canHang at h1
  have J56 : ∀ (y0 : Int32) (σ : zS) (H : Heap) (locs : List Loc) (ls : Array Slot), zZ 0 V A σ s H locs → lv_has ls 3 [] → FX7_canHang_b56 y0 σ = some t0 → W p l e (zrm 1 21) s m args below meth c H locs 0 0 Q (F0 m 56 ls [.int y0]) := by
    intro y0 σ H locs ls  hZ hl h1
    unfold FX7_canHang_b56 at h1
    rw [hQ]; exact z_zret C0 hr hlk hZ h1 dX7_canHang_56
  have J55 : ∀  (σ : zS) (H : Heap) (locs : List Loc) (ls : Array Slot), zZ 0 V A σ s H locs → lv_has ls 3 [] → FX7_canHang_b55  σ = some t0 → W p l e (zrm 1 21) s m args below meth c H locs 0 0 Q (F0 m 55 ls []) := by
    intro  σ H locs ls  hZ hl h1
    unfold FX7_canHang_b55 at h1
    refine lv_iconst (v := 0) hx hb dX7_canHang_55 (by decide) ?_
    exact J56 0 _ _ _ _  hZ (lv_sub hl [] rfl) h1
  refine lv_aload_n hx hb dX7_canHang_0 rfl (lv_at hl 0 rfl) ?_
  refine z_getm C0 hZ h1 hk0 fRX7_19 rfl dX7_canHang_1 (fun q_1 hq_1 h1 => ?_)
  refine z_getr C0 hZ hq_1 fRX7_103 rfl dX7_canHang_4 ?_
  refine lv_iload_n hx hb dX7_canHang_7 rfl (lv_at hl 1 rfl) ?_
  refine z_cVi (As := [.int x1]) (rest := []) C0 hZ h1 (fun _ hf => kX1_hasAisle l (zkt5_0 hq_1) hf) mRX7_225 vX1_hasAisle (zkt5_0 hq_1) rfl rfl hl.1 (Nat.le_of_ble_eq_true rfl) ⟨Nat.le_of_ble_eq_true rfl, Nat.le_of_ble_eq_true rfl⟩ dX7_canHang_8 ⟨Nat.le_of_ble_eq_true rfl, Nat.le_of_ble_eq_true rfl⟩ (fun r_3 σ_2 H locs h1 hZ => ?_)
  refine z_if_eq (tgt := 55) C0 h1 dX7_canHang_11 (by decide) (fun h1 => ?_) (fun h1 => ?_)
  · exact J55  _ _ _ _  hZ (lv_sub hl [] rfl) h1
  refine lv_aload_n hx hb dX7_canHang_14 rfl (lv_at hl 0 rfl) ?_
  refine z_getm C0 hZ h1 hk0 fRX7_19 rfl dX7_canHang_15 (fun q_4 hq_4 h1 => ?_)
  refine z_getr C0 hZ hq_4 fRX7_103 rfl dX7_canHang_18 ?_
  refine lv_iload_n hx hb dX7_canHang_21 rfl (lv_at hl 2 rfl) ?_
  refine z_cVi (As := [.int x2]) (rest := []) C0 hZ h1 (fun _ hf => kX1_hasAisle l (zkt5_0 hq_4) hf) mRX7_225 vX1_hasAisle (zkt5_0 hq_4) rfl rfl hl.1 (Nat.le_of_ble_eq_true rfl) ⟨Nat.le_of_ble_eq_true rfl, Nat.le_of_ble_eq_true rfl⟩ dX7_canHang_22 ⟨Nat.le_of_ble_eq_true rfl, Nat.le_of_ble_eq_true rfl⟩ (fun r_6 σ_5 H locs h1 hZ => ?_)
  refine z_if_eq (tgt := 55) C0 h1 dX7_canHang_25 (by decide) (fun h1 => ?_) (fun h1 => ?_)
  · exact J55  _ _ _ _  hZ (lv_sub hl [] rfl) h1
  refine lv_iload_n hx hb dX7_canHang_28 rfl (lv_at hl 1 rfl) ?_
  refine lv_iload_n hx hb dX7_canHang_29 rfl (lv_at hl 2 rfl) ?_
  refine z_ic_eq (tgt := 55) C0 h1 dX7_canHang_30 (by decide) (fun h1 => ?_) (fun h1 => ?_)
  · exact J55  _ _ _ _  hZ (lv_sub hl [] rfl) h1
  refine lv_aload_n hx hb dX7_canHang_33 rfl (lv_at hl 0 rfl) ?_
  refine z_getr C0 hZ hk0 fRX7_33 rfl dX7_canHang_34 ?_
  refine z_getr C0 hZ (zkt7_4 hk0) fRX7_186 rfl dX7_canHang_37 ?_
  refine lv_iload_n hx hb dX7_canHang_40 rfl (lv_at hl 1 rfl) ?_
  refine z_cSi (As := [.ref (zad V ((k0 + 6) + 1)), .int x1]) (rest := []) C0 hZ h1 (fun _ hf => kX7_at l (zkt6_6 (zkt7_4 hk0)) hf) mRX7_167 sX7_at rfl rfl hl.1 (Nat.le_of_ble_eq_true rfl) ⟨Nat.le_of_ble_eq_true rfl, Nat.le_of_ble_eq_true rfl⟩ dX7_canHang_41 ⟨Nat.le_of_ble_eq_true rfl, Nat.le_of_ble_eq_true rfl⟩ (fun r_8 σ_7 H locs h1 hZ => ?_)
  refine lv_iload_n hx hb dX7_canHang_44 rfl (lv_at hl 2 rfl) ?_
  refine z_cSi (As := [.int r_8, .int x2]) (rest := []) C0 hZ h1 (fun _ hf => kX7_holds l  hf) mRX7_234 sX7_holds rfl rfl hl.1 (Nat.le_of_ble_eq_true rfl) ⟨Nat.le_of_ble_eq_true rfl, Nat.le_of_ble_eq_true rfl⟩ dX7_canHang_45 ⟨Nat.le_of_ble_eq_true rfl, Nat.le_of_ble_eq_true rfl⟩ (fun r_10 σ_9 H locs h1 hZ => ?_)
  refine z_if_ne (tgt := 55) C0 h1 dX7_canHang_48 (by decide) (fun h1 => ?_) (fun h1 => ?_)
  · exact J55  _ _ _ _  hZ (lv_sub hl [] rfl) h1
  refine lv_iconst (v := 1) hx hb dX7_canHang_51 (by decide) ?_
  refine lv_goto (tgt := 56) hx hb dX7_canHang_52 (by decide) ?_
  exact J56 1 _ _ _ _  hZ (lv_sub hl [] rfl) h1
