noncomputable def FX7_at_b17 (y0 : Int32) (σ : zS) : Option (Int32 × zS) := some (y0, σ)
noncomputable def FX7_at_b16  (σ : zS) : Option (Int32 × zS) := FX7_at_b17 0 σ
noncomputable def FX7_at (k0 : Nat) (x1 : Int32) (σ : zS) : Option (Int32 × zS) := if x1 < 0 then FX7_at_b16  σ else if (nI (ln 0 k0)) ≤ x1 then FX7_at_b16  σ else zin (ln 0 k0) x1 (FX7_at_b17 (σ k0 (Int32.toNatClampNeg x1)) σ)
set_option maxHeartbeats 4000000 in
set_option maxRecDepth 100000 in
theorem kX7_at (l : Launch) {V : zV} {σ : zS} {t0 : Int32 × zS} {k0 : Nat} {x1 : Int32} (hk0 : kd 0 k0 = 100) (h1 : FX7_at k0 x1 σ = some t0) : zMi l yX7_at cX7_at 2 (some .int) 0 0 0 V σ t0 [.ref (zad V k0), .int x1] := by
  refine zMi_of (by decide) (Nat.le_of_ble_eq_true rfl) ?_
  intro p e s m below meth c A C0 hr hlk hZ ls hl
  generalize ([.ref (zad V k0), .int x1] : List Value).toArray = args at C0 ⊢
  obtain ⟨Q, hQ⟩ : ∃ Q, Q = MQ below (zQi 0 V t0 A) args s 0 0 A := ⟨_, rfl⟩
  rw [← hQ]
  have hx := C0.1
  have hb := C0.2.1
  have hl : lv_has ls 2 [(0, .ref (zad V k0)), (1, .int x1)] := hl
  unfold FX7_at at h1
  have J17 : ∀ (y0 : Int32) (σ : zS) (H : Heap) (locs : List Loc) (ls : Array Slot), zZ 0 V A σ s H locs → lv_has ls 2 [] → FX7_at_b17 y0 σ = some t0 → W p l e (zrm 0 0) s m args below meth c H locs 0 0 Q (F0 m 17 ls [.int y0]) := by
    intro y0 σ H locs ls  hZ hl h1
    unfold FX7_at_b17 at h1
    rw [hQ]; exact z_iret C0 hr hlk hZ h1 dX7_at_17
  have J16 : ∀  (σ : zS) (H : Heap) (locs : List Loc) (ls : Array Slot), zZ 0 V A σ s H locs → lv_has ls 2 [] → FX7_at_b16  σ = some t0 → W p l e (zrm 0 0) s m args below meth c H locs 0 0 Q (F0 m 16 ls []) := by
    intro  σ H locs ls  hZ hl h1
    unfold FX7_at_b16 at h1
    refine lv_iconst (v := 0) hx hb dX7_at_16 (by decide) ?_
    exact J17 0 _ _ _ _  hZ (lv_sub hl [] rfl) h1
  refine lv_iload_n hx hb dX7_at_0 rfl (lv_at hl 1 rfl) ?_
  refine z_if_lt (tgt := 16) C0 h1 dX7_at_1 (by decide) (fun h1 => ?_) (fun h1 => ?_)
  · exact J16  _ _ _ _  hZ (lv_sub hl [] rfl) h1
  refine lv_iload_n hx hb dX7_at_4 rfl (lv_at hl 1 rfl) ?_
  refine lv_aload_n hx hb dX7_at_5 rfl (lv_at hl 0 rfl) ?_
  refine z_alen C0 hZ hk0 dX7_at_6 ?_
  refine z_ic_ge (tgt := 16) C0 h1 dX7_at_7 (by decide) (fun h1 => ?_) (fun h1 => ?_)
  · exact J16  _ _ _ _  hZ (lv_sub hl [] rfl) h1
  refine lv_aload_n hx hb dX7_at_10 rfl (lv_at hl 0 rfl) ?_
  refine lv_iload_n hx hb dX7_at_11 rfl (lv_at hl 1 rfl) ?_
  refine z_iald C0 hZ h1 hk0 dX7_at_12 (fun h1 => ?_)
  refine lv_goto (tgt := 17) hx hb dX7_at_13 (by decide) ?_
  exact J17 (σ k0 (Int32.toNatClampNeg x1)) _ _ _ _  hZ (lv_sub hl [] rfl) h1
noncomputable def FX7_put_b14  (σ : zS) : Option (Int32 × zS) := some (0, σ)
noncomputable def FX7_put (k0 : Nat) (x1 : Int32) (x2 : Int32) (σ : zS) : Option (Int32 × zS) := if x1 < 0 then FX7_put_b14  σ else if (nI (ln 0 k0)) ≤ x1 then FX7_put_b14  σ else zin (ln 0 k0) x1 (zlet (zup σ k0 (Int32.toNatClampNeg x1) x2) (fun σ_1 => FX7_put_b14  σ_1))
set_option maxHeartbeats 4000000 in
set_option maxRecDepth 100000 in
theorem kX7_put (l : Launch) {V : zV} {σ : zS} {t0 : Int32 × zS} {k0 : Nat} {x1 : Int32} {x2 : Int32} (hk0 : kd 0 k0 = 100) (h1 : FX7_put k0 x1 x2 σ = some t0) : zMv l yX7_put cX7_put 3 0 0 0 V σ t0 [.ref (zad V k0), .int x1, .int x2] := by
  refine zMv_of (by decide) (Nat.le_of_ble_eq_true rfl) ?_
  intro p e s m below meth c A C0 hr hlk hZ ls hl
  generalize ([.ref (zad V k0), .int x1, .int x2] : List Value).toArray = args at C0 ⊢
  obtain ⟨Q, hQ⟩ : ∃ Q, Q = MQ below (zQv 0 V t0 A) args s 0 0 A := ⟨_, rfl⟩
  rw [← hQ]
  have hx := C0.1
  have hb := C0.2.1
  have hl : lv_has ls 3 [(0, .ref (zad V k0)), (1, .int x1), (2, .int x2)] := hl
  unfold FX7_put at h1
  have J14 : ∀  (σ : zS) (H : Heap) (locs : List Loc) (ls : Array Slot), zZ 0 V A σ s H locs → lv_has ls 3 [] → FX7_put_b14  σ = some t0 → W p l e (zrm 0 0) s m args below meth c H locs 0 0 Q (F0 m 14 ls []) := by
    intro  σ H locs ls  hZ hl h1
    unfold FX7_put_b14 at h1
    rw [hQ]; exact z_vret C0 hr hlk hZ h1 dX7_put_14
  refine lv_iload_n hx hb dX7_put_0 rfl (lv_at hl 1 rfl) ?_
  refine z_if_lt (tgt := 14) C0 h1 dX7_put_1 (by decide) (fun h1 => ?_) (fun h1 => ?_)
  · exact J14  _ _ _ _  hZ (lv_sub hl [] rfl) h1
  refine lv_iload_n hx hb dX7_put_4 rfl (lv_at hl 1 rfl) ?_
  refine lv_aload_n hx hb dX7_put_5 rfl (lv_at hl 0 rfl) ?_
  refine z_alen C0 hZ hk0 dX7_put_6 ?_
  refine z_ic_ge (tgt := 14) C0 h1 dX7_put_7 (by decide) (fun h1 => ?_) (fun h1 => ?_)
  · exact J14  _ _ _ _  hZ (lv_sub hl [] rfl) h1
  refine lv_aload_n hx hb dX7_put_10 rfl (lv_at hl 0 rfl) ?_
  refine lv_iload_n hx hb dX7_put_11 rfl (lv_at hl 1 rfl) ?_
  refine lv_iload_n hx hb dX7_put_12 rfl (lv_at hl 2 rfl) ?_
  refine z_iast C0 hZ h1 hk0 dX7_put_13 (fun σ_1 H locs h1 hZ => ?_)
  exact J14  _ _ _ _  hZ (lv_sub hl [] rfl) h1
noncomputable def FX7_fillRow_b18  (σ : zS) : Option (Int32 × zS) := some (0, σ)
noncomputable def FX7_fillRow_L2 (k0 : Nat) (x1 : Int32) (x2 : Int32) (σ : zS) : Option ((Int32 × zS) ⊕ (Int32 × zS)) := if (nI (ln 0 k0)) ≤ x2 then zinr (FX7_fillRow_b18  σ) else zin (ln 0 k0) x2 (zlet (zup σ k0 (Int32.toNatClampNeg x2) x1) (fun σ_1 => zlet (x2 + 1) (fun x2_2 => some (.inl (x2_2, σ_1)))))
noncomputable def FX7_fillRow (k0 : Nat) (x1 : Int32) (σ : zS) : Option (Int32 × zS) := zlet 0 (fun x2_3 => zlp (fun q => FX7_fillRow_L2 k0 x1 q.1 q.2) (x2_3, σ))
set_option maxHeartbeats 4000000 in
set_option maxRecDepth 100000 in
theorem kX7_fillRow (l : Launch) {V : zV} {σ : zS} {t0 : Int32 × zS} {k0 : Nat} {x1 : Int32} (hk0 : kd 0 k0 = 100) (h1 : FX7_fillRow k0 x1 σ = some t0) : zMv l yX7_fillRow cX7_fillRow 3 0 0 0 V σ t0 [.ref (zad V k0), .int x1] := by
  refine zMv_of (by decide) (Nat.le_of_ble_eq_true rfl) ?_
  intro p e s m below meth c A C0 hr hlk hZ ls hl
  generalize ([.ref (zad V k0), .int x1] : List Value).toArray = args at C0 ⊢
  obtain ⟨Q, hQ⟩ : ∃ Q, Q = MQ below (zQv 0 V t0 A) args s 0 0 A := ⟨_, rfl⟩
  rw [← hQ]
  have hx := C0.1
  have hb := C0.2.1
  have hl : lv_has ls 3 [(0, .ref (zad V k0)), (1, .int x1)] := hl
  unfold FX7_fillRow at h1
  have J18 : ∀  (σ : zS) (H : Heap) (locs : List Loc) (ls : Array Slot), zZ 0 V A σ s H locs → lv_has ls 3 [] → FX7_fillRow_b18  σ = some t0 → W p l e (zrm 0 0) s m args below meth c H locs 0 0 Q (F0 m 18 ls []) := by
    intro  σ H locs ls  hZ hl h1
    unfold FX7_fillRow_b18 at h1
    rw [hQ]; exact z_vret C0 hr hlk hZ h1 dX7_fillRow_18
  have J2 : ∀ (n : Nat) (x2 : Int32) (σ : zS) (H : Heap) (locs : List Loc) (ls : Array Slot), zZ 0 V A σ s H locs → lv_has ls 3 [(0, .ref (zad V k0)), (1, .int x1), (2, .int x2)] → zit (fun q => FX7_fillRow_L2 k0 x1 q.1 q.2) n (x2, σ) = some t0 → W p l e (zrm 0 0) s m args below meth c H locs 0 0 Q (F0 m 2 ls []) := by
    intro n
    induction n with
    | zero => intro x2 σ H locs ls  _ _ h1; cases h1
    | succ n ih2 =>
      intro x2 σ H locs ls  hZ hl h1
      obtain ⟨t1, h1, hz1⟩ := zit_1 h1
      replace h1 : FX7_fillRow_L2 k0 x1 x2 σ = some t1 := h1
      unfold FX7_fillRow_L2 at h1
      refine lv_iload_n hx hb dX7_fillRow_2 rfl (lv_at hl 2 rfl) ?_
      refine lv_aload_n hx hb dX7_fillRow_3 rfl (lv_at hl 0 rfl) ?_
      refine z_alen C0 hZ hk0 dX7_fillRow_4 ?_
      refine z_ic_ge (tgt := 18) C0 h1 dX7_fillRow_5 (by decide) (fun h1 => ?_) (fun h1 => ?_)
      · have h1 := zout h1 hz1
        exact J18  _ _ _ _  hZ (lv_sub hl [] rfl) h1
      refine lv_aload_n hx hb dX7_fillRow_8 rfl (lv_at hl 0 rfl) ?_
      refine lv_iload_n hx hb dX7_fillRow_9 rfl (lv_at hl 2 rfl) ?_
      refine lv_iload_n hx hb dX7_fillRow_10 rfl (lv_at hl 1 rfl) ?_
      refine z_iast C0 hZ h1 hk0 dX7_fillRow_11 (fun σ_1 H locs h1 hZ => ?_)
      refine z_iinc (v := 1) C0 h1 hl (fun x2_2 => [(2, .int x2_2), (0, .ref (zad V k0)), (1, .int x1)]) dX7_fillRow_12 (k := 2) rfl (by decide) (by decide) (fun _ => rfl) (fun x2_2 ls h1 hl => ?_)
      refine lv_goto (tgt := 2) hx hb dX7_fillRow_15 (by decide) ?_
      exact ih2 x2_2 _ _ _ _  hZ (lv_sub hl [1, 2, 0] rfl) (zback h1 hz1)
  refine lv_iconst (v := 0) hx hb dX7_fillRow_0 (by decide) ?_
  refine z_istore_n C0 h1 hl (fun x2_3 => [(2, .int x2_3), (0, .ref (zad V k0)), (1, .int x1)]) dX7_fillRow_1 rfl (by decide) (fun _ => rfl) (fun x2_3 ls h1 hl => ?_)
  obtain ⟨n, h1⟩ := zlp_iff.mp h1
  exact J2 n x2_3 _ _ _ _  hZ (lv_sub hl [1, 2, 0] rfl) h1
noncomputable def FX7_bit (x0 : Int32) (σ : zS) : Option (Int32 × zS) := some ((1 <<< (x0 &&& 31)), σ)
set_option maxHeartbeats 4000000 in
set_option maxRecDepth 100000 in
theorem kX7_bit (l : Launch) {V : zV} {σ : zS} {t0 : Int32 × zS} {x0 : Int32}  (h1 : FX7_bit x0 σ = some t0) : zMi l yX7_bit cX7_bit 1 (some .int) 0 0 0 V σ t0 [.int x0] := by
  refine zMi_of (by decide) (Nat.le_of_ble_eq_true rfl) ?_
  intro p e s m below meth c A C0 hr hlk hZ ls hl
  generalize ([.int x0] : List Value).toArray = args at C0 ⊢
  obtain ⟨Q, hQ⟩ : ∃ Q, Q = MQ below (zQi 0 V t0 A) args s 0 0 A := ⟨_, rfl⟩
  rw [← hQ]
  have hx := C0.1
  have hb := C0.2.1
  have hl : lv_has ls 1 [(0, .int x0)] := hl
  unfold FX7_bit at h1
  refine lv_iconst (v := 1) hx hb dX7_bit_0 (by decide) ?_
  refine lv_iload_n hx hb dX7_bit_1 rfl (lv_at hl 0 rfl) ?_
  refine lv_ishl hx hb dX7_bit_2 ?_
  rw [hQ]; exact z_iret C0 hr hlk hZ h1 dX7_bit_3
noncomputable def FX7_holds_b23 (y0 : Int32) (σ : zS) : Option (Int32 × zS) := zgd (y0 == 0 || y0 == 1) (some (y0, σ))
noncomputable def FX7_holds_b22  (σ : zS) : Option (Int32 × zS) := FX7_holds_b23 0 σ
noncomputable def FX7_holds (x0 : Int32) (x1 : Int32) (σ : zS) : Option (Int32 × zS) := if x1 < 0 then FX7_holds_b22  σ else if 32 ≤ x1 then FX7_holds_b22  σ else if ((x0 >>> (x1 &&& 31)) &&& 1) = 0 then FX7_holds_b22  σ else FX7_holds_b23 1 σ
set_option maxHeartbeats 4000000 in
set_option maxRecDepth 100000 in
theorem kX7_holds (l : Launch) {V : zV} {σ : zS} {t0 : Int32 × zS} {x0 : Int32} {x1 : Int32}  (h1 : FX7_holds x0 x1 σ = some t0) : zMi l yX7_holds cX7_holds 2 (some .boolean) 0 0 0 V σ t0 [.int x0, .int x1] := by
  refine zMi_of (by decide) (Nat.le_of_ble_eq_true rfl) ?_
  intro p e s m below meth c A C0 hr hlk hZ ls hl
  generalize ([.int x0, .int x1] : List Value).toArray = args at C0 ⊢
  obtain ⟨Q, hQ⟩ : ∃ Q, Q = MQ below (zQi 0 V t0 A) args s 0 0 A := ⟨_, rfl⟩
  rw [← hQ]
  have hx := C0.1
  have hb := C0.2.1
  have hl : lv_has ls 2 [(0, .int x0), (1, .int x1)] := hl
  unfold FX7_holds at h1
  have J23 : ∀ (y0 : Int32) (σ : zS) (H : Heap) (locs : List Loc) (ls : Array Slot), zZ 0 V A σ s H locs → lv_has ls 2 [] → FX7_holds_b23 y0 σ = some t0 → W p l e (zrm 0 0) s m args below meth c H locs 0 0 Q (F0 m 23 ls [.int y0]) := by
    intro y0 σ H locs ls  hZ hl h1
    unfold FX7_holds_b23 at h1
    rw [hQ]; exact z_zret C0 hr hlk hZ h1 dX7_holds_23
  have J22 : ∀  (σ : zS) (H : Heap) (locs : List Loc) (ls : Array Slot), zZ 0 V A σ s H locs → lv_has ls 2 [] → FX7_holds_b22  σ = some t0 → W p l e (zrm 0 0) s m args below meth c H locs 0 0 Q (F0 m 22 ls []) := by
    intro  σ H locs ls  hZ hl h1
    unfold FX7_holds_b22 at h1
    refine lv_iconst (v := 0) hx hb dX7_holds_22 (by decide) ?_
    exact J23 0 _ _ _ _  hZ (lv_sub hl [] rfl) h1
  refine lv_iload_n hx hb dX7_holds_0 rfl (lv_at hl 1 rfl) ?_
  refine z_if_lt (tgt := 22) C0 h1 dX7_holds_1 (by decide) (fun h1 => ?_) (fun h1 => ?_)
  · exact J22  _ _ _ _  hZ (lv_sub hl [] rfl) h1
  refine lv_iload_n hx hb dX7_holds_4 rfl (lv_at hl 1 rfl) ?_
  refine lv_bipush (v := 32) hx hb dX7_holds_5 (by decide) ?_
  refine z_ic_ge (tgt := 22) C0 h1 dX7_holds_7 (by decide) (fun h1 => ?_) (fun h1 => ?_)
  · exact J22  _ _ _ _  hZ (lv_sub hl [] rfl) h1
  refine lv_iload_n hx hb dX7_holds_10 rfl (lv_at hl 0 rfl) ?_
  refine lv_iload_n hx hb dX7_holds_11 rfl (lv_at hl 1 rfl) ?_
  refine lv_ishr hx hb dX7_holds_12 ?_
  refine lv_iconst (v := 1) hx hb dX7_holds_13 (by decide) ?_
  refine lv_iand hx hb dX7_holds_14 ?_
  refine z_if_eq (tgt := 22) C0 h1 dX7_holds_15 (by decide) (fun h1 => ?_) (fun h1 => ?_)
  · exact J22  _ _ _ _  hZ (lv_sub hl [] rfl) h1
  refine lv_iconst (v := 1) hx hb dX7_holds_18 (by decide) ?_
  refine lv_goto (tgt := 23) hx hb dX7_holds_19 (by decide) ?_
  exact J23 1 _ _ _ _  hZ (lv_sub hl [] rfl) h1
noncomputable def FX1_hasAisle_b17 (y0 : Int32) (σ : zS) : Option (Int32 × zS) := zgd (y0 == 0 || y0 == 1) (some (y0, σ))
noncomputable def FX1_hasAisle_b16  (σ : zS) : Option (Int32 × zS) := FX1_hasAisle_b17 0 σ
noncomputable def FX1_hasAisle (k0 : Nat) (x1 : Int32) (σ : zS) : Option (Int32 × zS) := if x1 < 0 then FX1_hasAisle_b16  σ else if (σ k0 0) ≤ x1 then FX1_hasAisle_b16  σ else FX1_hasAisle_b17 1 σ
set_option maxHeartbeats 4000000 in
set_option maxRecDepth 100000 in
theorem kX1_hasAisle (l : Launch) {V : zV} {σ : zS} {t0 : Int32 × zS} {k0 : Nat} {x1 : Int32} (hk0 : kd 0 k0 = 1) (h1 : FX1_hasAisle k0 x1 σ = some t0) : zMi l yX1_hasAisle cX1_hasAisle 2 (some .boolean) 0 0 0 V σ t0 [.ref (zad V k0), .int x1] := by
  refine zMi_of (by decide) (Nat.le_of_ble_eq_true rfl) ?_
  intro p e s m below meth c A C0 hr hlk hZ ls hl
  generalize ([.ref (zad V k0), .int x1] : List Value).toArray = args at C0 ⊢
  obtain ⟨Q, hQ⟩ : ∃ Q, Q = MQ below (zQi 0 V t0 A) args s 0 0 A := ⟨_, rfl⟩
  rw [← hQ]
  have hx := C0.1
  have hb := C0.2.1
  have hl : lv_has ls 2 [(0, .ref (zad V k0)), (1, .int x1)] := hl
  unfold FX1_hasAisle at h1
  have J17 : ∀ (y0 : Int32) (σ : zS) (H : Heap) (locs : List Loc) (ls : Array Slot), zZ 0 V A σ s H locs → lv_has ls 2 [] → FX1_hasAisle_b17 y0 σ = some t0 → W p l e (zrm 0 0) s m args below meth c H locs 0 0 Q (F0 m 17 ls [.int y0]) := by
    intro y0 σ H locs ls  hZ hl h1
    unfold FX1_hasAisle_b17 at h1
    rw [hQ]; exact z_zret C0 hr hlk hZ h1 dX1_hasAisle_17
  have J16 : ∀  (σ : zS) (H : Heap) (locs : List Loc) (ls : Array Slot), zZ 0 V A σ s H locs → lv_has ls 2 [] → FX1_hasAisle_b16  σ = some t0 → W p l e (zrm 0 0) s m args below meth c H locs 0 0 Q (F0 m 16 ls []) := by
    intro  σ H locs ls  hZ hl h1
    unfold FX1_hasAisle_b16 at h1
    refine lv_iconst (v := 0) hx hb dX1_hasAisle_16 (by decide) ?_
    exact J17 0 _ _ _ _  hZ (lv_sub hl [] rfl) h1
  refine lv_iload_n hx hb dX1_hasAisle_0 rfl (lv_at hl 1 rfl) ?_
  refine z_if_lt (tgt := 16) C0 h1 dX1_hasAisle_1 (by decide) (fun h1 => ?_) (fun h1 => ?_)
  · exact J16  _ _ _ _  hZ (lv_sub hl [] rfl) h1
  refine lv_iload_n hx hb dX1_hasAisle_4 rfl (lv_at hl 1 rfl) ?_
  refine lv_aload_n hx hb dX1_hasAisle_5 rfl (lv_at hl 0 rfl) ?_
  refine z_geti C0 hZ hk0 fRX1_9 rfl dX1_hasAisle_6 ?_
  refine z_ic_ge (tgt := 16) C0 h1 dX1_hasAisle_9 (by decide) (fun h1 => ?_) (fun h1 => ?_)
  · exact J16  _ _ _ _  hZ (lv_sub hl [] rfl) h1
  refine lv_iconst (v := 1) hx hb dX1_hasAisle_12 (by decide) ?_
  refine lv_goto (tgt := 17) hx hb dX1_hasAisle_13 (by decide) ?_
  exact J17 1 _ _ _ _  hZ (lv_sub hl [] rfl) h1
noncomputable def FX1_joins (k0 : Nat) (x1 : Int32) (x2 : Int32) (σ : zS) : Option (Int32 × zS) := zbd (FX7_at (k0 + 3) x1 σ) (fun r_2 σ_1 => zbd (FX7_holds r_2 x2 σ_1) (fun r_4 σ_3 => zgd (r_4 == 0 || r_4 == 1) (some (r_4, σ_3))))
set_option maxHeartbeats 4000000 in
set_option maxRecDepth 100000 in
theorem kX1_joins (l : Launch) {V : zV} {σ : zS} {t0 : Int32 × zS} {k0 : Nat} {x1 : Int32} {x2 : Int32} (hk0 : kd 0 k0 = 1) (h1 : FX1_joins k0 x1 x2 σ = some t0) : zMi l yX1_joins cX1_joins 3 (some .boolean) 1 21 0 V σ t0 [.ref (zad V k0), .int x1, .int x2] := by
  refine zMi_of (by decide) (Nat.le_of_ble_eq_true rfl) ?_
  intro p e s m below meth c A C0 hr hlk hZ ls hl
  generalize ([.ref (zad V k0), .int x1, .int x2] : List Value).toArray = args at C0 ⊢
  obtain ⟨Q, hQ⟩ : ∃ Q, Q = MQ below (zQi 0 V t0 A) args s 0 0 A := ⟨_, rfl⟩
  rw [← hQ]
  have hx := C0.1
  have hb := C0.2.1
  have hl : lv_has ls 3 [(0, .ref (zad V k0)), (1, .int x1), (2, .int x2)] := hl
  unfold FX1_joins at h1
  refine lv_aload_n hx hb dX1_joins_0 rfl (lv_at hl 0 rfl) ?_
  refine z_getr C0 hZ hk0 fRX1_28 rfl dX1_joins_1 ?_
  refine lv_iload_n hx hb dX1_joins_4 rfl (lv_at hl 1 rfl) ?_
  refine z_cSi (As := [.ref (zad V (k0 + 3)), .int x1]) (rest := []) C0 hZ h1 (fun _ hf => kX7_at l (zkt1_5 hk0) hf) mRX1_41 sX7_at rfl rfl hl.1 (Nat.le_of_ble_eq_true rfl) ⟨Nat.le_of_ble_eq_true rfl, Nat.le_of_ble_eq_true rfl⟩ dX1_joins_5 ⟨Nat.zero_le _, Nat.zero_le _⟩ (fun r_2 σ_1 H locs h1 hZ => ?_)
  refine lv_iload_n hx hb dX1_joins_8 rfl (lv_at hl 2 rfl) ?_
  refine z_cSi (As := [.int r_2, .int x2]) (rest := []) C0 hZ h1 (fun _ hf => kX7_holds l  hf) mRX1_45 sX7_holds rfl rfl hl.1 (Nat.le_of_ble_eq_true rfl) ⟨Nat.le_of_ble_eq_true rfl, Nat.le_of_ble_eq_true rfl⟩ dX1_joins_9 ⟨Nat.zero_le _, Nat.zero_le _⟩ (fun r_4 σ_3 H locs h1 hZ => ?_)
  rw [hQ]; exact z_zret C0 hr hlk hZ h1 dX1_joins_12
noncomputable def FX1_between (k0 : Nat) (x1 : Int32) (x2 : Int32) (σ : zS) : Option (Int32 × zS) := zbd (FX7_at (k0 + 5) ((x1 * 10) + x2) σ) (fun r_2 σ_1 => some (r_2, σ_1))
set_option maxHeartbeats 4000000 in
set_option maxRecDepth 100000 in
theorem kX1_between (l : Launch) {V : zV} {σ : zS} {t0 : Int32 × zS} {k0 : Nat} {x1 : Int32} {x2 : Int32} (hk0 : kd 0 k0 = 1) (h1 : FX1_between k0 x1 x2 σ = some t0) : zMi l yX1_between cX1_between 3 (some .int) 1 21 0 V σ t0 [.ref (zad V k0), .int x1, .int x2] := by
  refine zMi_of (by decide) (Nat.le_of_ble_eq_true rfl) ?_
  intro p e s m below meth c A C0 hr hlk hZ ls hl
  generalize ([.ref (zad V k0), .int x1, .int x2] : List Value).toArray = args at C0 ⊢
  obtain ⟨Q, hQ⟩ : ∃ Q, Q = MQ below (zQi 0 V t0 A) args s 0 0 A := ⟨_, rfl⟩
  rw [← hQ]
  have hx := C0.1
  have hb := C0.2.1
  have hl : lv_has ls 3 [(0, .ref (zad V k0)), (1, .int x1), (2, .int x2)] := hl
  unfold FX1_between at h1
  refine lv_aload_n hx hb dX1_between_0 rfl (lv_at hl 0 rfl) ?_
  refine z_getr C0 hZ hk0 fRX1_34 rfl dX1_between_1 ?_
  refine lv_iload_n hx hb dX1_between_4 rfl (lv_at hl 1 rfl) ?_
  refine lv_bipush (v := 10) hx hb dX1_between_5 (by decide) ?_
  refine lv_imul hx hb dX1_between_7 ?_
  refine lv_iload_n hx hb dX1_between_8 rfl (lv_at hl 2 rfl) ?_
  refine lv_iadd hx hb dX1_between_9 ?_
  refine z_cSi (As := [.ref (zad V (k0 + 5)), .int ((x1 * 10) + x2)]) (rest := []) C0 hZ h1 (fun _ hf => kX7_at l (zkt1_7 hk0) hf) mRX1_41 sX7_at rfl rfl hl.1 (Nat.le_of_ble_eq_true rfl) ⟨Nat.le_of_ble_eq_true rfl, Nat.le_of_ble_eq_true rfl⟩ dX1_between_10 ⟨Nat.zero_le _, Nat.zero_le _⟩ (fun r_2 σ_1 H locs h1 hZ => ?_)
  rw [hQ]; exact z_iret C0 hr hlk hZ h1 dX1_between_13
noncomputable def FX1_nearer_b55 (x1 : Int32) (σ : zS) : Option (Int32 × zS) := some (x1, σ)
noncomputable def FX1_nearer_b46 (x4 : Int32) (σ : zS) : Option (Int32 × zS) := some (x4, σ)
noncomputable def FX1_nearer_b49 (k0 : Nat) (x1 : Int32) (x2 : Int32) (x3 : Int32) (x4 : Int32) (σ : zS) : Option ((Int32 × zS) ⊕ (Int32 × zS)) := zlet (x4 + 1) (fun x4_1 => some (.inl (x4_1, σ)))
noncomputable def FX1_nearer_L10 (k0 : Nat) (x1 : Int32) (x2 : Int32) (x3 : Int32) (x4 : Int32) (σ : zS) : Option ((Int32 × zS) ⊕ (Int32 × zS)) := if (σ k0 0) ≤ x4 then zinr (FX1_nearer_b55 x1 σ) else if x3 = 99 then zinr (FX1_nearer_b55 x1 σ) else zbd (FX1_joins k0 x1 x4 σ) (fun r_3 σ_2 => if r_3 = 0 then FX1_nearer_b49 k0 x1 x2 x3 x4 σ_2 else zbd (FX1_between k0 x4 x2 σ_2) (fun r_5 σ_4 => if x3 ≤ r_5 then FX1_nearer_b49 k0 x1 x2 x3 x4 σ_4 else zinr (FX1_nearer_b46 x4 σ_4)))
noncomputable def FX1_nearer (k0 : Nat) (x1 : Int32) (x2 : Int32) (σ : zS) : Option (Int32 × zS) := zbd (FX1_between k0 x1 x2 σ) (fun r_7 σ_6 => zlet r_7 (fun x3_8 => zlet 0 (fun x4_9 => zlp (fun q => FX1_nearer_L10 k0 x1 x2 x3_8 q.1 q.2) (x4_9, σ_6))))
set_option maxHeartbeats 4000000 in
set_option maxRecDepth 100000 in
theorem kX1_nearer (l : Launch) {V : zV} {σ : zS} {t0 : Int32 × zS} {k0 : Nat} {x1 : Int32} {x2 : Int32} (hk0 : kd 0 k0 = 1) (h1 : FX1_nearer k0 x1 x2 σ = some t0) : zMi l yX1_nearer cX1_nearer 5 (some .int) 2 43 0 V σ t0 [.ref (zad V k0), .int x1, .int x2] := by
  refine zMi_of (by decide) (Nat.le_of_ble_eq_true rfl) ?_
  intro p e s m below meth c A C0 hr hlk hZ ls hl
  generalize ([.ref (zad V k0), .int x1, .int x2] : List Value).toArray = args at C0 ⊢
  obtain ⟨Q, hQ⟩ : ∃ Q, Q = MQ below (zQi 0 V t0 A) args s 0 0 A := ⟨_, rfl⟩
  rw [← hQ]
  have hx := C0.1
  have hb := C0.2.1
  have hl : lv_has ls 5 [(0, .ref (zad V k0)), (1, .int x1), (2, .int x2)] := hl
  unfold FX1_nearer at h1
  have J55 : ∀  (σ : zS) (H : Heap) (locs : List Loc) (ls : Array Slot), zZ 0 V A σ s H locs → lv_has ls 5 [(1, .int x1)] → FX1_nearer_b55 x1 σ = some t0 → W p l e (zrm 2 43) s m args below meth c H locs 0 0 Q (F0 m 55 ls []) := by
    intro  σ H locs ls  hZ hl h1
    unfold FX1_nearer_b55 at h1
    refine lv_iload_n hx hb dX1_nearer_55 rfl (lv_at hl 0 rfl) ?_
    rw [hQ]; exact z_iret C0 hr hlk hZ h1 dX1_nearer_56
  have J46 : ∀ (x4 : Int32) (σ : zS) (H : Heap) (locs : List Loc) (ls : Array Slot), zZ 0 V A σ s H locs → lv_has ls 5 [(4, .int x4)] → FX1_nearer_b46 x4 σ = some t0 → W p l e (zrm 2 43) s m args below meth c H locs 0 0 Q (F0 m 46 ls []) := by
    intro x4 σ H locs ls  hZ hl h1
    unfold FX1_nearer_b46 at h1
    refine lv_iload hx hb dX1_nearer_46 (lv_at hl 0 rfl) ?_
    rw [hQ]; exact z_iret C0 hr hlk hZ h1 dX1_nearer_48
  have J10 : ∀ (n : Nat) (x3 : Int32) (x4 : Int32) (σ : zS) (H : Heap) (locs : List Loc) (ls : Array Slot), zZ 0 V A σ s H locs → lv_has ls 5 [(0, .ref (zad V k0)), (1, .int x1), (2, .int x2), (3, .int x3), (4, .int x4)] → zit (fun q => FX1_nearer_L10 k0 x1 x2 x3 q.1 q.2) n (x4, σ) = some t0 → W p l e (zrm 2 43) s m args below meth c H locs 0 0 Q (F0 m 10 ls []) := by
    intro n
    induction n with
    | zero => intro x3 x4 σ H locs ls  _ _ h1; cases h1
    | succ n ih10 =>
      intro x3 x4 σ H locs ls  hZ hl h1
      obtain ⟨t1, h1, hz1⟩ := zit_1 h1
      have J49 : ∀ (x4 : Int32) (σ : zS) (H : Heap) (locs : List Loc) (ls : Array Slot), zZ 0 V A σ s H locs → lv_has ls 5 [(0, .ref (zad V k0)), (1, .int x1), (2, .int x2), (3, .int x3), (4, .int x4)] → FX1_nearer_b49 k0 x1 x2 x3 x4 σ = some t1 → W p l e (zrm 2 43) s m args below meth c H locs 0 0 Q (F0 m 49 ls []) := by
        intro x4 σ H locs ls  hZ hl h1
        unfold FX1_nearer_b49 at h1
        refine z_iinc (v := 1) C0 h1 hl (fun x4_1 => [(4, .int x4_1), (0, .ref (zad V k0)), (1, .int x1), (2, .int x2), (3, .int x3)]) dX1_nearer_49 (k := 4) rfl (by decide) (by decide) (fun _ => rfl) (fun x4_1 ls h1 hl => ?_)
        refine lv_goto (tgt := 10) hx hb dX1_nearer_52 (by decide) ?_
        exact ih10 x3 x4_1 _ _ _ _  hZ (lv_sub hl [1, 2, 3, 4, 0] rfl) (zback h1 hz1)
      replace h1 : FX1_nearer_L10 k0 x1 x2 x3 x4 σ = some t1 := h1
      unfold FX1_nearer_L10 at h1
      refine lv_iload hx hb dX1_nearer_10 (lv_at hl 4 rfl) ?_
      refine lv_aload_n hx hb dX1_nearer_12 rfl (lv_at hl 0 rfl) ?_
      refine z_geti C0 hZ hk0 fRX1_9 rfl dX1_nearer_13 ?_
      refine z_ic_ge (tgt := 55) C0 h1 dX1_nearer_16 (by decide) (fun h1 => ?_) (fun h1 => ?_)
      · have h1 := zout h1 hz1
        exact J55  _ _ _ _  hZ (lv_sub hl [1] rfl) h1
      refine lv_iload_n hx hb dX1_nearer_19 rfl (lv_at hl 3 rfl) ?_
      refine lv_bipush (v := 99) hx hb dX1_nearer_20 (by decide) ?_
      refine z_ic_eq (tgt := 55) C0 h1 dX1_nearer_22 (by decide) (fun h1 => ?_) (fun h1 => ?_)
      · have h1 := zout h1 hz1
        exact J55  _ _ _ _  hZ (lv_sub hl [1] rfl) h1
      refine lv_aload_n hx hb dX1_nearer_25 rfl (lv_at hl 0 rfl) ?_
      refine lv_iload_n hx hb dX1_nearer_26 rfl (lv_at hl 1 rfl) ?_
      refine lv_iload hx hb dX1_nearer_27 (lv_at hl 4 rfl) ?_
      refine z_cVi (As := [.int x1, .int x4]) (rest := []) C0 hZ h1 (fun _ hf => kX1_joins l hk0 hf) mRX1_57 vX1_joins hk0 rfl rfl hl.1 (Nat.le_of_ble_eq_true rfl) ⟨Nat.le_of_ble_eq_true rfl, Nat.le_of_ble_eq_true rfl⟩ dX1_nearer_29 ⟨Nat.zero_le _, Nat.zero_le _⟩ (fun r_3 σ_2 H locs h1 hZ => ?_)
      refine z_if_eq (tgt := 49) C0 h1 dX1_nearer_32 (by decide) (fun h1 => ?_) (fun h1 => ?_)
      · exact J49 x4 _ _ _ _  hZ (lv_sub hl [0, 1, 2, 3, 4] rfl) h1
      refine lv_aload_n hx hb dX1_nearer_35 rfl (lv_at hl 0 rfl) ?_
      refine lv_iload hx hb dX1_nearer_36 (lv_at hl 4 rfl) ?_
      refine lv_iload_n hx hb dX1_nearer_38 rfl (lv_at hl 2 rfl) ?_
      refine z_cVi (As := [.int x4, .int x2]) (rest := []) C0 hZ h1 (fun _ hf => kX1_between l hk0 hf) mRX1_60 vX1_between hk0 rfl rfl hl.1 (Nat.le_of_ble_eq_true rfl) ⟨Nat.le_of_ble_eq_true rfl, Nat.le_of_ble_eq_true rfl⟩ dX1_nearer_39 ⟨Nat.zero_le _, Nat.zero_le _⟩ (fun r_5 σ_4 H locs h1 hZ => ?_)
      refine lv_iload_n hx hb dX1_nearer_42 rfl (lv_at hl 3 rfl) ?_
      refine z_ic_ge (tgt := 49) C0 h1 dX1_nearer_43 (by decide) (fun h1 => ?_) (fun h1 => ?_)
      · exact J49 x4 _ _ _ _  hZ (lv_sub hl [0, 1, 2, 3, 4] rfl) h1
      have h1 := zout h1 hz1
      exact J46 x4 _ _ _ _  hZ (lv_sub hl [4] rfl) h1
  refine lv_aload_n hx hb dX1_nearer_0 rfl (lv_at hl 0 rfl) ?_
  refine lv_iload_n hx hb dX1_nearer_1 rfl (lv_at hl 1 rfl) ?_
  refine lv_iload_n hx hb dX1_nearer_2 rfl (lv_at hl 2 rfl) ?_
  refine z_cVi (As := [.int x1, .int x2]) (rest := []) C0 hZ h1 (fun _ hf => kX1_between l hk0 hf) mRX1_60 vX1_between hk0 rfl rfl hl.1 (Nat.le_of_ble_eq_true rfl) ⟨Nat.le_of_ble_eq_true rfl, Nat.le_of_ble_eq_true rfl⟩ dX1_nearer_3 ⟨Nat.zero_le _, Nat.zero_le _⟩ (fun r_7 σ_6 H locs h1 hZ => ?_)
  refine z_istore_n C0 h1 hl (fun x3_8 => [(3, .int x3_8), (0, .ref (zad V k0)), (1, .int x1), (2, .int x2)]) dX1_nearer_6 rfl (by decide) (fun _ => rfl) (fun x3_8 ls h1 hl => ?_)
  refine lv_iconst (v := 0) hx hb dX1_nearer_7 (by decide) ?_
  refine z_istore C0 h1 hl (fun x4_9 => [(4, .int x4_9), (3, .int x3_8), (0, .ref (zad V k0)), (1, .int x1), (2, .int x2)]) dX1_nearer_8 (by decide) (fun _ => rfl) (fun x4_9 ls h1 hl => ?_)
  obtain ⟨n, h1⟩ := zlp_iff.mp h1
  exact J10 n x3_8 x4_9 _ _ _ _  hZ (lv_sub hl [2, 3, 4, 1, 0] rfl) h1
