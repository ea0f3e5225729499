set_option maxHeartbeats 4000000 in
theorem gW_shop (l : Launch) (hfl : l.stackTraces = false) {V : zV} {cL : ClassId} {o : Nat} {σ : zS} {f0 : Nat → Int64} {t : zT3} {code : Int32} {x1 : Int32} (h1 : FX7_shop 0 x1 σ = some t) (hk : (t.1 = 0 ∧ code = 0) ∨ (t.1 = 2 ∧ code = 1)) : gWq l yL_shop cL_shop 4 215 8534 1 6 hL_shop V cL o σ f0 t code [.ref (zad V 0), .int x1, .ref o] := by
  refine gWq_of (by decide) (Nat.le_of_ble_eq_true rfl) ?_
  intro p e s m below meth c A C0 hr hlk hT hN hZ ls hl
  generalize ([.ref (zad V 0), .int x1, .ref o] : List Value).toArray = args at C0 ⊢
  obtain ⟨Q, hQ⟩ : ∃ Q, Q = MQ below (gqQ V cL o t code A) args s 1 6 A := ⟨_, rfl⟩
  rw [← hQ]
  have hx := C0.1
  have hb := C0.2.1
  have hl : lv_has ls 4 [(0, .ref (zad V 0)), (1, .int x1), (2, .ref o)] := hl
  refine lv_aload_n hx hb dL_shop_0 rfl (lv_at hl 2 rfl) ?_
  refine lv_iconst (v := 0) hx hb dL_shop_1 (by decide) ?_
  refine lv_aload_n hx hb dL_shop_2 rfl (lv_at hl 0 rfl) ?_
  refine lv_iload_n hx hb dL_shop_3 rfl (lv_at hl 1 rfl) ?_
  refine gw_x (As := [.int x1]) (rest := [.int 0, .ref o]) C0 hZ (kX7_shop l hfl rfl h1) kW7_shop mW7_shop vL7_shop rfl rfl hl.1 (Nat.le_of_ble_eq_true rfl) ⟨Nat.le_of_ble_eq_true rfl, Nat.le_of_ble_eq_true rfl⟩ dL_shop_4 ⟨Nat.le_of_ble_eq_true rfl, Nat.le_of_ble_eq_true rfl⟩ (fun ce q9 H1 locs1 h0 hZ hce hcv hcl => ?_) (fun H1 locs1 h0 hZ => ?_)
  · rcases hk with ⟨h01, h02⟩ | ⟨h01, h02⟩
    · exact absurd h01 h0
    · rw [h01] at hcl
      refine vx_catch (E := "java/lang/IllegalArgumentException") (name := "java/lang/IllegalArgumentException") C0.2.2.2.1 [] ⟨0, 9, 12, 13⟩ [] hT (fun z h => nomatch h) rfl (by decide) (C0.2.2.2.2 _ lwIAE) (C0.2.2.2.2 _ lcIAE) hce hcv hcl ?_
      refine lv_astore_n (lv' := [(3, .ref q9), (0, .ref (zad V 0)), (1, .int x1), (2, .ref o)]) hx hb dL_shop_12 rfl hl (by decide) rfl (fun ls hl => ?_)
      refine lv_iconst (v := 1) hx hb dL_shop_13 (by decide) ?_
      rw [hQ]; exact gq_end C0 hr hlk hZ h02.symm (fun h => absurd h h0) ⟨Nat.le_of_ble_eq_true rfl, Nat.le_of_ble_eq_true rfl⟩ dL_shop_14
  · have hc : code = 0 := by
      rcases hk with ⟨h01, h02⟩ | ⟨h01, h02⟩
      · exact h02
      · exact absurd (h01.symm.trans h0) (by decide)
    rw [hQ]; exact gq_ret C0 hr hlk hZ rfl hc ⟨Nat.le_of_ble_eq_true rfl, Nat.le_of_ble_eq_true rfl⟩ dL_shop_7 dL_shop_8 dL_shop_9 (by decide) dL_shop_15 dL_shop_16
set_option maxHeartbeats 4000000 in
theorem gW_count (l : Launch) (hfl : l.stackTraces = false) {V : zV} {cL : ClassId} {o : Nat} {σ : zS} {f0 : Nat → Int64} {t : zT3} {code : Int32} {x1 : Int32} (h1 : FX7_count 0 x1 σ = some t) (hk : (t.1 = 0 ∧ code = 0) ∨ (t.1 = 1 ∧ code = 1)) : gWq l yL_count cL_count 4 7 111 1 6 hL_count V cL o σ f0 t code [.ref (zad V 0), .int x1, .ref o] := by
  refine gWq_of (by decide) (Nat.le_of_ble_eq_true rfl) ?_
  intro p e s m below meth c A C0 hr hlk hT hN hZ ls hl
  generalize ([.ref (zad V 0), .int x1, .ref o] : List Value).toArray = args at C0 ⊢
  obtain ⟨Q, hQ⟩ : ∃ Q, Q = MQ below (gqQ V cL o t code A) args s 1 6 A := ⟨_, rfl⟩
  rw [← hQ]
  have hx := C0.1
  have hb := C0.2.1
  have hl : lv_has ls 4 [(0, .ref (zad V 0)), (1, .int x1), (2, .ref o)] := hl
  refine lv_aload_n hx hb dL_count_0 rfl (lv_at hl 2 rfl) ?_
  refine lv_iconst (v := 0) hx hb dL_count_1 (by decide) ?_
  refine lv_aload_n hx hb dL_count_2 rfl (lv_at hl 0 rfl) ?_
  refine lv_iload_n hx hb dL_count_3 rfl (lv_at hl 1 rfl) ?_
  refine gw_x (As := [.int x1]) (rest := [.int 0, .ref o]) C0 hZ (kX7_count l hfl rfl h1) kW7_count mW7_count vL7_count rfl rfl hl.1 (Nat.le_of_ble_eq_true rfl) ⟨Nat.le_of_ble_eq_true rfl, Nat.le_of_ble_eq_true rfl⟩ dL_count_4 ⟨Nat.le_of_ble_eq_true rfl, Nat.le_of_ble_eq_true rfl⟩ (fun ce q9 H1 locs1 h0 hZ hce hcv hcl => ?_) (fun H1 locs1 h0 hZ => ?_)
  · rcases hk with ⟨h01, h02⟩ | ⟨h01, h02⟩
    · exact absurd h01 h0
    · rw [h01] at hcl
      refine vx_catch (E := "java/util/NoSuchElementException") (name := "java/util/NoSuchElementException") C0.2.2.2.1 [] ⟨0, 9, 12, 18⟩ [] hT (fun z h => nomatch h) rfl (by decide) (C0.2.2.2.2 _ lwNSE) (C0.2.2.2.2 _ lcNSE) hce hcv hcl ?_
      refine lv_astore_n (lv' := [(3, .ref q9), (0, .ref (zad V 0)), (1, .int x1), (2, .ref o)]) hx hb dL_count_12 rfl hl (by decide) rfl (fun ls hl => ?_)
      refine lv_iconst (v := 1) hx hb dL_count_13 (by decide) ?_
      rw [hQ]; exact gq_end C0 hr hlk hZ h02.symm (fun h => absurd h h0) ⟨Nat.le_of_ble_eq_true rfl, Nat.le_of_ble_eq_true rfl⟩ dL_count_14
  · have hc : code = 0 := by
      rcases hk with ⟨h01, h02⟩ | ⟨h01, h02⟩
      · exact h02
      · exact absurd (h01.symm.trans h0) (by decide)
    rw [hQ]; exact gq_ret C0 hr hlk hZ rfl hc ⟨Nat.le_of_ble_eq_true rfl, Nat.le_of_ble_eq_true rfl⟩ dL_count_7 dL_count_8 dL_count_9 (by decide) dL_count_15 dL_count_16
set_option maxHeartbeats 4000000 in
theorem gW_aisle (l : Launch) (hfl : l.stackTraces = false) {V : zV} {cL : ClassId} {o : Nat} {σ : zS} {f0 : Nat → Int64} {t : zT3} {code : Int32} {x1 : Int32} {x2 : Int32} (h1 : FX7_aisle 0 x1 x2 σ = some t) (hk : (t.1 = 0 ∧ code = 0) ∨ (t.1 = 1 ∧ code = 1)) : gWq l yL_aisle cL_aisle 5 8 133 2 12 hL_aisle V cL o σ f0 t code [.ref (zad V 0), .int x1, .int x2, .ref o] := by
  refine gWq_of (by decide) (Nat.le_of_ble_eq_true rfl) ?_
  intro p e s m below meth c A C0 hr hlk hT hN hZ ls hl
  generalize ([.ref (zad V 0), .int x1, .int x2, .ref o] : List Value).toArray = args at C0 ⊢
  obtain ⟨Q, hQ⟩ : ∃ Q, Q = MQ below (gqQ V cL o t code A) args s 2 12 A := ⟨_, rfl⟩
  rw [← hQ]
  have hx := C0.1
  have hb := C0.2.1
  have hl : lv_has ls 5 [(0, .ref (zad V 0)), (1, .int x1), (2, .int x2), (3, .ref o)] := hl
  refine lv_aload_n hx hb dL_aisle_0 rfl (lv_at hl 3 rfl) ?_
  refine lv_iconst (v := 0) hx hb dL_aisle_1 (by decide) ?_
  refine lv_aload_n hx hb dL_aisle_2 rfl (lv_at hl 0 rfl) ?_
  refine lv_iload_n hx hb dL_aisle_3 rfl (lv_at hl 1 rfl) ?_
  refine lv_iload_n hx hb dL_aisle_4 rfl (lv_at hl 2 rfl) ?_
  refine gw_x (As := [.int x1, .int x2]) (rest := [.int 0, .ref o]) C0 hZ (kX7_aisle l hfl rfl h1) kW7_aisle mW7_aisle vL7_aisle rfl rfl hl.1 (Nat.le_of_ble_eq_true rfl) ⟨Nat.le_of_ble_eq_true rfl, Nat.le_of_ble_eq_true rfl⟩ dL_aisle_5 ⟨Nat.le_of_ble_eq_true rfl, Nat.le_of_ble_eq_true rfl⟩ (fun ce q9 H1 locs1 h0 hZ hce hcv hcl => ?_) (fun H1 locs1 h0 hZ => ?_)
  · rcases hk with ⟨h01, h02⟩ | ⟨h01, h02⟩
    · exact absurd h01 h0
    · rw [h01] at hcl
      refine vx_catch (E := "java/util/NoSuchElementException") (name := "java/util/NoSuchElementException") C0.2.2.2.1 [] ⟨0, 10, 13, 18⟩ [] hT (fun z h => nomatch h) rfl (by decide) (C0.2.2.2.2 _ lwNSE) (C0.2.2.2.2 _ lcNSE) hce hcv hcl ?_
      refine lv_astore (lv' := [(4, .ref q9), (0, .ref (zad V 0)), (1, .int x1), (2, .int x2), (3, .ref o)]) hx hb dL_aisle_13 hl (by decide) rfl (fun ls hl => ?_)
      refine lv_iconst (v := 1) hx hb dL_aisle_15 (by decide) ?_
      rw [hQ]; exact gq_end C0 hr hlk hZ h02.symm (fun h => absurd h h0) ⟨Nat.le_of_ble_eq_true rfl, Nat.le_of_ble_eq_true rfl⟩ dL_aisle_16
  · have hc : code = 0 := by
      rcases hk with ⟨h01, h02⟩ | ⟨h01, h02⟩
      · exact h02
      · exact absurd (h01.symm.trans h0) (by decide)
    rw [hQ]; exact gq_ret C0 hr hlk hZ rfl hc ⟨Nat.le_of_ble_eq_true rfl, Nat.le_of_ble_eq_true rfl⟩ dL_aisle_8 dL_aisle_9 dL_aisle_10 (by decide) dL_aisle_17 dL_aisle_18
set_option maxHeartbeats 4000000 in
theorem gW_person (l : Launch) (hfl : l.stackTraces = false) {V : zV} {cL : ClassId} {o : Nat} {σ : zS} {f0 : Nat → Int64} {t : zT3} {code : Int32} {x1 : Int32} {x2 : Int32} (h1 : FX7_person 0 x1 x2 σ = some t) (hk : (t.1 = 0 ∧ code = 0) ∨ (t.1 = 1 ∧ code = 1)) : gWq l yL_person cL_person 5 8 133 2 12 hL_person V cL o σ f0 t code [.ref (zad V 0), .int x1, .int x2, .ref o] := by
  refine gWq_of (by decide) (Nat.le_of_ble_eq_true rfl) ?_
  intro p e s m below meth c A C0 hr hlk hT hN hZ ls hl
  generalize ([.ref (zad V 0), .int x1, .int x2, .ref o] : List Value).toArray = args at C0 ⊢
  obtain ⟨Q, hQ⟩ : ∃ Q, Q = MQ below (gqQ V cL o t code A) args s 2 12 A := ⟨_, rfl⟩
  rw [← hQ]
  have hx := C0.1
  have hb := C0.2.1
  have hl : lv_has ls 5 [(0, .ref (zad V 0)), (1, .int x1), (2, .int x2), (3, .ref o)] := hl
  refine lv_aload_n hx hb dL_person_0 rfl (lv_at hl 3 rfl) ?_
  refine lv_iconst (v := 0) hx hb dL_person_1 (by decide) ?_
  refine lv_aload_n hx hb dL_person_2 rfl (lv_at hl 0 rfl) ?_
  refine lv_iload_n hx hb dL_person_3 rfl (lv_at hl 1 rfl) ?_
  refine lv_iload_n hx hb dL_person_4 rfl (lv_at hl 2 rfl) ?_
  refine gw_x (As := [.int x1, .int x2]) (rest := [.int 0, .ref o]) C0 hZ (kX7_person l hfl rfl h1) kW7_person mW7_person vL7_person rfl rfl hl.1 (Nat.le_of_ble_eq_true rfl) ⟨Nat.le_of_ble_eq_true rfl, Nat.le_of_ble_eq_true rfl⟩ dL_person_5 ⟨Nat.le_of_ble_eq_true rfl, Nat.le_of_ble_eq_true rfl⟩ (fun ce q9 H1 locs1 h0 hZ hce hcv hcl => ?_) (fun H1 locs1 h0 hZ => ?_)
  · rcases hk with ⟨h01, h02⟩ | ⟨h01, h02⟩
    · exact absurd h01 h0
    · rw [h01] at hcl
      refine vx_catch (E := "java/util/NoSuchElementException") (name := "java/util/NoSuchElementException") C0.2.2.2.1 [] ⟨0, 10, 13, 18⟩ [] hT (fun z h => nomatch h) rfl (by decide) (C0.2.2.2.2 _ lwNSE) (C0.2.2.2.2 _ lcNSE) hce hcv hcl ?_
      refine lv_astore (lv' := [(4, .ref q9), (0, .ref (zad V 0)), (1, .int x1), (2, .int x2), (3, .ref o)]) hx hb dL_person_13 hl (by decide) rfl (fun ls hl => ?_)
      refine lv_iconst (v := 1) hx hb dL_person_15 (by decide) ?_
      rw [hQ]; exact gq_end C0 hr hlk hZ h02.symm (fun h => absurd h h0) ⟨Nat.le_of_ble_eq_true rfl, Nat.le_of_ble_eq_true rfl⟩ dL_person_16
  · have hc : code = 0 := by
      rcases hk with ⟨h01, h02⟩ | ⟨h01, h02⟩
      · exact h02
      · exact absurd (h01.symm.trans h0) (by decide)
    rw [hQ]; exact gq_ret C0 hr hlk hZ rfl hc ⟨Nat.le_of_ble_eq_true rfl, Nat.le_of_ble_eq_true rfl⟩ dL_person_8 dL_person_9 dL_person_10 (by decide) dL_person_17 dL_person_18
set_option maxHeartbeats 4000000 in
theorem gW_route (l : Launch) (hfl : l.stackTraces = false) {V : zV} {cL : ClassId} {o : Nat} {σ : zS} {f0 : Nat → Int64} {t : zT3} {code : Int32} {x1 : Int32} {x2 : Int32} (h1 : FX7_route 0 x1 x2 σ = some t) (hk : (t.1 = 0 ∧ code = 0) ∨ (t.1 = 1 ∧ code = 1)) : gWq l yL_route cL_route 5 8 133 2 12 hL_route V cL o σ f0 t code [.ref (zad V 0), .int x1, .int x2, .ref o] := by
  refine gWq_of (by decide) (Nat.le_of_ble_eq_true rfl) ?_
  intro p e s m below meth c A C0 hr hlk hT hN hZ ls hl
  generalize ([.ref (zad V 0), .int x1, .int x2, .ref o] : List Value).toArray = args at C0 ⊢
  obtain ⟨Q, hQ⟩ : ∃ Q, Q = MQ below (gqQ V cL o t code A) args s 2 12 A := ⟨_, rfl⟩
  rw [← hQ]
  have hx := C0.1
  have hb := C0.2.1
  have hl : lv_has ls 5 [(0, .ref (zad V 0)), (1, .int x1), (2, .int x2), (3, .ref o)] := hl
  refine lv_aload_n hx hb dL_route_0 rfl (lv_at hl 3 rfl) ?_
  refine lv_iconst (v := 0) hx hb dL_route_1 (by decide) ?_
  refine lv_aload_n hx hb dL_route_2 rfl (lv_at hl 0 rfl) ?_
  refine lv_iload_n hx hb dL_route_3 rfl (lv_at hl 1 rfl) ?_
  refine lv_iload_n hx hb dL_route_4 rfl (lv_at hl 2 rfl) ?_
  refine gw_x (As := [.int x1, .int x2]) (rest := [.int 0, .ref o]) C0 hZ (kX7_route l hfl rfl h1) kW7_route mW7_route vL7_route rfl rfl hl.1 (Nat.le_of_ble_eq_true rfl) ⟨Nat.le_of_ble_eq_true rfl, Nat.le_of_ble_eq_true rfl⟩ dL_route_5 ⟨Nat.le_of_ble_eq_true rfl, Nat.le_of_ble_eq_true rfl⟩ (fun ce q9 H1 locs1 h0 hZ hce hcv hcl => ?_) (fun H1 locs1 h0 hZ => ?_)
  · rcases hk with ⟨h01, h02⟩ | ⟨h01, h02⟩
    · exact absurd h01 h0
    · rw [h01] at hcl
      refine vx_catch (E := "java/util/NoSuchElementException") (name := "java/util/NoSuchElementException") C0.2.2.2.1 [] ⟨0, 10, 13, 18⟩ [] hT (fun z h => nomatch h) rfl (by decide) (C0.2.2.2.2 _ lwNSE) (C0.2.2.2.2 _ lcNSE) hce hcv hcl ?_
      refine lv_astore (lv' := [(4, .ref q9), (0, .ref (zad V 0)), (1, .int x1), (2, .int x2), (3, .ref o)]) hx hb dL_route_13 hl (by decide) rfl (fun ls hl => ?_)
      refine lv_iconst (v := 1) hx hb dL_route_15 (by decide) ?_
      rw [hQ]; exact gq_end C0 hr hlk hZ h02.symm (fun h => absurd h h0) ⟨Nat.le_of_ble_eq_true rfl, Nat.le_of_ble_eq_true rfl⟩ dL_route_16
  · have hc : code = 0 := by
      rcases hk with ⟨h01, h02⟩ | ⟨h01, h02⟩
      · exact h02
      · exact absurd (h01.symm.trans h0) (by decide)
    rw [hQ]; exact gq_ret C0 hr hlk hZ rfl hc ⟨Nat.le_of_ble_eq_true rfl, Nat.le_of_ble_eq_true rfl⟩ dL_route_8 dL_route_9 dL_route_10 (by decide) dL_route_17 dL_route_18
set_option maxHeartbeats 4000000 in
theorem gW_far (l : Launch) (hfl : l.stackTraces = false) {V : zV} {cL : ClassId} {o : Nat} {σ : zS} {f0 : Nat → Int64} {t : zT3} {code : Int32} {x1 : Int32} {x2 : Int32} (h1 : FX7_far 0 x1 x2 σ = some t) (hk : (t.1 = 0 ∧ code = 0) ∨ (t.1 = 1 ∧ code = 1)) : gWq l yL_far cL_far 5 8 134 2 12 hL_far V cL o σ f0 t code [.ref (zad V 0), .int x1, .int x2, .ref o] := by
  refine gWq_of (by decide) (Nat.le_of_ble_eq_true rfl) ?_
  intro p e s m below meth c A C0 hr hlk hT hN hZ ls hl
  generalize ([.ref (zad V 0), .int x1, .int x2, .ref o] : List Value).toArray = args at C0 ⊢
  obtain ⟨Q, hQ⟩ : ∃ Q, Q = MQ below (gqQ V cL o t code A) args s 2 12 A := ⟨_, rfl⟩
  rw [← hQ]
  have hx := C0.1
  have hb := C0.2.1
  have hl : lv_has ls 5 [(0, .ref (zad V 0)), (1, .int x1), (2, .int x2), (3, .ref o)] := hl
  refine lv_aload_n hx hb dL_far_0 rfl (lv_at hl 3 rfl) ?_
  refine lv_iconst (v := 0) hx hb dL_far_1 (by decide) ?_
  refine lv_aload_n hx hb dL_far_2 rfl (lv_at hl 0 rfl) ?_
  refine lv_iload_n hx hb dL_far_3 rfl (lv_at hl 1 rfl) ?_
  refine lv_iload_n hx hb dL_far_4 rfl (lv_at hl 2 rfl) ?_
  refine gw_x (As := [.int x1, .int x2]) (rest := [.int 0, .ref o]) C0 hZ (kX7_far l hfl rfl h1) kW7_far mW7_far vL7_far rfl rfl hl.1 (Nat.le_of_ble_eq_true rfl) ⟨Nat.le_of_ble_eq_true rfl, Nat.le_of_ble_eq_true rfl⟩ dL_far_5 ⟨Nat.le_of_ble_eq_true rfl, Nat.le_of_ble_eq_true rfl⟩ (fun ce q9 H1 locs1 h0 hZ hce hcv hcl => ?_) (fun H1 locs1 h0 hZ => ?_)
  · rcases hk with ⟨h01, h02⟩ | ⟨h01, h02⟩
    · exact absurd h01 h0
    · rw [h01] at hcl
      refine vx_catch (E := "java/util/NoSuchElementException") (name := "java/util/NoSuchElementException") C0.2.2.2.1 [] ⟨0, 10, 13, 18⟩ [] hT (fun z h => nomatch h) rfl (by decide) (C0.2.2.2.2 _ lwNSE) (C0.2.2.2.2 _ lcNSE) hce hcv hcl ?_
      refine lv_astore (lv' := [(4, .ref q9), (0, .ref (zad V 0)), (1, .int x1), (2, .int x2), (3, .ref o)]) hx hb dL_far_13 hl (by decide) rfl (fun ls hl => ?_)
      refine lv_iconst (v := 1) hx hb dL_far_15 (by decide) ?_
      rw [hQ]; exact gq_end C0 hr hlk hZ h02.symm (fun h => absurd h h0) ⟨Nat.le_of_ble_eq_true rfl, Nat.le_of_ble_eq_true rfl⟩ dL_far_16
  · have hc : code = 0 := by
      rcases hk with ⟨h01, h02⟩ | ⟨h01, h02⟩
      · exact h02
      · exact absurd (h01.symm.trans h0) (by decide)
    rw [hQ]; exact gq_ret C0 hr hlk hZ rfl hc ⟨Nat.le_of_ble_eq_true rfl, Nat.le_of_ble_eq_true rfl⟩ dL_far_8 dL_far_9 dL_far_10 (by decide) dL_far_17 dL_far_18
set_option maxHeartbeats 4000000 in
theorem gW_stock (l : Launch) (hfl : l.stackTraces = false) {V : zV} {cL : ClassId} {o : Nat} {σ : zS} {f0 : Nat → Int64} {t : zT3} {code : Int32} {x1 : Int32} {x2 : Int32} (h1 : FX7_stock 0 x1 x2 σ = some t) (hk : (t.1 = 0 ∧ code = 0) ∨ (t.1 = 1 ∧ code = 1)) : gWq l yL_stock cL_stock 5 8 134 1 6 hL_stock V cL o σ f0 t code [.ref (zad V 0), .int x1, .int x2, .ref o] := by
  refine gWq_of (by decide) (Nat.le_of_ble_eq_true rfl) ?_
  intro p e s m below meth c A C0 hr hlk hT hN hZ ls hl
  generalize ([.ref (zad V 0), .int x1, .int x2, .ref o] : List Value).toArray = args at C0 ⊢
  obtain ⟨Q, hQ⟩ : ∃ Q, Q = MQ below (gqQ V cL o t code A) args s 1 6 A := ⟨_, rfl⟩
  rw [← hQ]
  have hx := C0.1
  have hb := C0.2.1
  have hl : lv_has ls 5 [(0, .ref (zad V 0)), (1, .int x1), (2, .int x2), (3, .ref o)] := hl
  refine lv_aload_n hx hb dL_stock_0 rfl (lv_at hl 3 rfl) ?_
  refine lv_iconst (v := 0) hx hb dL_stock_1 (by decide) ?_
  refine lv_aload_n hx hb dL_stock_2 rfl (lv_at hl 0 rfl) ?_
  refine lv_iload_n hx hb dL_stock_3 rfl (lv_at hl 1 rfl) ?_
  refine lv_iload_n hx hb dL_stock_4 rfl (lv_at hl 2 rfl) ?_
  refine gw_x (As := [.int x1, .int x2]) (rest := [.int 0, .ref o]) C0 hZ (kX7_stock l hfl rfl h1) kW7_stock mW7_stock vL7_stock rfl rfl hl.1 (Nat.le_of_ble_eq_true rfl) ⟨Nat.le_of_ble_eq_true rfl, Nat.le_of_ble_eq_true rfl⟩ dL_stock_5 ⟨Nat.le_of_ble_eq_true rfl, Nat.le_of_ble_eq_true rfl⟩ (fun ce q9 H1 locs1 h0 hZ hce hcv hcl => ?_) (fun H1 locs1 h0 hZ => ?_)
  · rcases hk with ⟨h01, h02⟩ | ⟨h01, h02⟩
    · exact absurd h01 h0
    · rw [h01] at hcl
      refine vx_catch (E := "java/util/NoSuchElementException") (name := "java/util/NoSuchElementException") C0.2.2.2.1 [] ⟨0, 10, 13, 18⟩ [] hT (fun z h => nomatch h) rfl (by decide) (C0.2.2.2.2 _ lwNSE) (C0.2.2.2.2 _ lcNSE) hce hcv hcl ?_
      refine lv_astore (lv' := [(4, .ref q9), (0, .ref (zad V 0)), (1, .int x1), (2, .int x2), (3, .ref o)]) hx hb dL_stock_13 hl (by decide) rfl (fun ls hl => ?_)
      refine lv_iconst (v := 1) hx hb dL_stock_15 (by decide) ?_
      rw [hQ]; exact gq_end C0 hr hlk hZ h02.symm (fun h => absurd h h0) ⟨Nat.le_of_ble_eq_true rfl, Nat.le_of_ble_eq_true rfl⟩ dL_stock_16
  · have hc : code = 0 := by
      rcases hk with ⟨h01, h02⟩ | ⟨h01, h02⟩
      · exact h02
      · exact absurd (h01.symm.trans h0) (by decide)
    rw [hQ]; exact gq_ret C0 hr hlk hZ rfl hc ⟨Nat.le_of_ble_eq_true rfl, Nat.le_of_ble_eq_true rfl⟩ dL_stock_8 dL_stock_9 dL_stock_10 (by decide) dL_stock_17 dL_stock_18
set_option maxHeartbeats 4000000 in
theorem gW_day (l : Launch) (hfl : l.stackTraces = false) {V : zV} {cL : ClassId} {o : Nat} {σ : zS} {f0 : Nat → Int64} {t : zT3} {code : Int32} {x1 : Int32} (h1 : FX7_day 0 x1 σ = some t) (hk : (t.1 = 0 ∧ code = 0) ∨ (t.1 = 1 ∧ code = 1)) : gWq l yL_day cL_day 4 8 180 1 6 hL_day V cL o σ f0 t code [.ref (zad V 0), .int x1, .ref o] := by
  refine gWq_of (by decide) (Nat.le_of_ble_eq_true rfl) ?_
  intro p e s m below meth c A C0 hr hlk hT hN hZ ls hl
  generalize ([.ref (zad V 0), .int x1, .ref o] : List Value).toArray = args at C0 ⊢
  obtain ⟨Q, hQ⟩ : ∃ Q, Q = MQ below (gqQ V cL o t code A) args s 1 6 A := ⟨_, rfl⟩
  rw [← hQ]
  have hx := C0.1
  have hb := C0.2.1
  have hl : lv_has ls 4 [(0, .ref (zad V 0)), (1, .int x1), (2, .ref o)] := hl
  refine lv_aload_n hx hb dL_day_0 rfl (lv_at hl 2 rfl) ?_
  refine lv_iconst (v := 0) hx hb dL_day_1 (by decide) ?_
  refine lv_aload_n hx hb dL_day_2 rfl (lv_at hl 0 rfl) ?_
  refine lv_iload_n hx hb dL_day_3 rfl (lv_at hl 1 rfl) ?_
  refine gw_x (As := [.int x1]) (rest := [.int 0, .ref o]) C0 hZ (kX7_day l hfl rfl h1) kW7_day mW7_day vL7_day rfl rfl hl.1 (Nat.le_of_ble_eq_true rfl) ⟨Nat.le_of_ble_eq_true rfl, Nat.le_of_ble_eq_true rfl⟩ dL_day_4 ⟨Nat.le_of_ble_eq_true rfl, Nat.le_of_ble_eq_true rfl⟩ (fun ce q9 H1 locs1 h0 hZ hce hcv hcl => ?_) (fun H1 locs1 h0 hZ => ?_)
  · rcases hk with ⟨h01, h02⟩ | ⟨h01, h02⟩
    · exact absurd h01 h0
    · rw [h01] at hcl
      refine vx_catch (E := "java/util/NoSuchElementException") (name := "java/util/NoSuchElementException") C0.2.2.2.1 [] ⟨0, 9, 12, 18⟩ [] hT (fun z h => nomatch h) rfl (by decide) (C0.2.2.2.2 _ lwNSE) (C0.2.2.2.2 _ lcNSE) hce hcv hcl ?_
      refine lv_astore_n (lv' := [(3, .ref q9), (0, .ref (zad V 0)), (1, .int x1), (2, .ref o)]) hx hb dL_day_12 rfl hl (by decide) rfl (fun ls hl => ?_)
      refine lv_iconst (v := 1) hx hb dL_day_13 (by decide) ?_
      rw [hQ]; exact gq_end C0 hr hlk hZ h02.symm (fun h => absurd h h0) ⟨Nat.le_of_ble_eq_true rfl, Nat.le_of_ble_eq_true rfl⟩ dL_day_14
  · have hc : code = 0 := by
      rcases hk with ⟨h01, h02⟩ | ⟨h01, h02⟩
      · exact h02
      · exact absurd (h01.symm.trans h0) (by decide)
    rw [hQ]; exact gq_ret C0 hr hlk hZ rfl hc ⟨Nat.le_of_ble_eq_true rfl, Nat.le_of_ble_eq_true rfl⟩ dL_day_7 dL_day_8 dL_day_9 (by decide) dL_day_15 dL_day_16
set_option maxHeartbeats 4000000 in
theorem gW_where (l : Launch) (hfl : l.stackTraces = false) {V : zV} {cL : ClassId} {o : Nat} {σ : zS} {f0 : Nat → Int64} {t : zT3} {code : Int32} {x1 : Int32} {x2 : Int32} (h1 : FX7_where 0 x1 x2 σ = some t) (hk : (t.1 = 0 ∧ code = 0) ∨ (t.1 = 1 ∧ code = 1)) : gWq l yL_where cL_where 5 8 133 2 12 hL_where V cL o σ f0 t code [.ref (zad V 0), .int x1, .int x2, .ref o] := by
  refine gWq_of (by decide) (Nat.le_of_ble_eq_true rfl) ?_
  intro p e s m below meth c A C0 hr hlk hT hN hZ ls hl
  generalize ([.ref (zad V 0), .int x1, .int x2, .ref o] : List Value).toArray = args at C0 ⊢
  obtain ⟨Q, hQ⟩ : ∃ Q, Q = MQ below (gqQ V cL o t code A) args s 2 12 A := ⟨_, rfl⟩
  rw [← hQ]
  have hx := C0.1
  have hb := C0.2.1
  have hl : lv_has ls 5 [(0, .ref (zad V 0)), (1, .int x1), (2, .int x2), (3, .ref o)] := hl
  refine lv_aload_n hx hb dL_where_0 rfl (lv_at hl 3 rfl) ?_
  refine lv_iconst (v := 0) hx hb dL_where_1 (by decide) ?_
  refine lv_aload_n hx hb dL_where_2 rfl (lv_at hl 0 rfl) ?_
  refine lv_iload_n hx hb dL_where_3 rfl (lv_at hl 1 rfl) ?_
  refine lv_iload_n hx hb dL_where_4 rfl (lv_at hl 2 rfl) ?_
  refine gw_x (As := [.int x1, .int x2]) (rest := [.int 0, .ref o]) C0 hZ (kX7_where l hfl rfl h1) kW7_where mW7_where vL7_where rfl rfl hl.1 (Nat.le_of_ble_eq_true rfl) ⟨Nat.le_of_ble_eq_true rfl, Nat.le_of_ble_eq_true rfl⟩ dL_where_5 ⟨Nat.le_of_ble_eq_true rfl, Nat.le_of_ble_eq_true rfl⟩ (fun ce q9 H1 locs1 h0 hZ hce hcv hcl => ?_) (fun H1 locs1 h0 hZ => ?_)
  · rcases hk with ⟨h01, h02⟩ | ⟨h01, h02⟩
    · exact absurd h01 h0
    · rw [h01] at hcl
      refine vx_catch (E := "java/util/NoSuchElementException") (name := "java/util/NoSuchElementException") C0.2.2.2.1 [] ⟨0, 10, 13, 18⟩ [] hT (fun z h => nomatch h) rfl (by decide) (C0.2.2.2.2 _ lwNSE) (C0.2.2.2.2 _ lcNSE) hce hcv hcl ?_
      refine lv_astore (lv' := [(4, .ref q9), (0, .ref (zad V 0)), (1, .int x1), (2, .int x2), (3, .ref o)]) hx hb dL_where_13 hl (by decide) rfl (fun ls hl => ?_)
      refine lv_iconst (v := 1) hx hb dL_where_15 (by decide) ?_
      rw [hQ]; exact gq_end C0 hr hlk hZ h02.symm (fun h => absurd h h0) ⟨Nat.le_of_ble_eq_true rfl, Nat.le_of_ble_eq_true rfl⟩ dL_where_16
  · have hc : code = 0 := by
      rcases hk with ⟨h01, h02⟩ | ⟨h01, h02⟩
      · exact h02
      · exact absurd (h01.symm.trans h0) (by decide)
    rw [hQ]; exact gq_ret C0 hr hlk hZ rfl hc ⟨Nat.le_of_ble_eq_true rfl, Nat.le_of_ble_eq_true rfl⟩ dL_where_8 dL_where_9 dL_where_10 (by decide) dL_where_17 dL_where_18
set_option maxHeartbeats 4000000 in
theorem gW_eyes (l : Launch) (hfl : l.stackTraces = false) {V : zV} {cL : ClassId} {o : Nat} {σ : zS} {f0 : Nat → Int64} {t : zT3} {code : Int32} {x1 : Int32} (h1 : FX7_eyes 0 x1 σ = some t) (hk : (t.1 = 0 ∧ code = 0) ∨ (t.1 = 1 ∧ code = 1)) : gWq l yL_eyes cL_eyes 4 8 180 1 6 hL_eyes V cL o σ f0 t code [.ref (zad V 0), .int x1, .ref o] := by
  refine gWq_of (by decide) (Nat.le_of_ble_eq_true rfl) ?_
  intro p e s m below meth c A C0 hr hlk hT hN hZ ls hl
  generalize ([.ref (zad V 0), .int x1, .ref o] : List Value).toArray = args at C0 ⊢
  obtain ⟨Q, hQ⟩ : ∃ Q, Q = MQ below (gqQ V cL o t code A) args s 1 6 A := ⟨_, rfl⟩
  rw [← hQ]
  have hx := C0.1
  have hb := C0.2.1
  have hl : lv_has ls 4 [(0, .ref (zad V 0)), (1, .int x1), (2, .ref o)] := hl
  refine lv_aload_n hx hb dL_eyes_0 rfl (lv_at hl 2 rfl) ?_
  refine lv_iconst (v := 0) hx hb dL_eyes_1 (by decide) ?_
  refine lv_aload_n hx hb dL_eyes_2 rfl (lv_at hl 0 rfl) ?_
  refine lv_iload_n hx hb dL_eyes_3 rfl (lv_at hl 1 rfl) ?_
  refine gw_x (As := [.int x1]) (rest := [.int 0, .ref o]) C0 hZ (kX7_eyes l hfl rfl h1) kW7_eyes mW7_eyes vL7_eyes rfl rfl hl.1 (Nat.le_of_ble_eq_true rfl) ⟨Nat.le_of_ble_eq_true rfl, Nat.le_of_ble_eq_true rfl⟩ dL_eyes_4 ⟨Nat.le_of_ble_eq_true rfl, Nat.le_of_ble_eq_true rfl⟩ (fun ce q9 H1 locs1 h0 hZ hce hcv hcl => ?_) (fun H1 locs1 h0 hZ => ?_)
  · rcases hk with ⟨h01, h02⟩ | ⟨h01, h02⟩
    · exact absurd h01 h0
    · rw [h01] at hcl
      refine vx_catch (E := "java/util/NoSuchElementException") (name := "java/util/NoSuchElementException") C0.2.2.2.1 [] ⟨0, 9, 12, 18⟩ [] hT (fun z h => nomatch h) rfl (by decide) (C0.2.2.2.2 _ lwNSE) (C0.2.2.2.2 _ lcNSE) hce hcv hcl ?_
      refine lv_astore_n (lv' := [(3, .ref q9), (0, .ref (zad V 0)), (1, .int x1), (2, .ref o)]) hx hb dL_eyes_12 rfl hl (by decide) rfl (fun ls hl => ?_)
      refine lv_iconst (v := 1) hx hb dL_eyes_13 (by decide) ?_
      rw [hQ]; exact gq_end C0 hr hlk hZ h02.symm (fun h => absurd h h0) ⟨Nat.le_of_ble_eq_true rfl, Nat.le_of_ble_eq_true rfl⟩ dL_eyes_14
  · have hc : code = 0 := by
      rcases hk with ⟨h01, h02⟩ | ⟨h01, h02⟩
      · exact h02
      · exact absurd (h01.symm.trans h0) (by decide)
    rw [hQ]; exact gq_ret C0 hr hlk hZ rfl hc ⟨Nat.le_of_ble_eq_true rfl, Nat.le_of_ble_eq_true rfl⟩ dL_eyes_7 dL_eyes_8 dL_eyes_9 (by decide) dL_eyes_15 dL_eyes_16
set_option maxHeartbeats 4000000 in
theorem gW_has (l : Launch) (hfl : l.stackTraces = false) {V : zV} {cL : ClassId} {o : Nat} {σ : zS} {f0 : Nat → Int64} {t : zT3} {code : Int32} {x1 : Int32} {x2 : Int32} (h1 : FX7_has 0 x1 x2 σ = some t) (hk : (t.1 = 0 ∧ code = 0) ∨ (t.1 = 1 ∧ code = 1)) : gWq l yL_has cL_has 5 8 181 2 12 hL_has V cL o σ f0 t code [.ref (zad V 0), .int x1, .int x2, .ref o] := by
  refine gWq_of (by decide) (Nat.le_of_ble_eq_true rfl) ?_
  intro p e s m below meth c A C0 hr hlk hT hN hZ ls hl
  generalize ([.ref (zad V 0), .int x1, .int x2, .ref o] : List Value).toArray = args at C0 ⊢
  obtain ⟨Q, hQ⟩ : ∃ Q, Q = MQ below (gqQ V cL o t code A) args s 2 12 A := ⟨_, rfl⟩
  rw [← hQ]
  have hx := C0.1
  have hb := C0.2.1
  have hl : lv_has ls 5 [(0, .ref (zad V 0)), (1, .int x1), (2, .int x2), (3, .ref o)] := hl
  refine lv_aload_n hx hb dL_has_0 rfl (lv_at hl 3 rfl) ?_
  refine lv_iconst (v := 0) hx hb dL_has_1 (by decide) ?_
  refine lv_aload_n hx hb dL_has_2 rfl (lv_at hl 0 rfl) ?_
  refine lv_iload_n hx hb dL_has_3 rfl (lv_at hl 1 rfl) ?_
  refine lv_iload_n hx hb dL_has_4 rfl (lv_at hl 2 rfl) ?_
  refine gw_x (As := [.int x1, .int x2]) (rest := [.int 0, .ref o]) C0 hZ (kX7_has l hfl rfl h1) kW7_has mW7_has vL7_has rfl rfl hl.1 (Nat.le_of_ble_eq_true rfl) ⟨Nat.le_of_ble_eq_true rfl, Nat.le_of_ble_eq_true rfl⟩ dL_has_5 ⟨Nat.le_of_ble_eq_true rfl, Nat.le_of_ble_eq_true rfl⟩ (fun ce q9 H1 locs1 h0 hZ hce hcv hcl => ?_) (fun H1 locs1 h0 hZ => ?_)
  · rcases hk with ⟨h01, h02⟩ | ⟨h01, h02⟩
    · exact absurd h01 h0
    · rw [h01] at hcl
      refine vx_catch (E := "java/util/NoSuchElementException") (name := "java/util/NoSuchElementException") C0.2.2.2.1 [] ⟨0, 10, 13, 18⟩ [] hT (fun z h => nomatch h) rfl (by decide) (C0.2.2.2.2 _ lwNSE) (C0.2.2.2.2 _ lcNSE) hce hcv hcl ?_
      refine lv_astore (lv' := [(4, .ref q9), (0, .ref (zad V 0)), (1, .int x1), (2, .int x2), (3, .ref o)]) hx hb dL_has_13 hl (by decide) rfl (fun ls hl => ?_)
      refine lv_iconst (v := 1) hx hb dL_has_15 (by decide) ?_
      rw [hQ]; exact gq_end C0 hr hlk hZ h02.symm (fun h => absurd h h0) ⟨Nat.le_of_ble_eq_true rfl, Nat.le_of_ble_eq_true rfl⟩ dL_has_16
  · have hc : code = 0 := by
      rcases hk with ⟨h01, h02⟩ | ⟨h01, h02⟩
      · exact h02
      · exact absurd (h01.symm.trans h0) (by decide)
    rw [hQ]; exact gq_ret C0 hr hlk hZ rfl hc ⟨Nat.le_of_ble_eq_true rfl, Nat.le_of_ble_eq_true rfl⟩ dL_has_8 dL_has_9 dL_has_10 (by decide) dL_has_17 dL_has_18
set_option maxHeartbeats 4000000 in
theorem gW_best (l : Launch) (hfl : l.stackTraces = false) {V : zV} {cL : ClassId} {o : Nat} {σ : zS} {f0 : Nat → Int64} {t : zT3} {code : Int32} {x1 : Int32} {x2 : Int32} (h1 : FX7_best 0 x1 x2 σ = some t) (hk : (t.1 = 0 ∧ code = 0) ∨ (t.1 = 1 ∧ code = 1)) : gWq l yL_best cL_best 5 8 189 1 6 hL_best V cL o σ f0 t code [.ref (zad V 0), .int x1, .int x2, .ref o] := by
  refine gWq_of (by decide) (Nat.le_of_ble_eq_true rfl) ?_
  intro p e s m below meth c A C0 hr hlk hT hN hZ ls hl
  generalize ([.ref (zad V 0), .int x1, .int x2, .ref o] : List Value).toArray = args at C0 ⊢
  obtain ⟨Q, hQ⟩ : ∃ Q, Q = MQ below (gqQ V cL o t code A) args s 1 6 A := ⟨_, rfl⟩
  rw [← hQ]
  have hx := C0.1
  have hb := C0.2.1
  have hl : lv_has ls 5 [(0, .ref (zad V 0)), (1, .int x1), (2, .int x2), (3, .ref o)] := hl
  refine lv_aload_n hx hb dL_best_0 rfl (lv_at hl 3 rfl) ?_
  refine lv_iconst (v := 0) hx hb dL_best_1 (by decide) ?_
  refine lv_aload_n hx hb dL_best_2 rfl (lv_at hl 0 rfl) ?_
  refine lv_iload_n hx hb dL_best_3 rfl (lv_at hl 1 rfl) ?_
  refine lv_iload_n hx hb dL_best_4 rfl (lv_at hl 2 rfl) ?_
  refine gw_x (As := [.int x1, .int x2]) (rest := [.int 0, .ref o]) C0 hZ (kX7_best l hfl rfl h1) kW7_best mW7_best vL7_best rfl rfl hl.1 (Nat.le_of_ble_eq_true rfl) ⟨Nat.le_of_ble_eq_true rfl, Nat.le_of_ble_eq_true rfl⟩ dL_best_5 ⟨Nat.le_of_ble_eq_true rfl, Nat.le_of_ble_eq_true rfl⟩ (fun ce q9 H1 locs1 h0 hZ hce hcv hcl => ?_) (fun H1 locs1 h0 hZ => ?_)
  · rcases hk with ⟨h01, h02⟩ | ⟨h01, h02⟩
    · exact absurd h01 h0
    · rw [h01] at hcl
      refine vx_catch (E := "java/util/NoSuchElementException") (name := "java/util/NoSuchElementException") C0.2.2.2.1 [] ⟨0, 10, 13, 18⟩ [] hT (fun z h => nomatch h) rfl (by decide) (C0.2.2.2.2 _ lwNSE) (C0.2.2.2.2 _ lcNSE) hce hcv hcl ?_
      refine lv_astore (lv' := [(4, .ref q9), (0, .ref (zad V 0)), (1, .int x1), (2, .int x2), (3, .ref o)]) hx hb dL_best_13 hl (by decide) rfl (fun ls hl => ?_)
      refine lv_iconst (v := 1) hx hb dL_best_15 (by decide) ?_
      rw [hQ]; exact gq_end C0 hr hlk hZ h02.symm (fun h => absurd h h0) ⟨Nat.le_of_ble_eq_true rfl, Nat.le_of_ble_eq_true rfl⟩ dL_best_16
  · have hc : code = 0 := by
      rcases hk with ⟨h01, h02⟩ | ⟨h01, h02⟩
      · exact h02
      · exact absurd (h01.symm.trans h0) (by decide)
    rw [hQ]; exact gq_ret C0 hr hlk hZ rfl hc ⟨Nat.le_of_ble_eq_true rfl, Nat.le_of_ble_eq_true rfl⟩ dL_best_8 dL_best_9 dL_best_10 (by decide) dL_best_17 dL_best_18
set_option maxHeartbeats 4000000 in
theorem gW_glass (l : Launch) (hfl : l.stackTraces = false) {V : zV} {cL : ClassId} {o : Nat} {σ : zS} {f0 : Nat → Int64} {t : zT3} {code : Int32} {x1 : Int32} (h1 : FX7_glass 0 x1 σ = some t) (hk : (t.1 = 0 ∧ code = 0) ∨ (t.1 = 1 ∧ code = 1)) : gWq l yL_glass cL_glass 4 8 187 1 6 hL_glass V cL o σ f0 t code [.ref (zad V 0), .int x1, .ref o] := by
  refine gWq_of (by decide) (Nat.le_of_ble_eq_true rfl) ?_
  intro p e s m below meth c A C0 hr hlk hT hN hZ ls hl
  generalize ([.ref (zad V 0), .int x1, .ref o] : List Value).toArray = args at C0 ⊢
  obtain ⟨Q, hQ⟩ : ∃ Q, Q = MQ below (gqQ V cL o t code A) args s 1 6 A := ⟨_, rfl⟩
  rw [← hQ]
  have hx := C0.1
  have hb := C0.2.1
  have hl : lv_has ls 4 [(0, .ref (zad V 0)), (1, .int x1), (2, .ref o)] := hl
  refine lv_aload_n hx hb dL_glass_0 rfl (lv_at hl 2 rfl) ?_
  refine lv_iconst (v := 0) hx hb dL_glass_1 (by decide) ?_
  refine lv_aload_n hx hb dL_glass_2 rfl (lv_at hl 0 rfl) ?_
  refine lv_iload_n hx hb dL_glass_3 rfl (lv_at hl 1 rfl) ?_
  refine gw_x (As := [.int x1]) (rest := [.int 0, .ref o]) C0 hZ (kX7_glass l hfl rfl h1) kW7_glass mW7_glass vL7_glass rfl rfl hl.1 (Nat.le_of_ble_eq_true rfl) ⟨Nat.le_of_ble_eq_true rfl, Nat.le_of_ble_eq_true rfl⟩ dL_glass_4 ⟨Nat.le_of_ble_eq_true rfl, Nat.le_of_ble_eq_true rfl⟩ (fun ce q9 H1 locs1 h0 hZ hce hcv hcl => ?_) (fun H1 locs1 h0 hZ => ?_)
  · rcases hk with ⟨h01, h02⟩ | ⟨h01, h02⟩
    · exact absurd h01 h0
    · rw [h01] at hcl
      refine vx_catch (E := "java/util/NoSuchElementException") (name := "java/util/NoSuchElementException") C0.2.2.2.1 [] ⟨0, 9, 12, 18⟩ [] hT (fun z h => nomatch h) rfl (by decide) (C0.2.2.2.2 _ lwNSE) (C0.2.2.2.2 _ lcNSE) hce hcv hcl ?_
      refine lv_astore_n (lv' := [(3, .ref q9), (0, .ref (zad V 0)), (1, .int x1), (2, .ref o)]) hx hb dL_glass_12 rfl hl (by decide) rfl (fun ls hl => ?_)
      refine lv_iconst (v := 1) hx hb dL_glass_13 (by decide) ?_
      rw [hQ]; exact gq_end C0 hr hlk hZ h02.symm (fun h => absurd h h0) ⟨Nat.le_of_ble_eq_true rfl, Nat.le_of_ble_eq_true rfl⟩ dL_glass_14
  · have hc : code = 0 := by
      rcases hk with ⟨h01, h02⟩ | ⟨h01, h02⟩
      · exact h02
      · exact absurd (h01.symm.trans h0) (by decide)
    rw [hQ]; exact gq_ret C0 hr hlk hZ rfl hc ⟨Nat.le_of_ble_eq_true rfl, Nat.le_of_ble_eq_true rfl⟩ dL_glass_7 dL_glass_8 dL_glass_9 (by decide) dL_glass_15 dL_glass_16
set_option maxHeartbeats 4000000 in
theorem gW_laid (l : Launch) (hfl : l.stackTraces = false) {V : zV} {cL : ClassId} {o : Nat} {σ : zS} {f0 : Nat → Int64} {t : zT3} {code : Int32} {x1 : Int32} (h1 : FX7_laid 0 x1 σ = some t) (hk : (t.1 = 0 ∧ code = 0) ∨ (t.1 = 1 ∧ code = 1)) : gWq l yL_laid cL_laid 4 8 132 2 12 hL_laid V cL o σ f0 t code [.ref (zad V 0), .int x1, .ref o] := by
  refine gWq_of (by decide) (Nat.le_of_ble_eq_true rfl) ?_
  intro p e s m below meth c A C0 hr hlk hT hN hZ ls hl
  generalize ([.ref (zad V 0), .int x1, .ref o] : List Value).toArray = args at C0 ⊢
  obtain ⟨Q, hQ⟩ : ∃ Q, Q = MQ below (gqQ V cL o t code A) args s 2 12 A := ⟨_, rfl⟩
  rw [← hQ]
  have hx := C0.1
  have hb := C0.2.1
  have hl : lv_has ls 4 [(0, .ref (zad V 0)), (1, .int x1), (2, .ref o)] := hl
  refine lv_aload_n hx hb dL_laid_0 rfl (lv_at hl 2 rfl) ?_
  refine lv_iconst (v := 0) hx hb dL_laid_1 (by decide) ?_
  refine lv_aload_n hx hb dL_laid_2 rfl (lv_at hl 0 rfl) ?_
  refine lv_iload_n hx hb dL_laid_3 rfl (lv_at hl 1 rfl) ?_
  refine gw_x (As := [.int x1]) (rest := [.int 0, .ref o]) C0 hZ (kX7_laid l hfl rfl h1) kW7_laid mW7_laid vL7_laid rfl rfl hl.1 (Nat.le_of_ble_eq_true rfl) ⟨Nat.le_of_ble_eq_true rfl, Nat.le_of_ble_eq_true rfl⟩ dL_laid_4 ⟨Nat.le_of_ble_eq_true rfl, Nat.le_of_ble_eq_true rfl⟩ (fun ce q9 H1 locs1 h0 hZ hce hcv hcl => ?_) (fun H1 locs1 h0 hZ => ?_)
  · rcases hk with ⟨h01, h02⟩ | ⟨h01, h02⟩
    · exact absurd h01 h0
    · rw [h01] at hcl
      refine vx_catch (E := "java/util/NoSuchElementException") (name := "java/util/NoSuchElementException") C0.2.2.2.1 [] ⟨0, 9, 12, 18⟩ [] hT (fun z h => nomatch h) rfl (by decide) (C0.2.2.2.2 _ lwNSE) (C0.2.2.2.2 _ lcNSE) hce hcv hcl ?_
      refine lv_astore_n (lv' := [(3, .ref q9), (0, .ref (zad V 0)), (1, .int x1), (2, .ref o)]) hx hb dL_laid_12 rfl hl (by decide) rfl (fun ls hl => ?_)
      refine lv_iconst (v := 1) hx hb dL_laid_13 (by decide) ?_
      rw [hQ]; exact gq_end C0 hr hlk hZ h02.symm (fun h => absurd h h0) ⟨Nat.le_of_ble_eq_true rfl, Nat.le_of_ble_eq_true rfl⟩ dL_laid_14
  · have hc : code = 0 := by
      rcases hk with ⟨h01, h02⟩ | ⟨h01, h02⟩
      · exact h02
      · exact absurd (h01.symm.trans h0) (by decide)
    rw [hQ]; exact gq_ret C0 hr hlk hZ rfl hc ⟨Nat.le_of_ble_eq_true rfl, Nat.le_of_ble_eq_true rfl⟩ dL_laid_7 dL_laid_8 dL_laid_9 (by decide) dL_laid_15 dL_laid_16
set_option maxHeartbeats 4000000 in
theorem gW_without (l : Launch) (hfl : l.stackTraces = false) {V : zV} {cL : ClassId} {o : Nat} {σ : zS} {f0 : Nat → Int64} {t : zT3} {code : Int32} {x1 : Int32} (h1 : FX7_without 0 x1 σ = some t) (hk : (t.1 = 0 ∧ code = 0) ∨ (t.1 = 1 ∧ code = 1)) : gWq l yL_without cL_without 4 8 160 1 6 hL_without V cL o σ f0 t code [.ref (zad V 0), .int x1, .ref o] := by
  refine gWq_of (by decide) (Nat.le_of_ble_eq_true rfl) ?_
  intro p e s m below meth c A C0 hr hlk hT hN hZ ls hl
  generalize ([.ref (zad V 0), .int x1, .ref o] : List Value).toArray = args at C0 ⊢
  obtain ⟨Q, hQ⟩ : ∃ Q, Q = MQ below (gqQ V cL o t code A) args s 1 6 A := ⟨_, rfl⟩
  rw [← hQ]
  have hx := C0.1
  have hb := C0.2.1
  have hl : lv_has ls 4 [(0, .ref (zad V 0)), (1, .int x1), (2, .ref o)] := hl
  refine lv_aload_n hx hb dL_without_0 rfl (lv_at hl 2 rfl) ?_
  refine lv_iconst (v := 0) hx hb dL_without_1 (by decide) ?_
  refine lv_aload_n hx hb dL_without_2 rfl (lv_at hl 0 rfl) ?_
  refine lv_iload_n hx hb dL_without_3 rfl (lv_at hl 1 rfl) ?_
  refine gw_x (As := [.int x1]) (rest := [.int 0, .ref o]) C0 hZ (kX7_without l hfl rfl h1) kW7_without mW7_without vL7_without rfl rfl hl.1 (Nat.le_of_ble_eq_true rfl) ⟨Nat.le_of_ble_eq_true rfl, Nat.le_of_ble_eq_true rfl⟩ dL_without_4 ⟨Nat.le_of_ble_eq_true rfl, Nat.le_of_ble_eq_true rfl⟩ (fun ce q9 H1 locs1 h0 hZ hce hcv hcl => ?_) (fun H1 locs1 h0 hZ => ?_)
  · rcases hk with ⟨h01, h02⟩ | ⟨h01, h02⟩
    · exact absurd h01 h0
    · rw [h01] at hcl
      refine vx_catch (E := "java/util/NoSuchElementException") (name := "java/util/NoSuchElementException") C0.2.2.2.1 [] ⟨0, 9, 12, 18⟩ [] hT (fun z h => nomatch h) rfl (by decide) (C0.2.2.2.2 _ lwNSE) (C0.2.2.2.2 _ lcNSE) hce hcv hcl ?_
      refine lv_astore_n (lv' := [(3, .ref q9), (0, .ref (zad V 0)), (1, .int x1), (2, .ref o)]) hx hb dL_without_12 rfl hl (by decide) rfl (fun ls hl => ?_)
      refine lv_iconst (v := 1) hx hb dL_without_13 (by decide) ?_
      rw [hQ]; exact gq_end C0 hr hlk hZ h02.symm (fun h => absurd h h0) ⟨Nat.le_of_ble_eq_true rfl, Nat.le_of_ble_eq_true rfl⟩ dL_without_14
  · have hc : code = 0 := by
      rcases hk with ⟨h01, h02⟩ | ⟨h01, h02⟩
      · exact h02
      · exact absurd (h01.symm.trans h0) (by decide)
    rw [hQ]; exact gq_ret C0 hr hlk hZ rfl hc ⟨Nat.le_of_ble_eq_true rfl, Nat.le_of_ble_eq_true rfl⟩ dL_without_7 dL_without_8 dL_without_9 (by decide) dL_without_15 dL_without_16
set_option maxHeartbeats 4000000 in
theorem gW_odds (l : Launch) (hfl : l.stackTraces = false) {V : zV} {cL : ClassId} {o : Nat} {σ : zS} {f0 : Nat → Int64} {t : zT3} {code : Int32} {x1 : Int32} {x2 : Int32} (h1 : FX7_odds 0 x1 x2 σ = some t) (hk : (t.1 = 0 ∧ code = 0) ∨ (t.1 = 1 ∧ code = 1) ∨ (t.1 = 2 ∧ code = 2)) : gWq l yL_odds cL_odds 5 7 112 1 6 hL_odds V cL o σ f0 t code [.ref (zad V 0), .int x1, .int x2, .ref o] := by
  refine gWq_of (by decide) (Nat.le_of_ble_eq_true rfl) ?_
  intro p e s m below meth c A C0 hr hlk hT hN hZ ls hl
  generalize ([.ref (zad V 0), .int x1, .int x2, .ref o] : List Value).toArray = args at C0 ⊢
  obtain ⟨Q, hQ⟩ : ∃ Q, Q = MQ below (gqQ V cL o t code A) args s 1 6 A := ⟨_, rfl⟩
  rw [← hQ]
  have hx := C0.1
  have hb := C0.2.1
  have hl : lv_has ls 5 [(0, .ref (zad V 0)), (1, .int x1), (2, .int x2), (3, .ref o)] := hl
  refine lv_aload_n hx hb dL_odds_0 rfl (lv_at hl 3 rfl) ?_
  refine lv_iconst (v := 0) hx hb dL_odds_1 (by decide) ?_
  refine lv_aload_n hx hb dL_odds_2 rfl (lv_at hl 0 rfl) ?_
  refine lv_iload_n hx hb dL_odds_3 rfl (lv_at hl 1 rfl) ?_
  refine lv_iload_n hx hb dL_odds_4 rfl (lv_at hl 2 rfl) ?_
  refine gw_x (As := [.int x1, .int x2]) (rest := [.int 0, .ref o]) C0 hZ (kX7_odds l hfl rfl h1) kW7_odds mW7_odds vL7_odds rfl rfl hl.1 (Nat.le_of_ble_eq_true rfl) ⟨Nat.le_of_ble_eq_true rfl, Nat.le_of_ble_eq_true rfl⟩ dL_odds_5 ⟨Nat.le_of_ble_eq_true rfl, Nat.le_of_ble_eq_true rfl⟩ (fun ce q9 H1 locs1 h0 hZ hce hcv hcl => ?_) (fun H1 locs1 h0 hZ => ?_)
  · rcases hk with ⟨h01, h02⟩ | ⟨h01, h02⟩ | ⟨h01, h02⟩
    · exact absurd h01 h0
    · rw [h01] at hcl
      refine vx_catch (E := "java/util/NoSuchElementException") (name := "java/util/NoSuchElementException") C0.2.2.2.1 [] ⟨0, 10, 13, 18⟩ [⟨0, 10, 17, 13⟩] hT (fun z h => nomatch h) rfl (by decide) (C0.2.2.2.2 _ lwNSE) (C0.2.2.2.2 _ lcNSE) hce hcv hcl ?_
      refine lv_astore (lv' := [(4, .ref q9), (0, .ref (zad V 0)), (1, .int x1), (2, .int x2), (3, .ref o)]) hx hb dL_odds_13 hl (by decide) rfl (fun ls hl => ?_)
      refine lv_iconst (v := 1) hx hb dL_odds_15 (by decide) ?_
      rw [hQ]; exact gq_end C0 hr hlk hZ h02.symm (fun h => absurd h h0) ⟨Nat.le_of_ble_eq_true rfl, Nat.le_of_ble_eq_true rfl⟩ dL_odds_16
    · rw [h01] at hcl
      refine vx_catch (E := "java/lang/IllegalArgumentException") (name := "java/lang/IllegalArgumentException") C0.2.2.2.1 [⟨0, 10, 13, 18⟩] ⟨0, 10, 17, 13⟩ [] hT (fun z h => by rcases List.mem_singleton.mp h with rfl; exact Or.inr ⟨by decide, "java/util/NoSuchElementException", C0.2.2.2.2 _ lwNSE, hN⟩) rfl (by decide) (C0.2.2.2.2 _ lwIAE) (C0.2.2.2.2 _ lcIAE) hce hcv hcl ?_
      refine lv_astore (lv' := [(4, .ref q9), (0, .ref (zad V 0)), (1, .int x1), (2, .int x2), (3, .ref o)]) hx hb dL_odds_17 hl (by decide) rfl (fun ls hl => ?_)
      refine lv_iconst (v := 2) hx hb dL_odds_19 (by decide) ?_
      rw [hQ]; exact gq_end C0 hr hlk hZ h02.symm (fun h => absurd h h0) ⟨Nat.le_of_ble_eq_true rfl, Nat.le_of_ble_eq_true rfl⟩ dL_odds_20
  · have hc : code = 0 := by
      rcases hk with ⟨h01, h02⟩ | ⟨h01, h02⟩ | ⟨h01, h02⟩
      · exact h02
      · exact absurd (h01.symm.trans h0) (by decide)
      · exact absurd (h01.symm.trans h0) (by decide)
    rw [hQ]; exact gq_ret C0 hr hlk hZ rfl hc ⟨Nat.le_of_ble_eq_true rfl, Nat.le_of_ble_eq_true rfl⟩ dL_odds_8 dL_odds_9 dL_odds_10 (by decide) dL_odds_21 dL_odds_22
set_option maxHeartbeats 4000000 in
theorem gW_gate (l : Launch) (hfl : l.stackTraces = false) {V : zV} {cL : ClassId} {o : Nat} {σ : zS} {f0 : Nat → Int64} {t : zT3} {code : Int32} {x1 : Int32} {x2 : Int32} {x3 : Int32} {x4 : Int32} {x5 : Int32} (h1 : FX7_gate 0 x1 x2 x3 x4 x5 σ = some t) (hk : (t.1 = 0 ∧ code = 0) ∨ (t.1 = 1 ∧ code = 1) ∨ (t.1 = 2 ∧ code = 2)) : gWq l yL_gate cL_gate 8 7 116 1 6 hL_gate V cL o σ f0 t code [.ref (zad V 0), .int x1, .int x2, .int x3, .int x4, .int x5, .ref o] := by
  refine gWq_of (by decide) (Nat.le_of_ble_eq_true rfl) ?_
  intro p e s m below meth c A C0 hr hlk hT hN hZ ls hl
  generalize ([.ref (zad V 0), .int x1, .int x2, .int x3, .int x4, .int x5, .ref o] : List Value).toArray = args at C0 ⊢
  obtain ⟨Q, hQ⟩ : ∃ Q, Q = MQ below (gqQ V cL o t code A) args s 1 6 A := ⟨_, rfl⟩
  rw [← hQ]
  have hx := C0.1
  have hb := C0.2.1
  have hl : lv_has ls 8 [(0, .ref (zad V 0)), (1, .int x1), (2, .int x2), (3, .int x3), (4, .int x4), (5, .int x5), (6, .ref o)] := hl
  refine lv_aload hx hb dL_gate_0 (lv_at hl 6 rfl) ?_
  refine lv_iconst (v := 0) hx hb dL_gate_2 (by decide) ?_
  refine lv_aload_n hx hb dL_gate_3 rfl (lv_at hl 0 rfl) ?_
  refine lv_iload_n hx hb dL_gate_4 rfl (lv_at hl 1 rfl) ?_
  refine lv_iload_n hx hb dL_gate_5 rfl (lv_at hl 2 rfl) ?_
  refine lv_iload_n hx hb dL_gate_6 rfl (lv_at hl 3 rfl) ?_
  refine lv_iload hx hb dL_gate_7 (lv_at hl 4 rfl) ?_
  refine lv_iload hx hb dL_gate_9 (lv_at hl 5 rfl) ?_
  refine gw_x (As := [.int x1, .int x2, .int x3, .int x4, .int x5]) (rest := [.int 0, .ref o]) C0 hZ (kX7_gate l hfl rfl h1) kW7_gate mW7_gate vL7_gate rfl rfl hl.1 (Nat.le_of_ble_eq_true rfl) ⟨Nat.le_of_ble_eq_true rfl, Nat.le_of_ble_eq_true rfl⟩ dL_gate_11 ⟨Nat.le_of_ble_eq_true rfl, Nat.le_of_ble_eq_true rfl⟩ (fun ce q9 H1 locs1 h0 hZ hce hcv hcl => ?_) (fun H1 locs1 h0 hZ => ?_)
  · rcases hk with ⟨h01, h02⟩ | ⟨h01, h02⟩ | ⟨h01, h02⟩
    · exact absurd h01 h0
    · rw [h01] at hcl
      refine vx_catch (E := "java/util/NoSuchElementException") (name := "java/util/NoSuchElementException") C0.2.2.2.1 [] ⟨0, 16, 19, 18⟩ [⟨0, 16, 23, 13⟩] hT (fun z h => nomatch h) rfl (by decide) (C0.2.2.2.2 _ lwNSE) (C0.2.2.2.2 _ lcNSE) hce hcv hcl ?_
      refine lv_astore (lv' := [(7, .ref q9), (0, .ref (zad V 0)), (1, .int x1), (2, .int x2), (3, .int x3), (4, .int x4), (5, .int x5), (6, .ref o)]) hx hb dL_gate_19 hl (by decide) rfl (fun ls hl => ?_)
      refine lv_iconst (v := 1) hx hb dL_gate_21 (by decide) ?_
      rw [hQ]; exact gq_end C0 hr hlk hZ h02.symm (fun h => absurd h h0) ⟨Nat.le_of_ble_eq_true rfl, Nat.le_of_ble_eq_true rfl⟩ dL_gate_22
    · rw [h01] at hcl
      refine vx_catch (E := "java/lang/IllegalArgumentException") (name := "java/lang/IllegalArgumentException") C0.2.2.2.1 [⟨0, 16, 19, 18⟩] ⟨0, 16, 23, 13⟩ [] hT (fun z h => by rcases List.mem_singleton.mp h with rfl; exact Or.inr ⟨by decide, "java/util/NoSuchElementException", C0.2.2.2.2 _ lwNSE, hN⟩) rfl (by decide) (C0.2.2.2.2 _ lwIAE) (C0.2.2.2.2 _ lcIAE) hce hcv hcl ?_
      refine lv_astore (lv' := [(7, .ref q9), (0, .ref (zad V 0)), (1, .int x1), (2, .int x2), (3, .int x3), (4, .int x4), (5, .int x5), (6, .ref o)]) hx hb dL_gate_23 hl (by decide) rfl (fun ls hl => ?_)
      refine lv_iconst (v := 2) hx hb dL_gate_25 (by decide) ?_
      rw [hQ]; exact gq_end C0 hr hlk hZ h02.symm (fun h => absurd h h0) ⟨Nat.le_of_ble_eq_true rfl, Nat.le_of_ble_eq_true rfl⟩ dL_gate_26
  · have hc : code = 0 := by
      rcases hk with ⟨h01, h02⟩ | ⟨h01, h02⟩ | ⟨h01, h02⟩
      · exact h02
      · exact absurd (h01.symm.trans h0) (by decide)
      · exact absurd (h01.symm.trans h0) (by decide)
    rw [hQ]; exact gq_ret C0 hr hlk hZ rfl hc ⟨Nat.le_of_ble_eq_true rfl, Nat.le_of_ble_eq_true rfl⟩ dL_gate_14 dL_gate_15 dL_gate_16 (by decide) dL_gate_27 dL_gate_28
set_option maxHeartbeats 4000000 in
theorem gW_who (l : Launch) (hfl : l.stackTraces = false) {V : zV} {cL : ClassId} {o : Nat} {σ : zS} {f0 : Nat → Int64} {t : zT3} {code : Int32} {x1 : Int32} (h1 : FX7_who 0 x1 σ = some t) (hk : (t.1 = 0 ∧ code = 0) ∨ (t.1 = 1 ∧ code = 1)) : gWq l yL_who cL_who 4 7 157 1 6 hL_who V cL o σ f0 t code [.ref (zad V 0), .int x1, .ref o] := by
  refine gWq_of (by decide) (Nat.le_of_ble_eq_true rfl) ?_
  intro p e s m below meth c A C0 hr hlk hT hN hZ ls hl
  generalize ([.ref (zad V 0), .int x1, .ref o] : List Value).toArray = args at C0 ⊢
  obtain ⟨Q, hQ⟩ : ∃ Q, Q = MQ below (gqQ V cL o t code A) args s 1 6 A := ⟨_, rfl⟩
  rw [← hQ]
  have hx := C0.1
  have hb := C0.2.1
  have hl : lv_has ls 4 [(0, .ref (zad V 0)), (1, .int x1), (2, .ref o)] := hl
  refine lv_aload_n hx hb dL_who_0 rfl (lv_at hl 2 rfl) ?_
  refine lv_iconst (v := 0) hx hb dL_who_1 (by decide) ?_
  refine lv_aload_n hx hb dL_who_2 rfl (lv_at hl 0 rfl) ?_
  refine lv_iload_n hx hb dL_who_3 rfl (lv_at hl 1 rfl) ?_
  refine gw_x (As := [.int x1]) (rest := [.int 0, .ref o]) C0 hZ (kX7_who l hfl rfl h1) kW7_who mW7_who vL7_who rfl rfl hl.1 (Nat.le_of_ble_eq_true rfl) ⟨Nat.le_of_ble_eq_true rfl, Nat.le_of_ble_eq_true rfl⟩ dL_who_4 ⟨Nat.le_of_ble_eq_true rfl, Nat.le_of_ble_eq_true rfl⟩ (fun ce q9 H1 locs1 h0 hZ hce hcv hcl => ?_) (fun H1 locs1 h0 hZ => ?_)
  · rcases hk with ⟨h01, h02⟩ | ⟨h01, h02⟩
    · exact absurd h01 h0
    · rw [h01] at hcl
      refine vx_catch (E := "java/util/NoSuchElementException") (name := "java/util/NoSuchElementException") C0.2.2.2.1 [] ⟨0, 9, 12, 18⟩ [] hT (fun z h => nomatch h) rfl (by decide) (C0.2.2.2.2 _ lwNSE) (C0.2.2.2.2 _ lcNSE) hce hcv hcl ?_
      refine lv_astore_n (lv' := [(3, .ref q9), (0, .ref (zad V 0)), (1, .int x1), (2, .ref o)]) hx hb dL_who_12 rfl hl (by decide) rfl (fun ls hl => ?_)
      refine lv_iconst (v := 1) hx hb dL_who_13 (by decide) ?_
      rw [hQ]; exact gq_end C0 hr hlk hZ h02.symm (fun h => absurd h h0) ⟨Nat.le_of_ble_eq_true rfl, Nat.le_of_ble_eq_true rfl⟩ dL_who_14
  · have hc : code = 0 := by
      rcases hk with ⟨h01, h02⟩ | ⟨h01, h02⟩
      · exact h02
      · exact absurd (h01.symm.trans h0) (by decide)
    rw [hQ]; exact gq_ret C0 hr hlk hZ rfl hc ⟨Nat.le_of_ble_eq_true rfl, Nat.le_of_ble_eq_true rfl⟩ dL_who_7 dL_who_8 dL_who_9 (by decide) dL_who_15 dL_who_16
set_option maxHeartbeats 4000000 in
theorem gW_game (l : Launch) (hfl : l.stackTraces = false) {V : zV} {cL : ClassId} {o : Nat} {σ : zS} {f0 : Nat → Int64} {t : zT3} {code : Int32} {x1 : Int32} (h1 : FX7_game 0 x1 σ = some t) (hk : (t.1 = 0 ∧ code = 0) ∨ (t.1 = 1 ∧ code = 1)) : gWq l yL_game cL_game 4 7 114 1 6 hL_game V cL o σ f0 t code [.ref (zad V 0), .int x1, .ref o] := by
  refine gWq_of (by decide) (Nat.le_of_ble_eq_true rfl) ?_
  intro p e s m below meth c A C0 hr hlk hT hN hZ ls hl
  generalize ([.ref (zad V 0), .int x1, .ref o] : List Value).toArray = args at C0 ⊢
  obtain ⟨Q, hQ⟩ : ∃ Q, Q = MQ below (gqQ V cL o t code A) args s 1 6 A := ⟨_, rfl⟩
  rw [← hQ]
  have hx := C0.1
  have hb := C0.2.1
  have hl : lv_has ls 4 [(0, .ref (zad V 0)), (1, .int x1), (2, .ref o)] := hl
  refine lv_aload_n hx hb dL_game_0 rfl (lv_at hl 2 rfl) ?_
  refine lv_iconst (v := 0) hx hb dL_game_1 (by decide) ?_
  refine lv_aload_n hx hb dL_game_2 rfl (lv_at hl 0 rfl) ?_
  refine lv_iload_n hx hb dL_game_3 rfl (lv_at hl 1 rfl) ?_
  refine gw_x (As := [.int x1]) (rest := [.int 0, .ref o]) C0 hZ (kX7_game l hfl rfl h1) kW7_game mW7_game vL7_game rfl rfl hl.1 (Nat.le_of_ble_eq_true rfl) ⟨Nat.le_of_ble_eq_true rfl, Nat.le_of_ble_eq_true rfl⟩ dL_game_4 ⟨Nat.le_of_ble_eq_true rfl, Nat.le_of_ble_eq_true rfl⟩ (fun ce q9 H1 locs1 h0 hZ hce hcv hcl => ?_) (fun H1 locs1 h0 hZ => ?_)
  · rcases hk with ⟨h01, h02⟩ | ⟨h01, h02⟩
    · exact absurd h01 h0
    · rw [h01] at hcl
      refine vx_catch (E := "java/util/NoSuchElementException") (name := "java/util/NoSuchElementException") C0.2.2.2.1 [] ⟨0, 9, 12, 18⟩ [] hT (fun z h => nomatch h) rfl (by decide) (C0.2.2.2.2 _ lwNSE) (C0.2.2.2.2 _ lcNSE) hce hcv hcl ?_
      refine lv_astore_n (lv' := [(3, .ref q9), (0, .ref (zad V 0)), (1, .int x1), (2, .ref o)]) hx hb dL_game_12 rfl hl (by decide) rfl (fun ls hl => ?_)
      refine lv_iconst (v := 1) hx hb dL_game_13 (by decide) ?_
      rw [hQ]; exact gq_end C0 hr hlk hZ h02.symm (fun h => absurd h h0) ⟨Nat.le_of_ble_eq_true rfl, Nat.le_of_ble_eq_true rfl⟩ dL_game_14
  · have hc : code = 0 := by
      rcases hk with ⟨h01, h02⟩ | ⟨h01, h02⟩
      · exact h02
      · exact absurd (h01.symm.trans h0) (by decide)
    rw [hQ]; exact gq_ret C0 hr hlk hZ rfl hc ⟨Nat.le_of_ble_eq_true rfl, Nat.le_of_ble_eq_true rfl⟩ dL_game_7 dL_game_8 dL_game_9 (by decide) dL_game_15 dL_game_16
set_option maxHeartbeats 4000000 in
theorem gW_weeks (l : Launch) (hfl : l.stackTraces = false) {V : zV} {cL : ClassId} {o : Nat} {σ : zS} {f0 : Nat → Int64} {t : zT3} {code : Int32} {x1 : Int32} {x2 : Int32} {x3 : Int32} (h1 : FX7_weeks 0 x1 x2 x3 σ = some t) (hk : (t.1 = 0 ∧ code = 0) ∨ (t.1 = 1 ∧ code = 1) ∨ (t.1 = 2 ∧ code = 2)) : gWq l yL_weeks cL_weeks 6 7 168 1 6 hL_weeks V cL o σ f0 t code [.ref (zad V 0), .int x1, .int x2, .int x3, .ref o] := by
  refine gWq_of (by decide) (Nat.le_of_ble_eq_true rfl) ?_
  intro p e s m below meth c A C0 hr hlk hT hN hZ ls hl
  generalize ([.ref (zad V 0), .int x1, .int x2, .int x3, .ref o] : List Value).toArray = args at C0 ⊢
  obtain ⟨Q, hQ⟩ : ∃ Q, Q = MQ below (gqQ V cL o t code A) args s 1 6 A := ⟨_, rfl⟩
  rw [← hQ]
  have hx := C0.1
  have hb := C0.2.1
  have hl : lv_has ls 6 [(0, .ref (zad V 0)), (1, .int x1), (2, .int x2), (3, .int x3), (4, .ref o)] := hl
  refine lv_aload hx hb dL_weeks_0 (lv_at hl 4 rfl) ?_
  refine lv_iconst (v := 0) hx hb dL_weeks_2 (by decide) ?_
  refine lv_aload_n hx hb dL_weeks_3 rfl (lv_at hl 0 rfl) ?_
  refine lv_iload_n hx hb dL_weeks_4 rfl (lv_at hl 1 rfl) ?_
  refine lv_iload_n hx hb dL_weeks_5 rfl (lv_at hl 2 rfl) ?_
  refine lv_iload_n hx hb dL_weeks_6 rfl (lv_at hl 3 rfl) ?_
  refine gw_x (As := [.int x1, .int x2, .int x3]) (rest := [.int 0, .ref o]) C0 hZ (kX7_weeks l hfl rfl h1) kW7_weeks mW7_weeks vL7_weeks rfl rfl hl.1 (Nat.le_of_ble_eq_true rfl) ⟨Nat.le_of_ble_eq_true rfl, Nat.le_of_ble_eq_true rfl⟩ dL_weeks_7 ⟨Nat.le_of_ble_eq_true rfl, Nat.le_of_ble_eq_true rfl⟩ (fun ce q9 H1 locs1 h0 hZ hce hcv hcl => ?_) (fun H1 locs1 h0 hZ => ?_)
  · rcases hk with ⟨h01, h02⟩ | ⟨h01, h02⟩ | ⟨h01, h02⟩
    · exact absurd h01 h0
    · rw [h01] at hcl
      refine vx_catch (E := "java/util/NoSuchElementException") (name := "java/util/NoSuchElementException") C0.2.2.2.1 [] ⟨0, 12, 15, 18⟩ [⟨0, 12, 19, 13⟩] hT (fun z h => nomatch h) rfl (by decide) (C0.2.2.2.2 _ lwNSE) (C0.2.2.2.2 _ lcNSE) hce hcv hcl ?_
      refine lv_astore (lv' := [(5, .ref q9), (0, .ref (zad V 0)), (1, .int x1), (2, .int x2), (3, .int x3), (4, .ref o)]) hx hb dL_weeks_15 hl (by decide) rfl (fun ls hl => ?_)
      refine lv_iconst (v := 1) hx hb dL_weeks_17 (by decide) ?_
      rw [hQ]; exact gq_end C0 hr hlk hZ h02.symm (fun h => absurd h h0) ⟨Nat.le_of_ble_eq_true rfl, Nat.le_of_ble_eq_true rfl⟩ dL_weeks_18
    · rw [h01] at hcl
      refine vx_catch (E := "java/lang/IllegalArgumentException") (name := "java/lang/IllegalArgumentException") C0.2.2.2.1 [⟨0, 12, 15, 18⟩] ⟨0, 12, 19, 13⟩ [] hT (fun z h => by rcases List.mem_singleton.mp h with rfl; exact Or.inr ⟨by decide, "java/util/NoSuchElementException", C0.2.2.2.2 _ lwNSE, hN⟩) rfl (by decide) (C0.2.2.2.2 _ lwIAE) (C0.2.2.2.2 _ lcIAE) hce hcv hcl ?_
      refine lv_astore (lv' := [(5, .ref q9), (0, .ref (zad V 0)), (1, .int x1), (2, .int x2), (3, .int x3), (4, .ref o)]) hx hb dL_weeks_19 hl (by decide) rfl (fun ls hl => ?_)
      refine lv_iconst (v := 2) hx hb dL_weeks_21 (by decide) ?_
      rw [hQ]; exact gq_end C0 hr hlk hZ h02.symm (fun h => absurd h h0) ⟨Nat.le_of_ble_eq_true rfl, Nat.le_of_ble_eq_true rfl⟩ dL_weeks_22
  · have hc : code = 0 := by
      rcases hk with ⟨h01, h02⟩ | ⟨h01, h02⟩ | ⟨h01, h02⟩
      · exact h02
      · exact absurd (h01.symm.trans h0) (by decide)
      · exact absurd (h01.symm.trans h0) (by decide)
    rw [hQ]; exact gq_ret C0 hr hlk hZ rfl hc ⟨Nat.le_of_ble_eq_true rfl, Nat.le_of_ble_eq_true rfl⟩ dL_weeks_10 dL_weeks_11 dL_weeks_12 (by decide) dL_weeks_23 dL_weeks_24
