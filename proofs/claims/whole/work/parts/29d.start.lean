theorem mL7_init : zwM RL 77 yX7_init cX7_init 1 none 0 := ⟨Or.inl (zmem 172 (by decide +kernel) (by decide +kernel)), zmem 149 (by decide +kernel) (by decide +kernel), zmem 174 (by decide +kernel) (by decide +kernel), by decide +kernel⟩
theorem iL7_init : Cond.instanceMethod yX7_init ∈ zT := zmem 173 (by decide +kernel) (by decide +kernel)
theorem mL8_init : zwM RL 80 yX8_init cX8_init 1 none 0 := ⟨Or.inl (zmem 1387 (by decide +kernel) (by decide +kernel)), zmem 157 (by decide +kernel) (by decide +kernel), zmem 1389 (by decide +kernel) (by decide +kernel), by decide +kernel⟩
theorem iL8_init : Cond.instanceMethod yX8_init ∈ zT := zmem 1388 (by decide +kernel) (by decide +kernel)
theorem hfs8 : ∀ j, j < 83 → defaultValue (tyX8 j) = vp_V cD8 j := (fun j hj => by match j, hj with | 0, _ => rfl | 1, _ => rfl | 2, _ => rfl | 3, _ => rfl | 4, _ => rfl | 5, _ => rfl | 6, _ => rfl | 7, _ => rfl | 8, _ => rfl | 9, _ => rfl | 10, _ => rfl | 11, _ => rfl | 12, _ => rfl | 13, _ => rfl | 14, _ => rfl | 15, _ => rfl | 16, _ => rfl | 17, _ => rfl | 18, _ => rfl | 19, _ => rfl | 20, _ => rfl | 21, _ => rfl | 22, _ => rfl | 23, _ => rfl | 24, _ => rfl | 25, _ => rfl | 26, _ => rfl | 27, _ => rfl | 28, _ => rfl | 29, _ => rfl | 30, _ => rfl | 31, _ => rfl | 32, _ => rfl | 33, _ => rfl | 34, _ => rfl | 35, _ => rfl | 36, _ => rfl | 37, _ => rfl | 38, _ => rfl | 39, _ => rfl | 40, _ => rfl | 41, _ => rfl | 42, _ => rfl | 43, _ => rfl | 44, _ => rfl | 45, _ => rfl | 46, _ => rfl | 47, _ => rfl | 48, _ => rfl | 49, _ => rfl | 50, _ => rfl | 51, _ => rfl | 52, _ => rfl | 53, _ => rfl | 54, _ => rfl | 55, _ => rfl | 56, _ => rfl | 57, _ => rfl | 58, _ => rfl | 59, _ => rfl | 60, _ => rfl | 61, _ => rfl | 62, _ => rfl | 63, _ => rfl | 64, _ => rfl | 65, _ => rfl | 66, _ => rfl | 67, _ => rfl | 68, _ => rfl | 69, _ => rfl | 70, _ => rfl | 71, _ => rfl | 72, _ => rfl | 73, _ => rfl | 74, _ => rfl | 75, _ => rfl | 76, _ => rfl | 77, _ => rfl | 78, _ => rfl | 79, _ => rfl | 80, _ => rfl | 81, _ => rfl | 82, _ => rfl | j + 83, hj => exact absurd hj (by omega))
set_option maxHeartbeats 8000000 in
set_option maxRecDepth 100000 in
/-- THE LAW, from its entry -/
theorem whole_start {p : Program} {e : Env} {s : State} {m : MethodId} {below : List Frame} {meth : Method} {c : Code} (l : Launch) (hflags : l.flags = flags0) {b L : Nat} {xs : Nat → Int32} (hL : L ≤ 3072) (C0 : lw_At p s m meth c b L xs) : W p l e room_1 s m #[Value.ref b] below meth c s.heap [] 0 0 (lw_Z below #[Value.ref b] s) (entryFrame m ([Value.ref b] : List Value).toArray 7) := by
  obtain ⟨hx, hb, hr, hml, hown, hts, hX, hbl, hlocks, hgv⟩ := id C0
  have hfl : l.stackTraces = false := by
    unfold Launch.stackTraces
    rw [hflags]
    decide +kernel
  have htz : ∀ w ∈ zT, w.before #[Value.ref b] s = true := fun w hw => hts w (List.mem_filter.mp hw).1
  have C1 : CallFix p m c cL_law 7 s #[Value.ref b] zT RL := ⟨hx, hb, hml, hown, htz⟩
  have hNA : ∀ a : Nat, a < s.heap.size → ¬ (fun q : Nat => s.heap.size ≤ q) a := fun a h => Nat.not_le.mpr h
  obtain ⟨D, hD0⟩ := st_K hts
  obtain ⟨ci, hi1, hi2⟩ := st_int hts
  obtain ⟨cs, hs1, hs2⟩ := st_str hts
  obtain ⟨adK, adV, hS9, hev⟩ := st_S (A := fun q : Nat => s.heap.size ≤ q) hgv hNA
  have hR9 := st_R hgv hts hev (fun _ _ => rfl)
  obtain ⟨V, hV⟩ : ∃ V : zV, V = (D, (ci, cs), (fun _ => 0), adK, adV) := ⟨_, rfl⟩
  have hE : zEv V (fun q : Nat => s.heap.size ≤ q) s s.heap := by
    rw [hV]
    exact st_E hgv hts hS9 hR9 hNA
  have hK : va_K V.1 vwCl (ztys 1 V) s := by
    rw [hV]
    refine ⟨hD0, fun k q hq => ?_⟩
    match k, hq with
    | 0, hq => cases hq; exact ⟨hi1, hi2⟩
    | 1, hq => cases hq; exact ⟨hs1, hs2⟩
    | k + 2, hq => simp [ztys] at hq
  have hZ : zC V (fun q : Nat => s.heap.size ≤ q) s s.heap [] [] := ⟨fun k q h => by simp at h, hK, ⟨fun i j p q h => by simp at h, fun k q h => by simp at h⟩, va_S.rf, fun q h => h, hE⟩
  have hl := lv_entry ([.ref b]) (n := 7) (Nat.le_of_ble_eq_true rfl)
  rw [lg_entry_eq]
  generalize (lg_sl ([.ref b]) ++ List.replicate (7 - (lg_sl ([.ref b])).length) Slot.unset).toArray = ls at hl ⊢
  have hl : lv_has ls 7 [(0, .ref b)] := hl
  refine zc_new (ci := 7) (fs := [.int 0, .int 0, .null, .null, .null, .null, .int 0, .null, .null, .int 0, .null, .null, .int 0, .null]) C1 hZ zin7 tyX7_ok (zmem 170 (by decide +kernel) (by decide +kernel)) (zmem 171 (by decide +kernel) (by decide +kernel)) (zmem 149 (by decide +kernel) (by decide +kernel)) rfl (fun j hj => by match j, hj with | 0, _ => rfl | 1, _ => rfl | 2, _ => rfl | 3, _ => rfl | 4, _ => rfl | 5, _ => rfl | 6, _ => rfl | 7, _ => rfl | 8, _ => rfl | 9, _ => rfl | 10, _ => rfl | 11, _ => rfl | 12, _ => rfl | 13, _ => rfl | j + 14, hj => exact absurd hj (by omega)) ⟨Nat.le_of_ble_eq_true rfl, Nat.le_of_ble_eq_true rfl⟩ dL_law_0 (fun q0 H hZ => ?_)
  refine lv_dup hx hb dL_law_3 rfl ?_
  refine zc_init (As := []) (rest := [.ref q0]) C1 (ws := []) hZ (kX7_init l) mL7_init iL7_init rfl rfl rfl hl.1 (Nat.le_of_ble_eq_true rfl) ⟨Nat.le_of_ble_eq_true rfl, Nat.le_of_ble_eq_true rfl⟩ dL_law_4 ⟨Nat.le_of_ble_eq_true rfl, Nat.le_of_ble_eq_true rfl⟩ (fun q7 H locs hq7 hZ => ?_)
  refine lv_astore_n (lv' := [(1, .ref q0), (0, .ref b)]) hx hb dL_law_7 rfl hl (by decide) rfl (fun ls hl => ?_)
  refine zc_new (ci := 8) (fs := cD8) C1 hZ zin8 tyX8_ok (zmem 1385 (by decide +kernel) (by decide +kernel)) (zmem 1386 (by decide +kernel) (by decide +kernel)) (zmem 157 (by decide +kernel) (by decide +kernel)) rfl hfs8 ⟨Nat.le_of_ble_eq_true rfl, Nat.le_of_ble_eq_true rfl⟩ dL_law_8 (fun q1 H hZ => ?_)
  refine lv_dup hx hb dL_law_11 rfl ?_
  refine zc_init (As := []) (rest := [.ref q1]) C1 hZ (kX8_init l) mL8_init iL8_init rfl rfl rfl hl.1 (Nat.le_of_ble_eq_true rfl) ⟨Nat.le_of_ble_eq_true rfl, Nat.le_of_ble_eq_true rfl⟩ dL_law_12 ⟨Nat.le_of_ble_eq_true rfl, Nat.le_of_ble_eq_true rfl⟩ (fun q8 H locs hq8 hZ => ?_)
  refine lv_astore_n (lv' := [(2, .ref q1), (1, .ref q0), (0, .ref b)]) hx hb dL_law_15 rfl hl (by decide) rfl (fun ls hl => ?_)
  refine lv_iconst (v := 1) hx hb dL_law_16 (by decide) ?_
  obtain ⟨hP, hK1, hD, hS, hA, hE1⟩ := hZ
  refine va_newa (atype := .long) (ty := .long) (N' := 1) (a0 := (1, .inr (.inl (fun _ => 0)))) hx hb (hts (.arrayClass .long) (List.mem_of_getElem? (i := 2084) (by decide +kernel))) rfl hK1 hP hD hS hA (fun _ => rfl) (by decide) rfl (Nat.le_of_ble_eq_true rfl) (Nat.le_of_ble_eq_true rfl) (Nat.le_of_ble_eq_true rfl) dL_law_17 (fun o cL H1 k1 k2 k3 k4 => ?_)
  obtain ⟨g1, g2⟩ := st_W (cL := cL) (o := o) (f := fun _ => 0) k2 k3
  refine lv_astore_n (lv' := [(3, .ref o), (2, .ref q1), (1, .ref q0), (0, .ref b)]) hx hb dL_law_19 rfl hl (by decide) rfl (fun ls hl => ?_)
  refine lv_iconst (v := 0) hx hb dL_law_20 (by decide) ?_
  refine lv_istore (lv' := [(4, .int 0), (3, .ref o), (2, .ref q1), (1, .ref q0), (0, .ref b)]) hx hb dL_law_21 hl (by decide) rfl (fun ls hl => ?_)
  subst hq7
  subst hq8
  have X : gFx p l s m c #[Value.ref b] b L xs := ⟨hfl, C1, st_Nc hgv, hX, hbl, hL⟩
  exact law_loop (V := V) (cL := cL) (o := o) X hr hlocks (L + 1) 0 (Nat.zero_le _) (by omega) zs0 zs1 (fun _ => 0) H1 locs ls RR_ini ⟨g1, k1, g2, k4, hA, hE⟩ (lv_sub hl [4, 3, 2, 1, 0] rfl)
