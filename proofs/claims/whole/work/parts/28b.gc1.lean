section GC
variable {p : Program} {l : Launch} {e : Env} {s : State} {m : MethodId} {args : Array Value} {below : List Frame} {meth : Method} {c : Code} {H : Heap} {locs : List Loc} {cells slots : Nat} {Q : State → Prop} {ls : Array Slot} {V : zV} {cL : ClassId} {o : Nat} {a0 a1 : Nat → Nat} {sb L i : Nat} {xs : Nat → Int32} {σ τ : zS} {f : Nat → Int64}
set_option maxHeartbeats 4000000 in
theorem gc_feed (X : gFx p l s m c args sb L xs) (hi : i + 6 ≤ L) (hRR : RR σ τ) (hZ : gZ V (gtL V cL) (fun q => s.heap.size ≤ q) (gwL V a0 a1 cL o σ τ f) s H locs) (hl : lv_has ls 7 (gLs sb a0 a1 o i)) (hc : cells + 2 ≤ 601024 ∧ slots + 12 ≤ 7293034) (kk : gNx p l e s m args below meth c Q V cL o a0 a1 sb i (cells + 2) (slots + 12)) : W p l e room_1 s m args below meth c H locs cells slots Q (F0 m 200 ls []) := by
  obtain ⟨hfl, C0, hN, hX, hbl, hL⟩ := X
  have hx := C0.1
  have hb := C0.2.1
  have hbA : ¬ (fun q => s.heap.size ≤ q) sb := Nat.not_le.mpr hbl
  obtain ⟨r, σ1, τ1, e1, e2, hR1⟩ := rel_feed hRR (xs (i + 1)) (xs (i + 2)) (xs (i + 3)) (xs (i + 4)) (xs (i + 5))
  refine lv_aload_n hx hb dL_law_200 rfl (lv_at hl 1 rfl) ?_
  refine gl_arg (j := 1) hx hb hX hbl hbA hZ.2.2.2.1 rfl (by omega) hL (lv_at hl 0 rfl) (lv_at hl 4 rfl) dL_law_201 dL_law_202 dL_law_204 dL_law_205 dL_law_206 ?_
  refine gl_arg (j := 2) hx hb hX hbl hbA hZ.2.2.2.1 rfl (by omega) hL (lv_at hl 0 rfl) (lv_at hl 4 rfl) dL_law_207 dL_law_208 dL_law_210 dL_law_211 dL_law_212 ?_
  refine gl_arg (j := 3) hx hb hX hbl hbA hZ.2.2.2.1 rfl (by omega) hL (lv_at hl 0 rfl) (lv_at hl 4 rfl) dL_law_213 dL_law_214 dL_law_216 dL_law_217 dL_law_218 ?_
  refine gl_arg (j := 4) hx hb hX hbl hbA hZ.2.2.2.1 rfl (by omega) hL (lv_at hl 0 rfl) (lv_at hl 4 rfl) dL_law_219 dL_law_220 dL_law_222 dL_law_223 dL_law_224 ?_
  refine gl_arg (j := 5) hx hb hX hbl hbA hZ.2.2.2.1 rfl (by omega) hL (lv_at hl 0 rfl) (lv_at hl 4 rfl) dL_law_225 dL_law_226 dL_law_228 dL_law_229 dL_law_230 ?_
  refine gl_ci (L := 0) (is := [0]) (As := [.int (xs (i + 1)), .int (xs (i + 2)), .int (xs (i + 3)), .int (xs (i + 4)), .int (xs (i + 5))]) (rest := []) C0 hZ rfl rfl (kX7_feed l  rfl e1) mL7_feed vL7_feed rfl rfl hl.1 (Nat.zero_le _) ⟨Nat.le_of_ble_eq_true rfl, Nat.le_of_ble_eq_true rfl⟩ dL_law_231 ⟨Nat.le_trans (by omega : cells ≤ cells + 2) hc.1, Nat.le_trans (by omega : slots ≤ slots + 12) hc.2⟩ (fun H1 locs1 hZ1 => ?_)
  replace hZ := hZ1
  clear hZ1
  refine lv_aload_n hx hb dL_law_234 rfl (lv_at hl 2 rfl) ?_
  refine gl_arg (j := 1) hx hb hX hbl hbA hZ.2.2.2.1 rfl (by omega) hL (lv_at hl 0 rfl) (lv_at hl 4 rfl) dL_law_235 dL_law_236 dL_law_238 dL_law_239 dL_law_240 ?_
  refine gl_arg (j := 2) hx hb hX hbl hbA hZ.2.2.2.1 rfl (by omega) hL (lv_at hl 0 rfl) (lv_at hl 4 rfl) dL_law_241 dL_law_242 dL_law_244 dL_law_245 dL_law_246 ?_
  refine gl_arg (j := 3) hx hb hX hbl hbA hZ.2.2.2.1 rfl (by omega) hL (lv_at hl 0 rfl) (lv_at hl 4 rfl) dL_law_247 dL_law_248 dL_law_250 dL_law_251 dL_law_252 ?_
  refine gl_arg (j := 4) hx hb hX hbl hbA hZ.2.2.2.1 rfl (by omega) hL (lv_at hl 0 rfl) (lv_at hl 4 rfl) dL_law_253 dL_law_254 dL_law_256 dL_law_257 dL_law_258 ?_
  refine gl_arg (j := 5) hx hb hX hbl hbA hZ.2.2.2.1 rfl (by omega) hL (lv_at hl 0 rfl) (lv_at hl 4 rfl) dL_law_259 dL_law_260 dL_law_262 dL_law_263 dL_law_264 ?_
  refine gl_ci (L := 1) (is := [0, 1]) (As := [.int (xs (i + 1)), .int (xs (i + 2)), .int (xs (i + 3)), .int (xs (i + 4)), .int (xs (i + 5))]) (rest := [.int r]) C0 hZ.re rfl rfl (kX8_feed l  rfl e2) mL8_feed vL8_feed rfl rfl hl.1 (Nat.le_of_ble_eq_true rfl) ⟨Nat.le_of_ble_eq_true rfl, Nat.le_of_ble_eq_true rfl⟩ dL_law_265 ⟨Nat.le_trans (by omega : cells ≤ cells + 2) hc.1, Nat.le_trans (by omega : slots ≤ slots + 12) hc.2⟩ (fun H1 locs1 hZ1 => ?_)
  exact lv_icmp_eq (tgt := 1956) hx hb dL_law_268 (by decide) (fun _ => W.widen (by omega) (by omega) (kk σ1 τ1 f H1 locs1 ls hR1 hZ1.er hl)) (fun h => absurd rfl h)
set_option maxHeartbeats 4000000 in
theorem gc_shop (X : gFx p l s m c args sb L xs) (hi : i + 6 ≤ L) (hRR : RR σ τ) (hZ : gZ V (gtL V cL) (fun q => s.heap.size ≤ q) (gwL V a0 a1 cL o σ τ f) s H locs) (hl : lv_has ls 7 (gLs sb a0 a1 o i)) (hc : cells + 2 ≤ 601024 ∧ slots + 12 ≤ 7293034) (kk : gNx p l e s m args below meth c Q V cL o a0 a1 sb i (cells + 2) (slots + 12)) : W p l e room_1 s m args below meth c H locs cells slots Q (F0 m 273 ls []) := by
  obtain ⟨hfl, C0, hN, hX, hbl, hL⟩ := X
  have hx := C0.1
  have hb := C0.2.1
  have hbA : ¬ (fun q => s.heap.size ≤ q) sb := Nat.not_le.mpr hbl
  obtain ⟨k, r, σ1, b, τ1, e1, e2, hR1, hk⟩ := rel_shop hRR (xs (i + 1))
  refine lv_aload_n hx hb dL_law_273 rfl (lv_at hl 1 rfl) ?_
  refine gl_arg (j := 1) hx hb hX hbl hbA hZ.2.2.2.1 rfl (by omega) hL (lv_at hl 0 rfl) (lv_at hl 4 rfl) dL_law_274 dL_law_275 dL_law_277 dL_law_278 dL_law_279 ?_
  refine lv_aload_n hx hb dL_law_280 rfl (lv_at hl 3 rfl) ?_
  refine gl_w (code := (τ1 0 2)) (As := [.ref (a0 0), .int (xs (i + 1)), .ref o]) (rest := []) C0 hN hZ (gW_shop l hfl e1 (hk.elim (fun h => Or.inl ⟨h.1, h.2.1⟩) (fun h => Or.inr ⟨h.1, h.2⟩))) wL_shop rfl rfl hl.1 (Nat.zero_le _) ⟨Nat.le_of_ble_eq_true rfl, Nat.le_of_ble_eq_true rfl⟩ dL_law_281 ⟨Nat.le_trans (by omega : cells + 1 ≤ cells + 2) hc.1, Nat.le_trans (by omega : slots + 6 ≤ slots + 12) hc.2⟩ (fun f1 H1 locs1 hf1 hZ1 => ?_)
  refine lv_istore (lv' := [(5, .int (τ1 0 2)), (0, .ref sb), (1, .ref (a0 0)), (2, .ref (a1 0)), (3, .ref o), (4, .int (nI i))]) hx hb dL_law_284 hl (by decide) rfl (fun ls hl => ?_)
  replace hZ := hZ1
  clear hZ1
  refine lv_aload_n hx hb dL_law_286 rfl (lv_at hl 3 rfl) ?_
  refine gl_arg (j := 1) hx hb hX hbl hbA hZ.2.2.2.1 rfl (by omega) hL (lv_at hl 1 rfl) (lv_at hl 5 rfl) dL_law_287 dL_law_288 dL_law_290 dL_law_291 dL_law_292 ?_
  refine gl_ci (L := 1) (is := [0, 1]) (As := [.int (xs (i + 1))]) (rest := []) C0 hZ.re rfl rfl (kX8_shop l  rfl e2) mL8_shop vL8_shop rfl rfl hl.1 (Nat.zero_le _) ⟨Nat.le_of_ble_eq_true rfl, Nat.le_of_ble_eq_true rfl⟩ dL_law_293 ⟨Nat.le_trans (by omega : cells + 1 ≤ cells + 2) hc.1, Nat.le_trans (by omega : slots + 6 ≤ slots + 12) hc.2⟩ (fun H1 locs1 hZ1 => ?_)
  exact gl_tail C0 hZ1.er hl rfl (fun h => hk.elim (fun g => by rw [← g.2.2]; exact hf1 g.1) (fun g => absurd (g.2.symm.trans h) (by decide))) ⟨Nat.le_of_ble_eq_true rfl, Nat.le_of_ble_eq_true rfl⟩ ⟨Nat.le_trans (by omega : cells + 1 ≤ cells + 2) hc.1, Nat.le_trans (by omega : slots + 6 ≤ slots + 12) hc.2⟩ dL_law_296 dL_law_298 dL_law_299 dL_law_302 dL_law_304 dL_law_309 dL_law_311 dL_law_314 dL_law_315 dL_law_316 dL_law_317 dL_law_319 dL_law_320 dL_law_321 dL_law_326 (by decide) (fun H2 locs2 ls2 hZ2 hl2 => W.widen (by omega) (by omega) (kk σ1 τ1 f1 H2 locs2 ls2 hR1 hZ2 hl2))
set_option maxHeartbeats 4000000 in
theorem gc_fault (X : gFx p l s m c args sb L xs) (hi : i + 6 ≤ L) (hRR : RR σ τ) (hZ : gZ V (gtL V cL) (fun q => s.heap.size ≤ q) (gwL V a0 a1 cL o σ τ f) s H locs) (hl : lv_has ls 7 (gLs sb a0 a1 o i)) (hc : cells + 2 ≤ 601024 ∧ slots + 12 ≤ 7293034) (kk : gNx p l e s m args below meth c Q V cL o a0 a1 sb i (cells + 2) (slots + 12)) : W p l e room_1 s m args below meth c H locs cells slots Q (F0 m 329 ls []) := by
  obtain ⟨hfl, C0, hN, hX, hbl, hL⟩ := X
  have hx := C0.1
  have hb := C0.2.1
  have hbA : ¬ (fun q => s.heap.size ≤ q) sb := Nat.not_le.mpr hbl
  obtain ⟨r, σ1, τ1, e1, e2, hR1⟩ := rel_fault hRR 
  refine lv_aload_n hx hb dL_law_329 rfl (lv_at hl 1 rfl) ?_
  refine gl_ci (L := 0) (is := [0]) (As := []) (rest := []) C0 hZ rfl rfl (kX7_fault l  rfl e1) mL7_fault vL7_fault rfl rfl hl.1 (Nat.zero_le _) ⟨Nat.le_of_ble_eq_true rfl, Nat.le_of_ble_eq_true rfl⟩ dL_law_330 ⟨Nat.le_trans (by omega : cells ≤ cells + 2) hc.1, Nat.le_trans (by omega : slots ≤ slots + 12) hc.2⟩ (fun H1 locs1 hZ1 => ?_)
  replace hZ := hZ1
  clear hZ1
  refine lv_aload_n hx hb dL_law_333 rfl (lv_at hl 2 rfl) ?_
  refine gl_ci (L := 1) (is := [0, 1]) (As := []) (rest := [.int r]) C0 hZ.re rfl rfl (kX8_fault l  rfl e2) mL8_fault vL8_fault rfl rfl hl.1 (Nat.le_of_ble_eq_true rfl) ⟨Nat.le_of_ble_eq_true rfl, Nat.le_of_ble_eq_true rfl⟩ dL_law_334 ⟨Nat.le_trans (by omega : cells ≤ cells + 2) hc.1, Nat.le_trans (by omega : slots ≤ slots + 12) hc.2⟩ (fun H1 locs1 hZ1 => ?_)
  exact lv_icmp_eq (tgt := 1956) hx hb dL_law_337 (by decide) (fun _ => W.widen (by omega) (by omega) (kk σ1 τ1 f H1 locs1 ls hR1 hZ1.er hl)) (fun h => absurd rfl h)
set_option maxHeartbeats 4000000 in
theorem gc_count (X : gFx p l s m c args sb L xs) (hi : i + 6 ≤ L) (hRR : RR σ τ) (hZ : gZ V (gtL V cL) (fun q => s.heap.size ≤ q) (gwL V a0 a1 cL o σ τ f) s H locs) (hl : lv_has ls 7 (gLs sb a0 a1 o i)) (hc : cells + 2 ≤ 601024 ∧ slots + 12 ≤ 7293034) (kk : gNx p l e s m args below meth c Q V cL o a0 a1 sb i (cells + 2) (slots + 12)) : W p l e room_1 s m args below meth c H locs cells slots Q (F0 m 342 ls []) := by
  obtain ⟨hfl, C0, hN, hX, hbl, hL⟩ := X
  have hx := C0.1
  have hb := C0.2.1
  have hbA : ¬ (fun q => s.heap.size ≤ q) sb := Nat.not_le.mpr hbl
  obtain ⟨k, r, σ1, b, τ1, e1, e2, hR1, hth, hk, hr⟩ := reN_count hRR (xs (i + 1))
  refine lv_aload_n hx hb dL_law_342 rfl (lv_at hl 1 rfl) ?_
  refine gl_arg (j := 1) hx hb hX hbl hbA hZ.2.2.2.1 rfl (by omega) hL (lv_at hl 0 rfl) (lv_at hl 4 rfl) dL_law_343 dL_law_344 dL_law_346 dL_law_347 dL_law_348 ?_
  refine lv_aload_n hx hb dL_law_349 rfl (lv_at hl 3 rfl) ?_
  refine gl_w (code := (nI k)) (As := [.ref (a0 0), .int (xs (i + 1)), .ref o]) (rest := []) C0 hN hZ (gW_count l hfl e1 (gk1 hk)) wL_count rfl rfl hl.1 (Nat.zero_le _) ⟨Nat.le_of_ble_eq_true rfl, Nat.le_of_ble_eq_true rfl⟩ dL_law_350 ⟨Nat.le_trans (by omega : cells + 1 ≤ cells + 2) hc.1, Nat.le_trans (by omega : slots + 6 ≤ slots + 12) hc.2⟩ (fun f1 H1 locs1 hf1 hZ1 => ?_)
  refine lv_istore (lv' := [(5, .int (nI k)), (0, .ref sb), (1, .ref (a0 0)), (2, .ref (a1 0)), (3, .ref o), (4, .int (nI i))]) hx hb dL_law_353 hl (by decide) rfl (fun ls hl => ?_)
  replace hZ := hZ1
  clear hZ1
  refine lv_aload_n hx hb dL_law_355 rfl (lv_at hl 3 rfl) ?_
  refine gl_arg (j := 1) hx hb hX hbl hbA hZ.2.2.2.1 rfl (by omega) hL (lv_at hl 1 rfl) (lv_at hl 5 rfl) dL_law_356 dL_law_357 dL_law_359 dL_law_360 dL_law_361 ?_
  refine gl_ci (L := 1) (is := [0, 1]) (As := [.int (xs (i + 1))]) (rest := []) C0 hZ.re rfl rfl (kX8_count l  rfl e2) mL8_count vL8_count rfl rfl hl.1 (Nat.zero_le _) ⟨Nat.le_of_ble_eq_true rfl, Nat.le_of_ble_eq_true rfl⟩ dL_law_362 ⟨Nat.le_trans (by omega : cells + 1 ≤ cells + 2) hc.1, Nat.le_trans (by omega : slots + 6 ≤ slots + 12) hc.2⟩ (fun H1 locs1 hZ1 => ?_)
  exact gl_tail C0 hZ1.er hl hth (fun h => by rw [← hr (gk0 (Nat.le_trans hk (by omega)) h)]; exact hf1 (gk0 (Nat.le_trans hk (by omega)) h)) ⟨Nat.le_of_ble_eq_true rfl, Nat.le_of_ble_eq_true rfl⟩ ⟨Nat.le_trans (by omega : cells + 1 ≤ cells + 2) hc.1, Nat.le_trans (by omega : slots + 6 ≤ slots + 12) hc.2⟩ dL_law_365 dL_law_367 dL_law_368 dL_law_371 dL_law_373 dL_law_378 dL_law_380 dL_law_383 dL_law_384 dL_law_385 dL_law_386 dL_law_388 dL_law_389 dL_law_390 dL_law_395 (by decide) (fun H2 locs2 ls2 hZ2 hl2 => W.widen (by omega) (by omega) (kk σ1 τ1 f1 H2 locs2 ls2 hR1 hZ2 hl2))
set_option maxHeartbeats 4000000 in
theorem gc_aisle (X : gFx p l s m c args sb L xs) (hi : i + 6 ≤ L) (hRR : RR σ τ) (hZ : gZ V (gtL V cL) (fun q => s.heap.size ≤ q) (gwL V a0 a1 cL o σ τ f) s H locs) (hl : lv_has ls 7 (gLs sb a0 a1 o i)) (hc : cells + 2 ≤ 601024 ∧ slots + 12 ≤ 7293034) (kk : gNx p l e s m args below meth c Q V cL o a0 a1 sb i (cells + 2) (slots + 12)) : W p l e room_1 s m args below meth c H locs cells slots Q (F0 m 398 ls []) := by
  obtain ⟨hfl, C0, hN, hX, hbl, hL⟩ := X
  have hx := C0.1
  have hb := C0.2.1
  have hbA : ¬ (fun q => s.heap.size ≤ q) sb := Nat.not_le.mpr hbl
  obtain ⟨k, r, σ1, b, τ1, e1, e2, hR1, hth, hk, hr⟩ := reN_aisle hRR (xs (i + 1)) (xs (i + 2))
  refine lv_aload_n hx hb dL_law_398 rfl (lv_at hl 1 rfl) ?_
  refine gl_arg (j := 1) hx hb hX hbl hbA hZ.2.2.2.1 rfl (by omega) hL (lv_at hl 0 rfl) (lv_at hl 4 rfl) dL_law_399 dL_law_400 dL_law_402 dL_law_403 dL_law_404 ?_
  refine gl_arg (j := 2) hx hb hX hbl hbA hZ.2.2.2.1 rfl (by omega) hL (lv_at hl 0 rfl) (lv_at hl 4 rfl) dL_law_405 dL_law_406 dL_law_408 dL_law_409 dL_law_410 ?_
  refine lv_aload_n hx hb dL_law_411 rfl (lv_at hl 3 rfl) ?_
  refine gl_w (code := (nI k)) (As := [.ref (a0 0), .int (xs (i + 1)), .int (xs (i + 2)), .ref o]) (rest := []) C0 hN hZ (gW_aisle l hfl e1 (gk1 hk)) wL_aisle rfl rfl hl.1 (Nat.zero_le _) ⟨Nat.le_of_ble_eq_true rfl, Nat.le_of_ble_eq_true rfl⟩ dL_law_412 ⟨Nat.le_trans (by omega : cells + 2 ≤ cells + 2) hc.1, Nat.le_trans (by omega : slots + 12 ≤ slots + 12) hc.2⟩ (fun f1 H1 locs1 hf1 hZ1 => ?_)
  refine lv_istore (lv' := [(5, .int (nI k)), (0, .ref sb), (1, .ref (a0 0)), (2, .ref (a1 0)), (3, .ref o), (4, .int (nI i))]) hx hb dL_law_415 hl (by decide) rfl (fun ls hl => ?_)
  replace hZ := hZ1
  clear hZ1
  refine lv_aload_n hx hb dL_law_417 rfl (lv_at hl 3 rfl) ?_
  refine gl_arg (j := 1) hx hb hX hbl hbA hZ.2.2.2.1 rfl (by omega) hL (lv_at hl 1 rfl) (lv_at hl 5 rfl) dL_law_418 dL_law_419 dL_law_421 dL_law_422 dL_law_423 ?_
  refine gl_arg (j := 2) hx hb hX hbl hbA hZ.2.2.2.1 rfl (by omega) hL (lv_at hl 1 rfl) (lv_at hl 5 rfl) dL_law_424 dL_law_425 dL_law_427 dL_law_428 dL_law_429 ?_
  refine gl_ci (L := 1) (is := [0, 1]) (As := [.int (xs (i + 1)), .int (xs (i + 2))]) (rest := []) C0 hZ.re rfl rfl (kX8_aisle l  rfl e2) mL8_aisle vL8_aisle rfl rfl hl.1 (Nat.zero_le _) ⟨Nat.le_of_ble_eq_true rfl, Nat.le_of_ble_eq_true rfl⟩ dL_law_430 ⟨Nat.le_trans (by omega : cells + 2 ≤ cells + 2) hc.1, Nat.le_trans (by omega : slots + 12 ≤ slots + 12) hc.2⟩ (fun H1 locs1 hZ1 => ?_)
  exact gl_tail C0 hZ1.er hl hth (fun h => by rw [← hr (gk0 (Nat.le_trans hk (by omega)) h)]; exact hf1 (gk0 (Nat.le_trans hk (by omega)) h)) ⟨Nat.le_of_ble_eq_true rfl, Nat.le_of_ble_eq_true rfl⟩ ⟨Nat.le_trans (by omega : cells + 2 ≤ cells + 2) hc.1, Nat.le_trans (by omega : slots + 12 ≤ slots + 12) hc.2⟩ dL_law_433 dL_law_435 dL_law_436 dL_law_439 dL_law_441 dL_law_446 dL_law_448 dL_law_451 dL_law_452 dL_law_453 dL_law_454 dL_law_456 dL_law_457 dL_law_458 dL_law_463 (by decide) (fun H2 locs2 ls2 hZ2 hl2 => W.widen (by omega) (by omega) (kk σ1 τ1 f1 H2 locs2 ls2 hR1 hZ2 hl2))
set_option maxHeartbeats 4000000 in
theorem gc_person (X : gFx p l s m c args sb L xs) (hi : i + 6 ≤ L) (hRR : RR σ τ) (hZ : gZ V (gtL V cL) (fun q => s.heap.size ≤ q) (gwL V a0 a1 cL o σ τ f) s H locs) (hl : lv_has ls 7 (gLs sb a0 a1 o i)) (hc : cells + 2 ≤ 601024 ∧ slots + 12 ≤ 7293034) (kk : gNx p l e s m args below meth c Q V cL o a0 a1 sb i (cells + 2) (slots + 12)) : W p l e room_1 s m args below meth c H locs cells slots Q (F0 m 466 ls []) := by
  obtain ⟨hfl, C0, hN, hX, hbl, hL⟩ := X
  have hx := C0.1
  have hb := C0.2.1
  have hbA : ¬ (fun q => s.heap.size ≤ q) sb := Nat.not_le.mpr hbl
  obtain ⟨k, r, σ1, b, τ1, e1, e2, hR1, hth, hk, hr⟩ := reN_person hRR (xs (i + 1)) (xs (i + 2))
  refine lv_aload_n hx hb dL_law_466 rfl (lv_at hl 1 rfl) ?_
  refine gl_arg (j := 1) hx hb hX hbl hbA hZ.2.2.2.1 rfl (by omega) hL (lv_at hl 0 rfl) (lv_at hl 4 rfl) dL_law_467 dL_law_468 dL_law_470 dL_law_471 dL_law_472 ?_
  refine gl_arg (j := 2) hx hb hX hbl hbA hZ.2.2.2.1 rfl (by omega) hL (lv_at hl 0 rfl) (lv_at hl 4 rfl) dL_law_473 dL_law_474 dL_law_476 dL_law_477 dL_law_478 ?_
  refine lv_aload_n hx hb dL_law_479 rfl (lv_at hl 3 rfl) ?_
  refine gl_w (code := (nI k)) (As := [.ref (a0 0), .int (xs (i + 1)), .int (xs (i + 2)), .ref o]) (rest := []) C0 hN hZ (gW_person l hfl e1 (gk1 hk)) wL_person rfl rfl hl.1 (Nat.zero_le _) ⟨Nat.le_of_ble_eq_true rfl, Nat.le_of_ble_eq_true rfl⟩ dL_law_480 ⟨Nat.le_trans (by omega : cells + 2 ≤ cells + 2) hc.1, Nat.le_trans (by omega : slots + 12 ≤ slots + 12) hc.2⟩ (fun f1 H1 locs1 hf1 hZ1 => ?_)
  refine lv_istore (lv' := [(5, .int (nI k)), (0, .ref sb), (1, .ref (a0 0)), (2, .ref (a1 0)), (3, .ref o), (4, .int (nI i))]) hx hb dL_law_483 hl (by decide) rfl (fun ls hl => ?_)
  replace hZ := hZ1
  clear hZ1
  refine lv_aload_n hx hb dL_law_485 rfl (lv_at hl 3 rfl) ?_
  refine gl_arg (j := 1) hx hb hX hbl hbA hZ.2.2.2.1 rfl (by omega) hL (lv_at hl 1 rfl) (lv_at hl 5 rfl) dL_law_486 dL_law_487 dL_law_489 dL_law_490 dL_law_491 ?_
  refine gl_arg (j := 2) hx hb hX hbl hbA hZ.2.2.2.1 rfl (by omega) hL (lv_at hl 1 rfl) (lv_at hl 5 rfl) dL_law_492 dL_law_493 dL_law_495 dL_law_496 dL_law_497 ?_
  refine gl_ci (L := 1) (is := [0, 1]) (As := [.int (xs (i + 1)), .int (xs (i + 2))]) (rest := []) C0 hZ.re rfl rfl (kX8_person l  rfl e2) mL8_person vL8_person rfl rfl hl.1 (Nat.zero_le _) ⟨Nat.le_of_ble_eq_true rfl, Nat.le_of_ble_eq_true rfl⟩ dL_law_498 ⟨Nat.le_trans (by omega : cells + 2 ≤ cells + 2) hc.1, Nat.le_trans (by omega : slots + 12 ≤ slots + 12) hc.2⟩ (fun H1 locs1 hZ1 => ?_)
  exact gl_tail C0 hZ1.er hl hth (fun h => by rw [← hr (gk0 (Nat.le_trans hk (by omega)) h)]; exact hf1 (gk0 (Nat.le_trans hk (by omega)) h)) ⟨Nat.le_of_ble_eq_true rfl, Nat.le_of_ble_eq_true rfl⟩ ⟨Nat.le_trans (by omega : cells + 2 ≤ cells + 2) hc.1, Nat.le_trans (by omega : slots + 12 ≤ slots + 12) hc.2⟩ dL_law_501 dL_law_503 dL_law_504 dL_law_507 dL_law_509 dL_law_514 dL_law_516 dL_law_519 dL_law_520 dL_law_521 dL_law_522 dL_law_524 dL_law_525 dL_law_526 dL_law_531 (by decide) (fun H2 locs2 ls2 hZ2 hl2 => W.widen (by omega) (by omega) (kk σ1 τ1 f1 H2 locs2 ls2 hR1 hZ2 hl2))
set_option maxHeartbeats 4000000 in
theorem gc_route (X : gFx p l s m c args sb L xs) (hi : i + 6 ≤ L) (hRR : RR σ τ) (hZ : gZ V (gtL V cL) (fun q => s.heap.size ≤ q) (gwL V a0 a1 cL o σ τ f) s H locs) (hl : lv_has ls 7 (gLs sb a0 a1 o i)) (hc : cells + 2 ≤ 601024 ∧ slots + 12 ≤ 7293034) (kk : gNx p l e s m args below meth c Q V cL o a0 a1 sb i (cells + 2) (slots + 12)) : W p l e room_1 s m args below meth c H locs cells slots Q (F0 m 534 ls []) := by
  obtain ⟨hfl, C0, hN, hX, hbl, hL⟩ := X
  have hx := C0.1
  have hb := C0.2.1
  have hbA : ¬ (fun q => s.heap.size ≤ q) sb := Nat.not_le.mpr hbl
  obtain ⟨k, r, σ1, b, τ1, e1, e2, hR1, hth, hk, hr⟩ := reN_route hRR (xs (i + 1)) (xs (i + 2))
  refine lv_aload_n hx hb dL_law_534 rfl (lv_at hl 1 rfl) ?_
  refine gl_arg (j := 1) hx hb hX hbl hbA hZ.2.2.2.1 rfl (by omega) hL (lv_at hl 0 rfl) (lv_at hl 4 rfl) dL_law_535 dL_law_536 dL_law_538 dL_law_539 dL_law_540 ?_
  refine gl_arg (j := 2) hx hb hX hbl hbA hZ.2.2.2.1 rfl (by omega) hL (lv_at hl 0 rfl) (lv_at hl 4 rfl) dL_law_541 dL_law_542 dL_law_544 dL_law_545 dL_law_546 ?_
  refine lv_aload_n hx hb dL_law_547 rfl (lv_at hl 3 rfl) ?_
  refine gl_w (code := (nI k)) (As := [.ref (a0 0), .int (xs (i + 1)), .int (xs (i + 2)), .ref o]) (rest := []) C0 hN hZ (gW_route l hfl e1 (gk1 hk)) wL_route rfl rfl hl.1 (Nat.zero_le _) ⟨Nat.le_of_ble_eq_true rfl, Nat.le_of_ble_eq_true rfl⟩ dL_law_548 ⟨Nat.le_trans (by omega : cells + 2 ≤ cells + 2) hc.1, Nat.le_trans (by omega : slots + 12 ≤ slots + 12) hc.2⟩ (fun f1 H1 locs1 hf1 hZ1 => ?_)
  refine lv_istore (lv' := [(5, .int (nI k)), (0, .ref sb), (1, .ref (a0 0)), (2, .ref (a1 0)), (3, .ref o), (4, .int (nI i))]) hx hb dL_law_551 hl (by decide) rfl (fun ls hl => ?_)
  replace hZ := hZ1
  clear hZ1
  refine lv_aload_n hx hb dL_law_553 rfl (lv_at hl 3 rfl) ?_
  refine gl_arg (j := 1) hx hb hX hbl hbA hZ.2.2.2.1 rfl (by omega) hL (lv_at hl 1 rfl) (lv_at hl 5 rfl) dL_law_554 dL_law_555 dL_law_557 dL_law_558 dL_law_559 ?_
  refine gl_arg (j := 2) hx hb hX hbl hbA hZ.2.2.2.1 rfl (by omega) hL (lv_at hl 1 rfl) (lv_at hl 5 rfl) dL_law_560 dL_law_561 dL_law_563 dL_law_564 dL_law_565 ?_
  refine gl_ci (L := 1) (is := [0, 1]) (As := [.int (xs (i + 1)), .int (xs (i + 2))]) (rest := []) C0 hZ.re rfl rfl (kX8_route l  rfl e2) mL8_route vL8_route rfl rfl hl.1 (Nat.zero_le _) ⟨Nat.le_of_ble_eq_true rfl, Nat.le_of_ble_eq_true rfl⟩ dL_law_566 ⟨Nat.le_trans (by omega : cells + 2 ≤ cells + 2) hc.1, Nat.le_trans (by omega : slots + 12 ≤ slots + 12) hc.2⟩ (fun H1 locs1 hZ1 => ?_)
  exact gl_tail C0 hZ1.er hl hth (fun h => by rw [← hr (gk0 (Nat.le_trans hk (by omega)) h)]; exact hf1 (gk0 (Nat.le_trans hk (by omega)) h)) ⟨Nat.le_of_ble_eq_true rfl, Nat.le_of_ble_eq_true rfl⟩ ⟨Nat.le_trans (by omega : cells + 2 ≤ cells + 2) hc.1, Nat.le_trans (by omega : slots + 12 ≤ slots + 12) hc.2⟩ dL_law_569 dL_law_571 dL_law_572 dL_law_575 dL_law_577 dL_law_582 dL_law_584 dL_law_587 dL_law_588 dL_law_589 dL_law_590 dL_law_592 dL_law_593 dL_law_594 dL_law_599 (by decide) (fun H2 locs2 ls2 hZ2 hl2 => W.widen (by omega) (by omega) (kk σ1 τ1 f1 H2 locs2 ls2 hR1 hZ2 hl2))
set_option maxHeartbeats 4000000 in
theorem gc_far (X : gFx p l s m c args sb L xs) (hi : i + 6 ≤ L) (hRR : RR σ τ) (hZ : gZ V (gtL V cL) (fun q => s.heap.size ≤ q) (gwL V a0 a1 cL o σ τ f) s H locs) (hl : lv_has ls 7 (gLs sb a0 a1 o i)) (hc : cells + 2 ≤ 601024 ∧ slots + 12 ≤ 7293034) (kk : gNx p l e s m args below meth c Q V cL o a0 a1 sb i (cells + 2) (slots + 12)) : W p l e room_1 s m args below meth c H locs cells slots Q (F0 m 602 ls []) := by
  obtain ⟨hfl, C0, hN, hX, hbl, hL⟩ := X
  have hx := C0.1
  have hb := C0.2.1
  have hbA : ¬ (fun q => s.heap.size ≤ q) sb := Nat.not_le.mpr hbl
  obtain ⟨k, r, σ1, b, τ1, e1, e2, hR1, hth, hk, hr⟩ := reN_far hRR (xs (i + 1)) (xs (i + 2))
  refine lv_aload_n hx hb dL_law_602 rfl (lv_at hl 1 rfl) ?_
  refine gl_arg (j := 1) hx hb hX hbl hbA hZ.2.2.2.1 rfl (by omega) hL (lv_at hl 0 rfl) (lv_at hl 4 rfl) dL_law_603 dL_law_604 dL_law_606 dL_law_607 dL_law_608 ?_
  refine gl_arg (j := 2) hx hb hX hbl hbA hZ.2.2.2.1 rfl (by omega) hL (lv_at hl 0 rfl) (lv_at hl 4 rfl) dL_law_609 dL_law_610 dL_law_612 dL_law_613 dL_law_614 ?_
  refine lv_aload_n hx hb dL_law_615 rfl (lv_at hl 3 rfl) ?_
  refine gl_w (code := (nI k)) (As := [.ref (a0 0), .int (xs (i + 1)), .int (xs (i + 2)), .ref o]) (rest := []) C0 hN hZ (gW_far l hfl e1 (gk1 hk)) wL_far rfl rfl hl.1 (Nat.zero_le _) ⟨Nat.le_of_ble_eq_true rfl, Nat.le_of_ble_eq_true rfl⟩ dL_law_616 ⟨Nat.le_trans (by omega : cells + 2 ≤ cells + 2) hc.1, Nat.le_trans (by omega : slots + 12 ≤ slots + 12) hc.2⟩ (fun f1 H1 locs1 hf1 hZ1 => ?_)
  refine lv_istore (lv' := [(5, .int (nI k)), (0, .ref sb), (1, .ref (a0 0)), (2, .ref (a1 0)), (3, .ref o), (4, .int (nI i))]) hx hb dL_law_619 hl (by decide) rfl (fun ls hl => ?_)
  replace hZ := hZ1
  clear hZ1
  refine lv_aload_n hx hb dL_law_621 rfl (lv_at hl 3 rfl) ?_
  refine gl_arg (j := 1) hx hb hX hbl hbA hZ.2.2.2.1 rfl (by omega) hL (lv_at hl 1 rfl) (lv_at hl 5 rfl) dL_law_622 dL_law_623 dL_law_625 dL_law_626 dL_law_627 ?_
  refine gl_arg (j := 2) hx hb hX hbl hbA hZ.2.2.2.1 rfl (by omega) hL (lv_at hl 1 rfl) (lv_at hl 5 rfl) dL_law_628 dL_law_629 dL_law_631 dL_law_632 dL_law_633 ?_
  refine gl_ci (L := 1) (is := [0, 1]) (As := [.int (xs (i + 1)), .int (xs (i + 2))]) (rest := []) C0 hZ.re rfl rfl (kX8_far l  rfl e2) mL8_far vL8_far rfl rfl hl.1 (Nat.zero_le _) ⟨Nat.le_of_ble_eq_true rfl, Nat.le_of_ble_eq_true rfl⟩ dL_law_634 ⟨Nat.le_trans (by omega : cells + 2 ≤ cells + 2) hc.1, Nat.le_trans (by omega : slots + 12 ≤ slots + 12) hc.2⟩ (fun H1 locs1 hZ1 => ?_)
  exact gl_tail C0 hZ1.er hl hth (fun h => by rw [← hr (gk0 (Nat.le_trans hk (by omega)) h)]; exact hf1 (gk0 (Nat.le_trans hk (by omega)) h)) ⟨Nat.le_of_ble_eq_true rfl, Nat.le_of_ble_eq_true rfl⟩ ⟨Nat.le_trans (by omega : cells + 2 ≤ cells + 2) hc.1, Nat.le_trans (by omega : slots + 12 ≤ slots + 12) hc.2⟩ dL_law_637 dL_law_639 dL_law_640 dL_law_643 dL_law_645 dL_law_650 dL_law_652 dL_law_655 dL_law_656 dL_law_657 dL_law_658 dL_law_660 dL_law_661 dL_law_662 dL_law_667 (by decide) (fun H2 locs2 ls2 hZ2 hl2 => W.widen (by omega) (by omega) (kk σ1 τ1 f1 H2 locs2 ls2 hR1 hZ2 hl2))
set_option maxHeartbeats 4000000 in
theorem gc_watch (X : gFx p l s m c args sb L xs) (hi : i + 6 ≤ L) (hRR : RR σ τ) (hZ : gZ V (gtL V cL) (fun q => s.heap.size ≤ q) (gwL V a0 a1 cL o σ τ f) s H locs) (hl : lv_has ls 7 (gLs sb a0 a1 o i)) (hc : cells + 2 ≤ 601024 ∧ slots + 12 ≤ 7293034) (kk : gNx p l e s m args below meth c Q V cL o a0 a1 sb i (cells + 2) (slots + 12)) : W p l e room_1 s m args below meth c H locs cells slots Q (F0 m 670 ls []) := by
  obtain ⟨hfl, C0, hN, hX, hbl, hL⟩ := X
  have hx := C0.1
  have hb := C0.2.1
  have hbA : ¬ (fun q => s.heap.size ≤ q) sb := Nat.not_le.mpr hbl
  obtain ⟨r, σ1, τ1, e1, e2, hR1⟩ := rel_watch hRR (xs (i + 1)) (xs (i + 2))
  refine lv_aload_n hx hb dL_law_670 rfl (lv_at hl 1 rfl) ?_
  refine gl_arg (j := 1) hx hb hX hbl hbA hZ.2.2.2.1 rfl (by omega) hL (lv_at hl 0 rfl) (lv_at hl 4 rfl) dL_law_671 dL_law_672 dL_law_674 dL_law_675 dL_law_676 ?_
  refine gl_arg (j := 2) hx hb hX hbl hbA hZ.2.2.2.1 rfl (by omega) hL (lv_at hl 0 rfl) (lv_at hl 4 rfl) dL_law_677 dL_law_678 dL_law_680 dL_law_681 dL_law_682 ?_
  refine gl_ci (L := 0) (is := [0]) (As := [.int (xs (i + 1)), .int (xs (i + 2))]) (rest := []) C0 hZ rfl rfl (kX7_watch l  rfl e1) mL7_watch vL7_watch rfl rfl hl.1 (Nat.zero_le _) ⟨Nat.le_of_ble_eq_true rfl, Nat.le_of_ble_eq_true rfl⟩ dL_law_683 ⟨Nat.le_trans (by omega : cells ≤ cells + 2) hc.1, Nat.le_trans (by omega : slots ≤ slots + 12) hc.2⟩ (fun H1 locs1 hZ1 => ?_)
  replace hZ := hZ1
  clear hZ1
  refine lv_aload_n hx hb dL_law_686 rfl (lv_at hl 2 rfl) ?_
  refine gl_arg (j := 1) hx hb hX hbl hbA hZ.2.2.2.1 rfl (by omega) hL (lv_at hl 0 rfl) (lv_at hl 4 rfl) dL_law_687 dL_law_688 dL_law_690 dL_law_691 dL_law_692 ?_
  refine gl_arg (j := 2) hx hb hX hbl hbA hZ.2.2.2.1 rfl (by omega) hL (lv_at hl 0 rfl) (lv_at hl 4 rfl) dL_law_693 dL_law_694 dL_law_696 dL_law_697 dL_law_698 ?_
  refine gl_ci (L := 1) (is := [0, 1]) (As := [.int (xs (i + 1)), .int (xs (i + 2))]) (rest := [.int r]) C0 hZ.re rfl rfl (kX8_watch l  rfl e2) mL8_watch vL8_watch rfl rfl hl.1 (Nat.le_of_ble_eq_true rfl) ⟨Nat.le_of_ble_eq_true rfl, Nat.le_of_ble_eq_true rfl⟩ dL_law_699 ⟨Nat.le_trans (by omega : cells ≤ cells + 2) hc.1, Nat.le_trans (by omega : slots ≤ slots + 12) hc.2⟩ (fun H1 locs1 hZ1 => ?_)
  exact lv_icmp_eq (tgt := 1956) hx hb dL_law_702 (by decide) (fun _ => W.widen (by omega) (by omega) (kk σ1 τ1 f H1 locs1 ls hR1 hZ1.er hl)) (fun h => absurd rfl h)
set_option maxHeartbeats 4000000 in
theorem gc_open (X : gFx p l s m c args sb L xs) (hi : i + 6 ≤ L) (hRR : RR σ τ) (hZ : gZ V (gtL V cL) (fun q => s.heap.size ≤ q) (gwL V a0 a1 cL o σ τ f) s H locs) (hl : lv_has ls 7 (gLs sb a0 a1 o i)) (hc : cells + 2 ≤ 601024 ∧ slots + 12 ≤ 7293034) (kk : gNx p l e s m args below meth c Q V cL o a0 a1 sb i (cells + 2) (slots + 12)) : W p l e room_1 s m args below meth c H locs cells slots Q (F0 m 707 ls []) := by
  obtain ⟨hfl, C0, hN, hX, hbl, hL⟩ := X
  have hx := C0.1
  have hb := C0.2.1
  have hbA : ¬ (fun q => s.heap.size ≤ q) sb := Nat.not_le.mpr hbl
  obtain ⟨r, σ1, τ1, e1, e2, hR1⟩ := rel_open hRR (if xs (i + 1) = 0 then 0 else 1)
  refine lv_aload_n hx hb dL_law_707 rfl (lv_at hl 1 rfl) ?_
  refine gl_arg (j := 1) hx hb hX hbl hbA hZ.2.2.2.1 rfl (by omega) hL (lv_at hl 0 rfl) (lv_at hl 4 rfl) dL_law_708 dL_law_709 dL_law_711 dL_law_712 dL_law_713 ?_
  refine gl_bool hx hb dL_law_714 dL_law_717 dL_law_718 dL_law_721 ?_
  refine gl_ci (L := 0) (is := [0]) (As := [.int (if xs (i + 1) = 0 then 0 else 1)]) (rest := []) C0 hZ rfl rfl (kX7_open l  rfl e1) mL7_open vL7_open rfl rfl hl.1 (Nat.zero_le _) ⟨Nat.le_of_ble_eq_true rfl, Nat.le_of_ble_eq_true rfl⟩ dL_law_722 ⟨Nat.le_trans (by omega : cells ≤ cells + 2) hc.1, Nat.le_trans (by omega : slots ≤ slots + 12) hc.2⟩ (fun H1 locs1 hZ1 => ?_)
  replace hZ := hZ1
  clear hZ1
  refine lv_aload_n hx hb dL_law_725 rfl (lv_at hl 2 rfl) ?_
  refine gl_arg (j := 1) hx hb hX hbl hbA hZ.2.2.2.1 rfl (by omega) hL (lv_at hl 0 rfl) (lv_at hl 4 rfl) dL_law_726 dL_law_727 dL_law_729 dL_law_730 dL_law_731 ?_
  refine gl_bool hx hb dL_law_732 dL_law_735 dL_law_736 dL_law_739 ?_
  refine gl_ci (L := 1) (is := [0, 1]) (As := [.int (if xs (i + 1) = 0 then 0 else 1)]) (rest := [.int r]) C0 hZ.re rfl rfl (kX8_open l  rfl e2) mL8_open vL8_open rfl rfl hl.1 (Nat.le_of_ble_eq_true rfl) ⟨Nat.le_of_ble_eq_true rfl, Nat.le_of_ble_eq_true rfl⟩ dL_law_740 ⟨Nat.le_trans (by omega : cells ≤ cells + 2) hc.1, Nat.le_trans (by omega : slots ≤ slots + 12) hc.2⟩ (fun H1 locs1 hZ1 => ?_)
  exact lv_icmp_eq (tgt := 1956) hx hb dL_law_743 (by decide) (fun _ => W.widen (by omega) (by omega) (kk σ1 τ1 f H1 locs1 ls hR1 hZ1.er hl)) (fun h => absurd rfl h)
set_option maxHeartbeats 4000000 in
theorem gc_stops (X : gFx p l s m c args sb L xs) (hi : i + 6 ≤ L) (hRR : RR σ τ) (hZ : gZ V (gtL V cL) (fun q => s.heap.size ≤ q) (gwL V a0 a1 cL o σ τ f) s H locs) (hl : lv_has ls 7 (gLs sb a0 a1 o i)) (hc : cells + 2 ≤ 601024 ∧ slots + 12 ≤ 7293034) (kk : gNx p l e s m args below meth c Q V cL o a0 a1 sb i (cells + 2) (slots + 12)) : W p l e room_1 s m args below meth c H locs cells slots Q (F0 m 748 ls []) := by
  obtain ⟨hfl, C0, hN, hX, hbl, hL⟩ := X
  have hx := C0.1
  have hb := C0.2.1
  have hbA : ¬ (fun q => s.heap.size ≤ q) sb := Nat.not_le.mpr hbl
  obtain ⟨r, σ1, τ1, e1, e2, hR1⟩ := rel_stops hRR (xs (i + 1))
  refine lv_aload_n hx hb dL_law_748 rfl (lv_at hl 1 rfl) ?_
  refine gl_arg (j := 1) hx hb hX hbl hbA hZ.2.2.2.1 rfl (by omega) hL (lv_at hl 0 rfl) (lv_at hl 4 rfl) dL_law_749 dL_law_750 dL_law_752 dL_law_753 dL_law_754 ?_
  refine gl_ci (L := 0) (is := [0]) (As := [.int (xs (i + 1))]) (rest := []) C0 hZ rfl rfl (kX7_stops l  rfl e1) mL7_stops vL7_stops rfl rfl hl.1 (Nat.zero_le _) ⟨Nat.le_of_ble_eq_true rfl, Nat.le_of_ble_eq_true rfl⟩ dL_law_755 ⟨Nat.le_trans (by omega : cells ≤ cells + 2) hc.1, Nat.le_trans (by omega : slots ≤ slots + 12) hc.2⟩ (fun H1 locs1 hZ1 => ?_)
  replace hZ := hZ1
  clear hZ1
  refine lv_aload_n hx hb dL_law_758 rfl (lv_at hl 2 rfl) ?_
  refine gl_arg (j := 1) hx hb hX hbl hbA hZ.2.2.2.1 rfl (by omega) hL (lv_at hl 0 rfl) (lv_at hl 4 rfl) dL_law_759 dL_law_760 dL_law_762 dL_law_763 dL_law_764 ?_
  refine gl_ci (L := 1) (is := [0, 1]) (As := [.int (xs (i + 1))]) (rest := [.int r]) C0 hZ.re rfl rfl (kX8_stops l  rfl e2) mL8_stops vL8_stops rfl rfl hl.1 (Nat.le_of_ble_eq_true rfl) ⟨Nat.le_of_ble_eq_true rfl, Nat.le_of_ble_eq_true rfl⟩ dL_law_765 ⟨Nat.le_trans (by omega : cells ≤ cells + 2) hc.1, Nat.le_trans (by omega : slots ≤ slots + 12) hc.2⟩ (fun H1 locs1 hZ1 => ?_)
  exact lv_icmp_eq (tgt := 1956) hx hb dL_law_768 (by decide) (fun _ => W.widen (by omega) (by omega) (kk σ1 τ1 f H1 locs1 ls hR1 hZ1.er hl)) (fun h => absurd rfl h)
set_option maxHeartbeats 4000000 in
theorem gc_mirror (X : gFx p l s m c args sb L xs) (hi : i + 6 ≤ L) (hRR : RR σ τ) (hZ : gZ V (gtL V cL) (fun q => s.heap.size ≤ q) (gwL V a0 a1 cL o σ τ f) s H locs) (hl : lv_has ls 7 (gLs sb a0 a1 o i)) (hc : cells + 2 ≤ 601024 ∧ slots + 12 ≤ 7293034) (kk : gNx p l e s m args below meth c Q V cL o a0 a1 sb i (cells + 2) (slots + 12)) : W p l e room_1 s m args below meth c H locs cells slots Q (F0 m 773 ls []) := by
  obtain ⟨hfl, C0, hN, hX, hbl, hL⟩ := X
  have hx := C0.1
  have hb := C0.2.1
  have hbA : ¬ (fun q => s.heap.size ≤ q) sb := Nat.not_le.mpr hbl
  obtain ⟨r, σ1, τ1, e1, e2, hR1⟩ := rel_mirror hRR (xs (i + 1)) (xs (i + 2))
  refine lv_aload_n hx hb dL_law_773 rfl (lv_at hl 1 rfl) ?_
  refine gl_arg (j := 1) hx hb hX hbl hbA hZ.2.2.2.1 rfl (by omega) hL (lv_at hl 0 rfl) (lv_at hl 4 rfl) dL_law_774 dL_law_775 dL_law_777 dL_law_778 dL_law_779 ?_
  refine gl_arg (j := 2) hx hb hX hbl hbA hZ.2.2.2.1 rfl (by omega) hL (lv_at hl 0 rfl) (lv_at hl 4 rfl) dL_law_780 dL_law_781 dL_law_783 dL_law_784 dL_law_785 ?_
  refine gl_ci (L := 0) (is := [0]) (As := [.int (xs (i + 1)), .int (xs (i + 2))]) (rest := []) C0 hZ rfl rfl (kX7_mirror l  rfl e1) mL7_mirror vL7_mirror rfl rfl hl.1 (Nat.zero_le _) ⟨Nat.le_of_ble_eq_true rfl, Nat.le_of_ble_eq_true rfl⟩ dL_law_786 ⟨Nat.le_trans (by omega : cells ≤ cells + 2) hc.1, Nat.le_trans (by omega : slots ≤ slots + 12) hc.2⟩ (fun H1 locs1 hZ1 => ?_)
  replace hZ := hZ1
  clear hZ1
  refine lv_aload_n hx hb dL_law_789 rfl (lv_at hl 2 rfl) ?_
  refine gl_arg (j := 1) hx hb hX hbl hbA hZ.2.2.2.1 rfl (by omega) hL (lv_at hl 0 rfl) (lv_at hl 4 rfl) dL_law_790 dL_law_791 dL_law_793 dL_law_794 dL_law_795 ?_
  refine gl_arg (j := 2) hx hb hX hbl hbA hZ.2.2.2.1 rfl (by omega) hL (lv_at hl 0 rfl) (lv_at hl 4 rfl) dL_law_796 dL_law_797 dL_law_799 dL_law_800 dL_law_801 ?_
  refine gl_ci (L := 1) (is := [0, 1]) (As := [.int (xs (i + 1)), .int (xs (i + 2))]) (rest := [.int r]) C0 hZ.re rfl rfl (kX8_mirror l  rfl e2) mL8_mirror vL8_mirror rfl rfl hl.1 (Nat.le_of_ble_eq_true rfl) ⟨Nat.le_of_ble_eq_true rfl, Nat.le_of_ble_eq_true rfl⟩ dL_law_802 ⟨Nat.le_trans (by omega : cells ≤ cells + 2) hc.1, Nat.le_trans (by omega : slots ≤ slots + 12) hc.2⟩ (fun H1 locs1 hZ1 => ?_)
  exact lv_icmp_eq (tgt := 1956) hx hb dL_law_805 (by decide) (fun _ => W.widen (by omega) (by omega) (kk σ1 τ1 f H1 locs1 ls hR1 hZ1.er hl)) (fun h => absurd rfl h)
end GC
