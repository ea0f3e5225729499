/-! the law's cases: calls of both sides in the law's world -/
abbrev gwL (V : zV) (a0 a1 : Nat → Nat) (cL : ClassId) (o : Nat) (σ τ : zS) (f : Nat → Int64) : va_W := zw 0 (zat V a0) σ ++ (lO cL o f ++ zw 1 (zat V a1) τ)
section GL
variable {p : Program} {l : Launch} {e : Env} {R : Room} {s : State} {m : MethodId} {args : Array Value} {below : List Frame} {meth : Method} {c : Code} {H : Heap} {locs : List Loc} {cells slots : Nat} {Q : State → Prop} {pc nL : Nat} {ls : Array Slot} {rest : List Value} {cc : ByteArray} {own : String} {V : zV} {A : Nat → Prop} {σ τ : zS} {cL : ClassId} {o : Nat} {f0 f1 : Nat → Int64} {a0 a1 : Nat → Nat} {tys : List (ClassId × FieldType)}
theorem gZ.re {a b d : va_W} (h : gZ V tys A (a ++ (b ++ d)) s H locs) : gZ V tys A (d ++ (a ++ b)) s H locs := by
  rw [← List.append_assoc] at h
  exact h.sw
theorem gZ.er {a b d : va_W} (h : gZ V tys A (d ++ (a ++ b)) s H locs) : gZ V tys A (a ++ (b ++ d)) s H locs := by
  have h := h.sw
  rw [List.append_assoc] at h
  exact h
theorem gl_z {L : Nat} {wr : va_W} {is : List Nat} (hZ : gZ V tys A (zw L (zat V a0) σ ++ wr) s H locs) (ht : is.filterMap (fun i => tys[i]?) = ztys L (zat V a0)) : zZ L (zat V a0) A σ s H locs := by
  obtain ⟨hP, hK, hD, hS, hA, hE⟩ := hZ
  exact ⟨gP_l hP, va_K.sub hK is ht, gD_l hD, hS, hA, hE⟩
theorem gl_ci {L ci : Nat} {wr : va_W} {is : List Nat} {y : MethodName} {b : ByteArray} {nY n f k idx : Nat} {ret : Option FieldType} {tt : Int32 × zS} {As st0 : List Value} (C0 : CallFix p m c cc nL s args zT own) (hZ : gZ V tys A (zw L (zat V a0) σ ++ wr) s H locs) (ht : is.filterMap (fun i => tys[i]?) = ztys L (zat V a0)) (hq : kd L 0 = ci) (hM : zMi l y b nY ret f k L (zat V a0) σ tt (.ref (a0 0) :: As)) (hw : zwM own idx y b nY ret n) (hv : zwV ci y) (hst : st0 = As.reverse ++ .ref (a0 0) :: rest) (hn : As.length = n) (hsz : ls.size = nL) (hrest : (rest.map fun v => v.category).sum ≤ 8) (hR : f + 1 ≤ R.frames ∧ 8 + (nY + 11) + k ≤ R.locals) (hdg : decode cc pc = .ok (.invokevirtual idx, 3)) (hf : cells ≤ R.cells ∧ slots ≤ R.slots)
    (kk : ∀ (H1 : Heap) (locs1 : List Loc), gZ V tys A (zw L (zat V a0) tt.2 ++ wr) s H1 locs1 → W p l e R s m args below meth c H1 locs1 cells slots Q (F0 m (pc + 3) ls (.int tt.1 :: rest))) : W p l e R s m args below meth c H locs cells slots Q (F0 m pc ls st0) := by
  have hz := gl_z hZ ht
  have hF := zfree hz
  refine va_calli (z_runV (q := 0) C0 hz (hM H.size) hw hv hq hst hn hsz hrest hR hdg hf) hz.2.2.2.1 (fun q _ h => hF q h) hF (fun r u t H1 locs1 ht hvm hw hB _ hk hS => ?_)
  subst hw
  have hB1 := hB.1
  rw [ht] at hB1
  exact kk H1 locs1 (hZ.af hk hB1 (by rw [zw_fst, zw_fst]) hS)
theorem gl_cv {L ci : Nat} {wr : va_W} {is : List Nat} {y : MethodName} {b : ByteArray} {nY n f k idx : Nat} {tt : Int32 × zS} {As st0 : List Value} (C0 : CallFix p m c cc nL s args zT own) (hZ : gZ V tys A (zw L (zat V a0) σ ++ wr) s H locs) (ht : is.filterMap (fun i => tys[i]?) = ztys L (zat V a0)) (hq : kd L 0 = ci) (hM : zMv l y b nY f k L (zat V a0) σ tt (.ref (a0 0) :: As)) (hw : zwM own idx y b nY none n) (hv : zwV ci y) (hst : st0 = As.reverse ++ .ref (a0 0) :: rest) (hn : As.length = n) (hsz : ls.size = nL) (hrest : (rest.map fun v => v.category).sum ≤ 8) (hR : f + 1 ≤ R.frames ∧ 8 + (nY + 11) + k ≤ R.locals) (hdg : decode cc pc = .ok (.invokevirtual idx, 3)) (hf : cells ≤ R.cells ∧ slots ≤ R.slots)
    (kk : ∀ (H1 : Heap) (locs1 : List Loc), gZ V tys A (zw L (zat V a0) tt.2 ++ wr) s H1 locs1 → W p l e R s m args below meth c H1 locs1 cells slots Q (F0 m (pc + 3) ls rest)) : W p l e R s m args below meth c H locs cells slots Q (F0 m pc ls st0) := by
  have hz := gl_z hZ ht
  have hF := zfree hz
  refine va_callv (z_runV (q := 0) C0 hz (hM H.size) hw hv hq hst hn hsz hrest hR hdg hf) hz.2.2.2.1 (fun q _ h => hF q h) hF (fun u t H1 locs1 ht hvm hw hB _ hk hS => ?_)
  have hB1 := hB.1
  rw [ht] at hB1
  exact kk H1 locs1 (hZ.af hk hB1 (by rw [zw_fst, zw_fst]) hS)
theorem gqP_blind {av : List Value} {sz : Nat} : FrameBlind (va_Pc av (gqP V cL o σ f0 sz)) := by
  intro a U g mk q
  obtain ⟨q0, ⟨q1, qP, qK, qD, qE⟩, qN⟩ := q
  exact ⟨q0, ⟨q1, qP, va_K.moved (u := U) (U := U.calling g mk a) (Vm.Alike.refl U.vm) qK, qD, qE.same rfl⟩, va_Nc.moved (u := U) (U := U.calling g mk a) (Vm.Alike.refl U.vm) qN⟩
/-- a wrapper's call -/
theorem gl_w {y : MethodName} {b : ByteArray} {nY n f k idx mc ms : Nat} {hh : List (Nat × Nat × Nat × Nat)} {tt : zT3} {code : Int32} {As st0 : List Value} (C0 : CallFix p m c cc nL s args zT RL) (hN : gNc s) (hZ : gZ V (gtL V cL) A (gwL V a0 a1 cL o σ τ f0) s H locs) (hM : gWq l y b nY f k mc ms hh (zat V a0) cL o σ f0 tt code As) (hw : gwW idx y b nY hh n) (hst : st0 = As.reverse ++ rest) (hn : As.length = n) (hsz : ls.size = nL) (hrest : (rest.map fun v => v.category).sum ≤ 8) (hR : f + 1 ≤ R.frames ∧ 8 + (nY + 11) + k ≤ R.locals) (hdg : decode cc pc = .ok (.invokestatic idx, 3)) (hf : cells + mc ≤ R.cells ∧ slots + ms ≤ R.slots)
    (kk : ∀ (f1 : Nat → Int64) (H1 : Heap) (locs1 : List Loc), (tt.1 = 0 → f1 0 = tt.2.1.toInt64) → gZ V (gtL V cL) A (gwL V a0 a1 cL o tt.2.2 τ f1) s H1 locs1 → W p l e R s m args below meth c H1 locs1 (cells + mc) (slots + ms) Q (F0 m (pc + 3) ls (.int code :: rest))) : W p l e R s m args below meth c H locs cells slots Q (F0 m pc ls st0) := by
  have hts := C0.2.2.2.2
  have hZ2 : gZ V (gtL V cL) A ((zw 0 (zat V a0) σ ++ lO cL o f0) ++ zw 1 (zat V a1) τ) s H locs := by rw [List.append_assoc]; exact hZ
  obtain ⟨hl, hst9, hi, hc, h1, h2, h3⟩ := hw
  obtain ⟨hP, hK, hD, hS, hA, hE⟩ := id hZ2
  have hDl := gD_l hD
  have hF : ∀ q, va_A (zw 0 (zat V a0) σ ++ lO cL o f0) H.size q → A q := by
    intro q hq
    rcases hq with ⟨k, e, hq⟩ | hq
    · exact hDl.2 k (q, e) hq
    · exact hA q (Nat.le_trans hS.1 hq)
  have hp : PreS s H (va_Pc As (gqP (zat V a0) cL o σ f0 H.size)) As := ⟨gqP_blind, fun U hU hW => ⟨rfl, ⟨by rw [hU], by rw [hU]; exact gP_l hP, va_K.moved hW.alike (va_K.sub hK [0, 2] rfl), hDl.weaken (fun _ _ _ _ => trivial), by rw [hU]; exact ((zEv.kept hE hS.2.1).narrow hF).warm hW⟩, va_Nc.moved hW.alike hN⟩⟩
  have pay : ∀ w ∈ Cond.codeWith y b nY (some .int) hh :: zT, ∀ (a' : Array Value) (U : State), s.WarmedH U.vm → w.before a' U = true := by
    intro w hw
    rcases List.mem_cons.mp hw with h | h
    · rw [h]; exact zpay hts _ hc
    · exact zpay hts _ h
  refine va_calli (vx_runSW (hh := hh) (bytes := b) (maxL := nY) (ret := some .int) C0 (hM H.size) ⟨⟨rfl, rfl, hR.1, hR.2, pay, List.mem_cons_self⟩, hts _ hc, hts _ hi, ⟨h1, h2⟩, fun sig h => by rw [h] at h3; exact (Option.some.inj h3).symm, hts _ hl, hts _ hst9⟩ hp rfl hn hsz hst (lv_room hrest) hdg hf) hS (fun q _ h => hF q h) hF (fun r u t H1 locs1 ht hvm hpost hB _ hk hS1 => ?_)
  obtain ⟨hr, hf1⟩ := hpost
  subst hr
  have hB1 := hB.1
  rw [ht] at hB1
  have h9 := hZ2.af hk hB1 (by rw [List.map_append, List.map_append, zw_fst, zw_fst]; rfl) hS1
  rw [List.append_assoc] at h9
  exact kk u H1 locs1 hf1 h9
/-- an int of the script -/
theorem gl_arg (hx : p.tables.exec = Jvm.exec) (hb : c.code = cc) {sb L i j : Nat} {xs : Nat → Int32} {n : Int} (hX : va_X sb L xs s s.heap) (hbl : sb < s.heap.size) (hbA : ¬ A sb) (hS : va_S A s.heap H locs) (hv : Int32.ofInt n = nI j) (hj : i + j < L) (hL : L ≤ 3072) (h0 : ls[0]? = some (.val (.ref sb))) (h4 : ls[4]? = some (.val (.int (nI i)))) (d0 : decode cc pc = .ok (.aload_n 0, 1)) (d1 : decode cc (pc + 1) = .ok (.iload 4, 2)) (d2 : decode cc (pc + 3) = .ok (.iconst n, 1)) (d3 : decode cc (pc + 4) = .ok (.iadd, 1)) (d4 : decode cc (pc + 5) = .ok (.iaload, 1))
    (kk : W p l e R s m args below meth c H locs cells slots Q (F0 m (pc + 6) ls (.int (xs (i + j)) :: rest))) : W p l e R s m args below meth c H locs cells slots Q (F0 m pc ls rest) := by
  refine lv_aload_n hx hb d0 rfl h0 ?_
  refine lv_iload hx hb d1 h4 ?_
  refine lv_iconst (v := nI j) hx hb d2 hv ?_
  refine lv_iadd hx hb d3 ?_
  rw [nI_add i j]
  refine va_sld hx hb hX hbl hbA hS (vp_in_nI hj (by omega)) d4 ?_
  rw [nI_clamp (by omega)]
  exact kk
theorem gl_bool (hx : p.tables.exec = Jvm.exec) (hb : c.code = cc) {x : Int32} (d0 : decode cc pc = .ok (.ifCond .eq 7, 3)) (d1 : decode cc (pc + 3) = .ok (.iconst 1, 1)) (d2 : decode cc (pc + 4) = .ok (.goto 4, 3)) (d3 : decode cc (pc + 7) = .ok (.iconst 0, 1))
    (kk : W p l e R s m args below meth c H locs cells slots Q (F0 m (pc + 8) ls (.int (if x = 0 then 0 else 1) :: rest))) : W p l e R s m args below meth c H locs cells slots Q (F0 m pc ls (.int x :: rest)) := by
  refine lv_if_eq (tgt := pc + 7) hx hb d0 (by omega) (fun h => ?_) (fun h => ?_)
  · refine lv_iconst (v := 0) hx hb d3 (by decide) ?_
    rw [if_pos h] at kk
    exact kk
  · refine lv_iconst (v := 1) hx hb d1 (by decide) ?_
    refine lv_goto (tgt := pc + 8) hx hb d2 (by omega) ?_
    rw [if_neg h] at kk
    exact kk
/-- behind both calls: the code, then what stands in 'out' -/
theorem gl_tail {sb i : Nat} {x5 x6 : Int32} {off : Int} {tgt : Nat} (C0 : CallFix p m c cc 7 s args zT RL) (hZ : gZ V (gtL V cL) A (gwL V a0 a1 cL o σ τ f0) s H locs) (hl : lv_has ls 7 [(5, .int x5), (0, .ref sb), (1, .ref (a0 0)), (2, .ref (a1 0)), (3, .ref o), (4, .int (nI i))]) (hth : τ 0 2 = x5) (hf : x5 = 0 → f0 0 = x6.toInt64) (hR : 1 ≤ R.frames ∧ 20 ≤ R.locals) (hf9 : cells ≤ R.cells ∧ slots ≤ R.slots)
    (d0 : decode cc pc = .ok (.istore 6, 2)) (d2 : decode cc (pc + 2) = .ok (.aload_n 2, 1)) (d3 : decode cc (pc + 3) = .ok (.invokevirtual 91, 3)) (d6 : decode cc (pc + 6) = .ok (.iload 5, 2)) (d8 : decode cc (pc + 8) = .ok (.if_icmp .eq 5, 3)) (d13 : decode cc (pc + 13) = .ok (.iload 5, 2)) (d15 : decode cc (pc + 15) = .ok (.ifCond .ne 15, 3)) (d18 : decode cc (pc + 18) = .ok (.aload_n 3, 1)) (d19 : decode cc (pc + 19) = .ok (.iconst 0, 1)) (d20 : decode cc (pc + 20) = .ok (.laload, 1)) (d21 : decode cc (pc + 21) = .ok (.iload 6, 2)) (d23 : decode cc (pc + 23) = .ok (.i2l, 1)) (d24 : decode cc (pc + 24) = .ok (.lcmp, 1)) (d25 : decode cc (pc + 25) = .ok (.ifCond .eq 5, 3)) (d30 : decode cc (pc + 30) = .ok (.goto off, 3)) (ht : ((pc + 30 : Nat) : Int) + off = (tgt : Int))
    (kk : ∀ (H1 : Heap) (locs1 : List Loc) (ls1 : Array Slot), gZ V (gtL V cL) A (gwL V a0 a1 cL o σ τ f0) s H1 locs1 → lv_has ls1 7 [(0, .ref sb), (1, .ref (a0 0)), (2, .ref (a1 0)), (3, .ref o), (4, .int (nI i))] → W p l e R s m args below meth c H1 locs1 cells slots Q (F0 m tgt ls1 [])) : W p l e R s m args below meth c H locs cells slots Q (F0 m pc ls [.int x6]) := by
  have hx := C0.1
  have hb := C0.2.1
  refine lv_istore (lv' := [(6, .int x6), (5, .int x5), (0, .ref sb), (1, .ref (a0 0)), (2, .ref (a1 0)), (3, .ref o), (4, .int (nI i))]) hx hb d0 hl (by decide) rfl (fun ls hl => ?_)
  refine lv_aload_n hx hb d2 rfl (lv_at hl 4 rfl) ?_
  refine gl_ci (L := 1) (is := [0, 1]) (As := []) (rest := []) C0 hZ.re rfl rfl (kX8_thrown l rfl thr_eq) mL8_thrown vL8_thrown rfl rfl hl.1 (Nat.zero_le _) hR d3 hf9 (fun H1 locs1 hZ1 => ?_)
  have hZ := hZ1.er
  clear hZ1
  refine lv_iload hx hb d6 (lv_at hl 1 rfl) ?_
  refine lv_icmp_eq (tgt := pc + 13) hx hb d8 (by omega) (fun _ => ?_) (fun h => absurd hth h)
  refine lv_iload hx hb d13 (lv_at hl 1 rfl) ?_
  have J : W p l e R s m args below meth c H1 locs1 cells slots Q (F0 m (pc + 30) ls []) := lv_goto hx hb d30 ht (kk H1 locs1 ls hZ (lv_sub hl [2, 3, 4, 5, 6] rfl))
  refine lv_if_ne (tgt := pc + 30) hx hb d15 (by omega) (fun _ => J) (fun h0 => ?_)
  refine lv_aload_n hx hb d18 rfl (lv_at hl 5 rfl) ?_
  refine lv_iconst (v := 0) hx hb d19 (by decide) ?_
  refine va_lald hx hb hZ.2.1 hZ.1 82 2 (lO_at zw_len) rfl (by unfold vp_in; decide) d20 ?_
  refine lv_iload hx hb d21 (lv_at hl 0 rfl) ?_
  refine lv_i2l hx hb d23 (v := x6.toInt64) rfl ?_
  refine W.lcmp hx hb d24 ?_
  have e0 : lg_cmp (f0 (0 : Int32).toNatClampNeg) x6.toInt64 = 0 := by
    rw [show (0 : Int32).toNatClampNeg = 0 from rfl, hf h0]
    simp [lg_cmp]
  exact lv_if_eq (tgt := pc + 30) hx hb d25 (by omega) (fun _ => J) (fun h9 => absurd e0 h9)
end GL
theorem gk0 {k : Nat} (h : k ≤ 2) (h0 : nI k = 0) : k = 0 := by
  have := (nI_eq (a := k) (b := 0) (by omega) (by omega)).mp h0
  exact this
theorem gk1 {k : Nat} (h : k ≤ 1) : (k = 0 ∧ nI k = 0) ∨ (k = 1 ∧ nI k = 1) := by
  rcases (by omega : k = 0 ∨ k = 1) with h | h
  · exact Or.inl ⟨h, by rw [h]; rfl⟩
  · exact Or.inr ⟨h, by rw [h]; rfl⟩
theorem gk2 {k : Nat} (h : k ≤ 2) : (k = 0 ∧ nI k = 0) ∨ (k = 1 ∧ nI k = 1) ∨ (k = 2 ∧ nI k = 2) := by
  rcases (by omega : k = 0 ∨ k = 1 ∨ k = 2) with h | h | h
  · exact Or.inl ⟨h, by rw [h]; rfl⟩
  · exact Or.inr (Or.inl ⟨h, by rw [h]; rfl⟩)
  · exact Or.inr (Or.inr ⟨h, by rw [h]; rfl⟩)
/-- what stays the same in the law's loop -/
def gFx (p : Program) (l : Launch) (s : State) (m : MethodId) (c : Code) (args : Array Value) (sb L : Nat) (xs : Nat → Int32) : Prop := l.stackTraces = false ∧ CallFix p m c cL_law 7 s args zT RL ∧ gNc s ∧ va_X sb L xs s s.heap ∧ sb < s.heap.size ∧ L ≤ 3072
abbrev gLs (sb : Nat) (a0 a1 : Nat → Nat) (o i : Nat) : List (Nat × Value) := [(0, .ref sb), (1, .ref (a0 0)), (2, .ref (a1 0)), (3, .ref o), (4, .int (nI i))]
def gNx (p : Program) (l : Launch) (e : Env) (s : State) (m : MethodId) (args : Array Value) (below : List Frame) (meth : Method) (c : Code) (Q : State → Prop) (V : zV) (cL : ClassId) (o : Nat) (a0 a1 : Nat → Nat) (sb i cells slots : Nat) : Prop :=
  ∀ (σ τ : zS) (f : Nat → Int64) (H : Heap) (locs : List Loc) (ls : Array Slot), RR σ τ → gZ V (gtL V cL) (fun q => s.heap.size ≤ q) (gwL V a0 a1 cL o σ τ f) s H locs → lv_has ls 7 (gLs sb a0 a1 o i) → W p l e room_1 s m args below meth c H locs cells slots Q (F0 m 1956 ls [])
