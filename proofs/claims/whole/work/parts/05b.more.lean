section ZM
variable {p : Program} {l : Launch} {e : Env} {R : Room} {s : State} {m : MethodId} {args : Array Value} {below : List Frame} {meth : Method} {c : Code} {H : Heap} {locs : List Loc} {cells slots : Nat} {Q : State → Prop} {pc nL : Nat} {ls : Array Slot} {rest : List Value} {cc : ByteArray} {own : String} {L : Nat} {V : zV} {A : Nat → Prop} {σ : zS} {β : Type} {t : β}
theorem z_case {x v : Int32} {a b : Option β} {G : Prop} (h1 : (if x = v then a else b) = some t) (kt : x = v → a = some t → G) (kf : ¬ x = v → b = some t → G) : G := z_split h1 (fun f1 f2 => by by_cases h : x = v; exact f1 h; exact f2 h) (fun h => by by_cases h9 : x = v; exact kt h9 h; exact (by rw [if_neg h9] at h1; exact kf h9 h1)) (fun h => by by_cases h9 : x = v; exact (by rw [if_pos h9] at h1; exact kt h9 h1); exact kf h9 h)
theorem z_tout {x : Int32} {lo hi : Int} (vs : List Int32) (hv : ∀ i, i < vs.length → (vs[i]?).map (fun v => v.toInt) = some (lo + (i : Int))) (hn : lo + vs.length = hi + 1) (h : ∀ v ∈ vs, ¬ x = v) : x.toInt < lo ∨ hi < x.toInt := by
  by_cases h1 : x.toInt < lo
  · exact Or.inl h1
  by_cases h2 : hi < x.toInt
  · exact Or.inr h2
  exfalso
  obtain ⟨i, hi⟩ : ∃ i : Nat, x.toInt = lo + i := ⟨(x.toInt - lo).toNat, by omega⟩
  have hl : i < vs.length := by omega
  have h3 := hv i hl
  rw [List.getElem?_eq_getElem hl] at h3
  have h4 : (vs[i]).toInt = lo + i := Option.some.inj h3
  exact h vs[i] (List.getElem_mem hl) (Int32.toInt_inj.mp (hi.trans h4.symm))
theorem z_tret (C : CallFix p m c cc nL s args zT own) {tt : Int32 × zS} {x : Int32} {ty : FieldType} (hr : meth.sig.returnType = some ty) (hn : narrow ty (.int x) = .int x) (hlk : meth.locks = false) (hZ : zZ L V A σ s H locs) (h1 : some (x, σ) = some tt) (hdg : decode cc pc = .ok (.ireturn, 1)) : W p l e R s m args below meth c H locs 0 0 (MQ below (zQi L V tt A) args s 0 0 A) (F0 m pc ls [.int x]) := by
  cases h1
  obtain ⟨hP, hK, hD, hS, hA, hE⟩ := hZ
  exact W.zret C.1 C.2.1 hr hn (fun u hu hW => ⟨⟨x, (), rfl, rfl, by rw [hu]; exact hP, va_K.moved hW.alike hK⟩, hS.F hu⟩) hS.2.2 hdg hlk
-- Math.max, min
def zmm (own : String) (idx : Nat) (y : MethodName) (cd : ByteArray) : Prop := Cond.methodLink own idx y ∈ zT ∧ Cond.static y ∈ zT ∧ Cond.initialized "java/lang/Math" ∈ zT ∧ Cond.code y cd 2 (some .int) ∈ zT
theorem z_mmax (C0 : CallFix p m c cc nL s args zT own) (hsz : ls.size = nL) {index : Nat} (hw : zmm own index Lib.Math.max.name Lib.Math.max.code) {x y : Int32} (hR : 1 ≤ R.frames ∧ (rest.map fun v => v.category).sum + 13 ≤ R.locals) (hc : cells ≤ R.cells ∧ slots ≤ R.slots) (hdg : decode cc pc = .ok (.invokestatic index, 3))
    (kk : W p l e R s m args below meth c H locs cells slots Q (F0 m (pc + 3) ls (.int (if x < y then y else x) :: rest))) : W p l e R s m args below meth c H locs cells slots Q (F0 m pc ls (.int y :: .int x :: rest)) := by
  obtain ⟨hx, hb, hml, hown, hts⟩ := C0
  exact va_mmax hx hb (hml.trans hsz.symm) hown (hts _ hw.1) (hts _ hw.2.1) (hts _ hw.2.2.1) (hts _ hw.2.2.2) hR.1 hR.2 hc.1 hc.2 hdg kk
theorem z_mmin (C0 : CallFix p m c cc nL s args zT own) (hsz : ls.size = nL) {index : Nat} (hw : zmm own index Lib.Math.min.name Lib.Math.min.code) {x y : Int32} (hR : 1 ≤ R.frames ∧ (rest.map fun v => v.category).sum + 13 ≤ R.locals) (hc : cells ≤ R.cells ∧ slots ≤ R.slots) (hdg : decode cc pc = .ok (.invokestatic index, 3))
    (kk : W p l e R s m args below meth c H locs cells slots Q (F0 m (pc + 3) ls (.int (if y < x then y else x) :: rest))) : W p l e R s m args below meth c H locs cells slots Q (F0 m pc ls (.int y :: .int x :: rest)) := by
  obtain ⟨hx, hb, hml, hown, hts⟩ := C0
  exact va_mmin hx hb (hml.trans hsz.symm) hown (hts _ hw.1) (hts _ hw.2.1) (hts _ hw.2.2.1) (hts _ hw.2.2.2) hR.1 hR.2 hc.1 hc.2 hdg kk
-- a whole row anew
def zrow (σ : zS) (k : Nat) (f : Nat → Int32) : zS := fun a => if a = k then f else σ a
theorem zE_row {L k i : Nat} {V : zV} {σ : zS} {f : Nat → Int32} (h : i ≠ k) : zE L V (zrow σ k f) i = zE L V σ i := by
  have e : zrow σ k f i = σ i := by unfold zrow; rw [if_neg h]
  have e2 : ∀ l, zfs V (zrow σ k f) i l = zfs V σ i l := fun l => by
    unfold zfs
    apply List.map_congr_left
    intro a _
    unfold zval
    rw [e]
  unfold zE
  rw [e, e2]
def zcpok (la lb : Nat) (sp dp n : Int32) : Bool := decide (¬ sp < 0) && decide (¬ dp < 0) && decide (¬ n < 0) && decide (sp.toNatClampNeg + n.toNatClampNeg ≤ la) && decide (dp.toNatClampNeg + n.toNatClampNeg ≤ lb)
def zcw (own : String) (idx : Nat) : Prop := Cond.methodLink own idx arraycopyName ∈ zT ∧ Cond.native arraycopyName ∈ zT ∧ Cond.static arraycopyName ∈ zT ∧ Cond.initialized "java/lang/System" ∈ zT
theorem z_copy (C0 : CallFix p m c cc nL s args zT own) (hsz : ls.size = nL) (hZ : zZ L V A σ s H locs) {index ka kb : Nat} {sp dp n : Int32} {f : zS → Option β} (h1 : zgd (zcpok (ln L ka) (ln L kb) sp dp n) (zlet (zrow σ kb (va_cpy (σ ka) (σ kb) sp.toNatClampNeg dp.toNatClampNeg n.toNatClampNeg)) f) = some t) (hw : zcw own index) (ha : kd L ka = 100) (hb9 : kd L kb = 100) (hR : 1 ≤ R.frames ∧ (rest.map fun v => v.category).sum + (nativeFrameWords "java/lang/System" "arraycopy" 5 + 11) ≤ R.locals) (hdg : decode cc pc = .ok (.invokestatic index, 3))
    (kk : ∀ (σ : zS) (H : Heap) (locs : List Loc), f σ = some t → zZ L V A σ s H locs → W p l e R s m args below meth c H locs cells slots Q (F0 m (pc + 3) ls rest)) : W p l e R s m args below meth c H locs cells slots Q (F0 m pc ls (.int n :: .int dp :: .ref (zad V kb) :: .int sp :: .ref (zad V ka) :: rest)) := by
  obtain ⟨hx, hb, hml, hown, hts⟩ := C0
  obtain ⟨hok, h1⟩ := zgd_some h1
  unfold zcpok at hok
  simp only [Bool.and_eq_true, decide_eq_true_eq] at hok
  obtain ⟨⟨⟨⟨g1, g2⟩, g3⟩, g4⟩, g5⟩ := hok
  obtain ⟨hP, hK, hD, hS, hA, hE⟩ := hZ
  have hkb : kb < nC L := kd_lt (by omega)
  have hset : (zw L V σ).set kb (zad V kb, .inl (V.2.1.1, ln L kb, .inl (va_cpy (σ ka) (σ kb) sp.toNatClampNeg dp.toNatClampNeg n.toNatClampNeg))) = zw L V (zrow σ kb (va_cpy (σ ka) (σ kb) sp.toNatClampNeg dp.toNatClampNeg n.toNatClampNeg)) :=
    zw_set hkb (by rw [zE_arr hb9]; unfold zrow; rw [if_pos rfl]) (fun i hi => zE_row hi)
  refine va_copyi hx hb (hml.trans hsz.symm) hown (hts _ hw.1) (hts _ hw.2.1) (hts _ hw.2.2.1) (hts _ hw.2.2.2) hK hP hD hS ka kb 0 0 (by rw [zw_get (kd_lt (by omega)), zE_arr ha]) (by rw [zw_get hkb, zE_arr hb9]) ztys_0 ztys_0 rfl g1 g2 g3 g4 g5 (fun _ _ => rfl) hR.1 hR.2 hdg (fun H1 locs1 k1 k2 k3 => ?_)
  rw [hset] at k1 k2
  exact kk _ H1 locs1 h1 ⟨k1, hK, k2, k3, hA, hE⟩
-- texts
theorem z_ldcS (C0 : CallFix p m c cc nL s args zT own) (hZ : zZ L V A σ s H locs) {idx i : Nat} {tx : String} (hr : (own, idx, tx, i) ∈ zStr) (hdg : decode cc pc = .ok (.ldc idx, 2))
    (kk : W p l e R s m args below meth c H locs cells slots Q (F0 m (pc + 2) ls (.ref (V.2.2.2.1 i) :: rest))) : W p l e R s m args below meth c H locs cells slots Q (F0 m pc ls rest) :=
  va_ldcS C0.1 C0.2.1 C0.2.2.2.1 (hZ.2.2.2.2.2.2.1 _ hr) hdg kk
def zwR (y : MethodName) : Prop := Cond.instanceMethod y ∈ zT ∧ Cond.selects y.cls y y ∈ zT
theorem z_runR {y : MethodName} {b : ByteArray} {nY n f k idx a : Nat} {ret : Option FieldType} {Qc : Array Value → State → Outcome → State → Prop} {As st0 : List Value} {free : Addr → Prop} (C0 : CallFix p m c cc nL s args zT own) (hZ : zZ L V A σ s H locs) (hM : Met l y (zws y b nY ret) (zrm f k) (va_Pc (.ref a :: As) (zPre L V σ H.size)) Qc 0 0 free) (hw : zwM own idx y b nY ret n) (hv : zwR y) (hq : ∃ cell : Cell, H[a]? = some cell ∧ cell.vm.isStatics = false ∧ s.vm.findClass y.cls = some cell.cls) (hst : st0 = As.reverse ++ .ref a :: rest) (hn : As.length = n) (hsz : ls.size = nL) (hrest : (rest.map fun v => v.category).sum ≤ 8) (hR : f + 1 ≤ R.frames ∧ 8 + (nY + 11) + k ≤ R.locals) (hdg : decode cc pc = .ok (.invokevirtual idx, 3)) (hf : cells + 0 ≤ R.cells ∧ slots + 0 ≤ R.slots) :
    va_Run p l e R s m args below meth c H locs cells slots 0 0 (F0 m pc ls st0) rest (Qc (Value.ref a :: As).toArray) free := by
  obtain ⟨hl, -⟩ := id hw
  obtain ⟨hin, hse⟩ := hv
  have hts := C0.2.2.2.2
  have hp : PreV s H y.cls a (va_Pc (.ref a :: As) (zPre L V σ H.size)) As := ⟨zPre_blind, hq, fun U hU hW => ⟨rfl, zZ_pre hZ hU hW⟩⟩
  rcases hl with hl | ⟨host, hl⟩
  · exact va_runV C0 hM ⟨zcallB hts hl hw hR, hts _ hin, hts _ hse⟩ hp rfl hn hsz hst (lv_room hrest) hdg hf
  · exact va_runVN C0 hM ⟨zcallN hts hl hw hR, hts _ hin, hts _ hse⟩ hp rfl hn hsz hst (lv_room hrest) hdg hf
theorem z_srecv (hZ : zZ L V A σ s H locs) {i : Nat} (hi : i < zN) : ∃ cell : Cell, H[V.2.2.2.1 i]? = some cell ∧ cell.vm.isStatics = false ∧ s.vm.findClass "java/lang/String" = some cell.cls := vk_recv hZ.2.2.2.2.2.1 hi hZ.2.2.2.1
/-- a call on a text -/
theorem z_cTi {y : MethodName} {b : ByteArray} {nY n f k idx i : Nat} {ret : Option FieldType} {As st0 : List Value} {Fc : Option (Int32 × zS)} {g : Int32 → zS → Option β} (C0 : CallFix p m c cc nL s args zT own) (hZ : zZ L V A σ s H locs) (h1 : zbd Fc g = some t) (hM : ∀ tt, Fc = some tt → zMi l y b nY ret f k L V σ tt (.ref (V.2.2.2.1 i) :: As)) (hw : zwM own idx y b nY ret n) (hv : zwR y) (hi : i < zN) (hy : y.cls = "java/lang/String") (hst : st0 = As.reverse ++ .ref (V.2.2.2.1 i) :: rest) (hn : As.length = n) (hsz : ls.size = nL) (hrest : (rest.map fun v => v.category).sum ≤ 8) (hR : f + 1 ≤ R.frames ∧ 8 + (nY + 11) + k ≤ R.locals) (hdg : decode cc pc = .ok (.invokevirtual idx, 3)) (hf : cells + 0 ≤ R.cells ∧ slots + 0 ≤ R.slots)
    (kk : ∀ (r : Int32) (σ : zS) (H : Heap) (locs : List Loc), g r σ = some t → zZ L V A σ s H locs → W p l e R s m args below meth c H locs cells slots Q (F0 m (pc + 3) ls (.int r :: rest))) : W p l e R s m args below meth c H locs cells slots Q (F0 m pc ls st0) := by
  obtain ⟨r, σ1, hFc, h1⟩ := zbd_some h1
  exact z_goi hZ (z_runR C0 hZ (hM _ hFc H.size) hw hv (by rw [hy]; exact z_srecv hZ hi) hst hn hsz hrest hR hdg hf) (fun H1 locs1 hZ1 => kk r σ1 H1 locs1 h1 hZ1)
end ZM
