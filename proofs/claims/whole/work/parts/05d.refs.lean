/-! cells as answers, rows of texts, longs -/
def zQr (L : Nat) (V : zV) (t : Int32 × zS) (A : Nat → Prop) : Array Value → State → Outcome → State → Prop := va_Qr (fun (_ : Unit) => True) (fun _ a u => a = zad V t.1.toNatClampNeg ∧ va_P V.1 vwCl (zw L V t.2) u.heap ∧ va_K V.1 vwCl (ztys L V) u) A
def zMr (l : Launch) (y : MethodName) (b : ByteArray) (nL : Nat) (ret : Option FieldType) (f n L : Nat) (V : zV) (σ : zS) (t : Int32 × zS) (av : List Value) : Prop :=
  ∀ sz, Met l y (zws y b nL ret) (zrm f n) (va_Pc av (zPre L V σ sz)) (zQr L V t (va_A (zw L V σ) sz)) 0 0 (va_A (zw L V σ) sz)
theorem zst_lt (k j : Nat) : zst k j < zN := by
  unfold zst
  split
  · rw [List.getD_eq_getElem?_getD]
    match j with
    | 0 => decide
    | 1 => decide
    | 2 => decide
    | 3 => decide
    | j + 4 => rw [List.getElem?_eq_none (by simp)]; decide
  · rw [List.getD_eq_getElem?_getD]
    match j with
    | 0 => decide
    | 1 => decide
    | 2 => decide
    | 3 => decide
    | 4 => decide
    | 5 => decide
    | 6 => decide
    | j + 7 => rw [List.getElem?_eq_none (by simp)]; decide
section ZN
variable {p : Program} {l : Launch} {e : Env} {R : Room} {s : State} {m : MethodId} {args : Array Value} {below : List Frame} {meth : Method} {c : Code} {H : Heap} {locs : List Loc} {cells slots : Nat} {Q : State → Prop} {pc nL : Nat} {ls : Array Slot} {rest : List Value} {cc : ByteArray} {own : String} {L : Nat} {V : zV} {A : Nat → Prop} {σ : zS} {β : Type} {t : β}
theorem zMr_of {y : MethodName} {b : ByteArray} {ret : Option FieldType} {f n : Nat} {tt : Int32 × zS} {av : List Value} (hy : plainName y.cls = true) (hlen : (lg_sl av).length ≤ nL)
    (body : ∀ (p : Program) (e : Env) (s : State) (m : MethodId) (below : List Frame) (meth : Method) (c : Code) (A : Nat → Prop), CallFix p m c b nL s av.toArray zT y.cls → meth.sig.returnType = ret → meth.locks = false → zZ L V A σ s s.heap [] → ∀ ls, lv_has ls nL (lv_args 0 av) → W p l e (zrm f n) s m av.toArray below meth c s.heap [] 0 0 (MQ below (zQr L V tt A) av.toArray s 0 0 A) (F0 m 0 ls [])) : zMr l y b nL ret f n L V σ tt av := by
  intro sz
  refine Met.ofW (cc := b) (maxL := nL) (ret := ret) hy rfl ?_
  intro p e s m args below meth c s₁ B hml hv
  obtain ⟨rfl, hsz, hP, hK, hD0, hE⟩ := hv
  have hts := atoms_spec (ws := zws y b nL ret) B.pre
  have hown : s.vm.findClass y.cls = some m.cls := findClass_of_methodNamed B.named
  subst hsz
  have hD : va_D (va_A (zw L V σ) s.heap.size) (zw L V σ) := hD0.self
  have hl := lv_entry av (n := nL) hlen
  rw [lg_entry_eq]
  exact body p e s m below meth c _ ⟨B.exec, B.bytes, hml, hown, fun w hw => hts w (List.mem_cons_of_mem _ hw)⟩ B.returns B.notSynchronized ⟨hP, hK, hD, va_S.rf, fun q h => Or.inr h, hE⟩ _ hl
theorem z_aret (C : CallFix p m c cc nL s args zT own) {tt : Int32 × zS} {q : Nat} {cn : String} (hr : meth.sig.returnType = some (.object cn)) (hlk : meth.locks = false) (hZ : zZ L V A σ s H locs) (hq : q < 2 ^ 31) (h1 : some (nI q, σ) = some tt) (hdg : decode cc pc = .ok (.areturn, 1)) : W p l e R s m args below meth c H locs 0 0 (MQ below (zQr L V tt A) args s 0 0 A) (F0 m pc ls [.ref (zad V q)]) := by
  cases h1
  obtain ⟨hP, hK, hD, hS, hA, hE⟩ := hZ
  exact W.aret C.1 C.2.1 hr (Or.inl ⟨_, rfl⟩) (Or.inr ⟨_, rfl⟩) (fun u hu hW => ⟨⟨(), _, rfl, trivial, by rw [nI_clamp hq], by rw [hu]; exact hP, va_K.moved hW.alike hK⟩, hS.F hu⟩) hS.2.2 hdg hlk
theorem z_cVr {y : MethodName} {b : ByteArray} {nY n f k idx ci q ck : Nat} {ret : Option FieldType} {As st0 : List Value} {Fc : Option (Int32 × zS)} {g : zS → Nat → Option β} (C0 : CallFix p m c cc nL s args zT own) (hZ : zZ L V A σ s H locs) (h1 : zbd Fc (fun r σ => zgd (kd L r.toNatClampNeg == ck) (zlet r.toNatClampNeg (g σ))) = some t) (hM : ∀ tt, Fc = some tt → zMr l y b nY ret f k L V σ tt (.ref (zad V q) :: As)) (hw : zwM own idx y b nY ret n) (hv : zwV ci y) (hq : kd L q = ci) (hst : st0 = As.reverse ++ .ref (zad V q) :: rest) (hn : As.length = n) (hsz : ls.size = nL) (hrest : (rest.map fun v => v.category).sum ≤ 8) (hR : f + 1 ≤ R.frames ∧ 8 + (nY + 11) + k ≤ R.locals) (hdg : decode cc pc = .ok (.invokevirtual idx, 3)) (hf : cells + 0 ≤ R.cells ∧ slots + 0 ≤ R.slots)
    (kk : ∀ (q : Nat) (σ : zS) (H : Heap) (locs : List Loc), kd L q = ck → g σ q = some t → zZ L V A σ s H locs → W p l e R s m args below meth c H locs cells slots Q (F0 m (pc + 3) ls (.ref (zad V q) :: rest))) : W p l e R s m args below meth c H locs cells slots Q (F0 m pc ls st0) := by
  obtain ⟨r, σ1, hFc, h1⟩ := zbd_some h1
  obtain ⟨hck, h1⟩ := zgd_some h1
  have hF := zfree hZ
  refine va_callr (z_runV C0 hZ (hM _ hFc H.size) hw hv hq hst hn hsz hrest hR hdg hf) hZ.2.2.2.1 (fun q _ h => hF q h) hF (fun u ra t H1 locs1 ht hvm hw hB _ _ hS => ?_)
  obtain ⟨hra, hB1, hB2⟩ := hB
  subst hra
  exact kk _ σ1 H1 locs1 (eq_of_beq hck) h1 (zZ_after hZ ht hvm hB1 hS)
theorem z_aald (C0 : CallFix p m c cc nL s args zT own) (hZ : zZ 1 V A σ s H locs) {k : Nat} {i : Int32} {r : Option β} (h1 : zin (ln 1 k) i r = some t) (hk : kd 1 k = 101) (hdg : decode cc pc = .ok (.aaload, 1))
    (kk : r = some t → W p l e R s m args below meth c H locs cells slots Q (F0 m (pc + 1) ls (.ref (V.2.2.2.1 (zst k i.toNatClampNeg)) :: rest))) : W p l e R s m args below meth c H locs cells slots Q (F0 m pc ls (.int i :: .ref (zad V k) :: rest)) := by
  obtain ⟨hi, h1⟩ := zin_some h1
  obtain ⟨hP, hK, -⟩ := hZ
  exact va_aldq (f := fun j => some (V.2.2.2.1 (zst k j))) C0.1 C0.2.1 hK hP k 1 (by rw [zw_get (kd_lt (by omega)), zE_str hk]) rfl hi hdg (kk h1)
theorem z_alenS (C0 : CallFix p m c cc nL s args zT own) (hZ : zZ 1 V A σ s H locs) {k : Nat} (hk : kd 1 k = 101) (hdg : decode cc pc = .ok (.arraylength, 1))
    (kk : W p l e R s m args below meth c H locs cells slots Q (F0 m (pc + 1) ls (.int (nI (ln 1 k)) :: rest))) : W p l e R s m args below meth c H locs cells slots Q (F0 m pc ls (.ref (zad V k) :: rest)) := by
  obtain ⟨hP, hK, -⟩ := hZ
  exact va_alen (x := (ln 1 k, .inr (.inr (.inr (.inr (fun j => some (V.2.2.2.1 (zst k j)))))))) (t0 := 1) C0.1 C0.2.1 hK hP k (by rw [zw_get (kd_lt (by omega)), zE_str hk]) rfl rfl hdg kk
end ZN
section ZN2
variable {p : Program} {l : Launch} {e : Env} {R : Room} {s : State} {m : MethodId} {args : Array Value} {below : List Frame} {meth : Method} {c : Code} {H : Heap} {locs : List Loc} {cells slots : Nat} {Q : State → Prop} {pc nL : Nat} {ls : Array Slot} {rest : List Value} {cc : ByteArray} {own : String} {L : Nat} {V : zV} {A : Nat → Prop} {σ : zS}
theorem z_ldcSw (C0 : CallFix p m c cc nL s args zT own) (hZ : zZ L V A σ s H locs) {idx i : Nat} {tx : String} (hr : (own, idx, tx, i) ∈ zStr) (hdg : decode cc pc = .ok (.ldc_w idx, 3))
    (kk : W p l e R s m args below meth c H locs cells slots Q (F0 m (pc + 3) ls (.ref (V.2.2.2.1 i) :: rest))) : W p l e R s m args below meth c H locs cells slots Q (F0 m pc ls rest) := by
  have h := hZ.2.2.2.2.2.2.1 _ hr
  have hb := C0.2.1
  intro T hT X
  obtain ⟨t, a1, b1⟩ := kk T hT X
  exact ⟨t, X.ldcStringW C0.1 C0.2.2.2.1 (text := tx) (a := V.2.2.2.1 i) h.1 h.2 (g := F0 m pc ls rest) rfl (by rw [hb]; exact hdg) t a1, b1⟩
end ZN2
/-! methods that call each other: the deeper ones by G -/
abbrev zGr : Type := Nat → Nat → Int32 → Int32 → zS → Option (Int32 × zS)
def zfuel : Nat := 200
theorem zRs {n K U K' nY : Nat} (h : nY + 19 ≤ U) : (n + K) + 1 ≤ (zrm (n + 1 + K) ((n + 1) * U + K')).frames ∧ 8 + (nY + 11) + (n * U + K') ≤ (zrm (n + 1 + K) ((n + 1) * U + K')).locals := by
  have h1 : (n + 1) * U = n * U + U := Nat.succ_mul n U
  refine ⟨?_, ?_⟩
  · show n + K + 1 ≤ n + 1 + K
    omega
  · show 8 + (nY + 11) + (n * U + K') ≤ (n + 1) * U + K'
    omega
theorem zRo {n K U K' nY f k : Nat} (hf : f + 1 ≤ K) (hn : 8 + (nY + 11) + k ≤ K') : f + 1 ≤ (zrm (n + 1 + K) ((n + 1) * U + K')).frames ∧ 8 + (nY + 11) + k ≤ (zrm (n + 1 + K) ((n + 1) * U + K')).locals := by
  refine ⟨?_, ?_⟩
  · show f + 1 ≤ n + 1 + K
    omega
  · show 8 + (nY + 11) + k ≤ (n + 1) * U + K'
    omega
