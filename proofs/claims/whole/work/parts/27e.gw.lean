/-- a wrapper's start -/
theorem gWr_of {l : Launch} {y : MethodName} {b : ByteArray} {nL f n mc ms : Nat} {hh : List (Nat × Nat × Nat × Nat)} {V : zV} {cL : ClassId} {o : Nat} {σ : zS} {f0 : Nat → Int64} {t : zT3} {code : Int32} {av : List Value} (hy : plainName y.cls = true) (hlen : (lg_sl av).length ≤ nL)
    (body : ∀ (p : Program) (e : Env) (s : State) (m : MethodId) (below : List Frame) (meth : Method) (c : Code) (A : Nat → Prop), CallFix p m c b nL s av.toArray zT y.cls → meth.sig.returnType = some .int → meth.locks = false → c.exceptionTable.toList = tableOf hh → gZ V (gtW V cL) A (zw 0 V σ ++ lO cL o f0) s s.heap [] → ∀ ls, lv_has ls nL (lv_args 0 av) → W p l e { frames := f, cells := mc, slots := ms, locals := n } s m av.toArray below meth c s.heap [] 0 0 (MQ below (va_Qi (fun (r : Int32) (f1 : Nat → Int64) => r = code ∧ (t.1 = 0 → f1 0 = t.2.1.toInt64)) (fun f1 u => va_P V.1 vwCl (zw 0 V t.2.2 ++ lO cL o f1) u.heap ∧ va_K V.1 vwCl (gtW V cL) u) A) av.toArray s mc ms A) (F0 m 0 ls [])) : gWr l y b nL f n mc ms hh V cL o σ f0 t code av := by
  intro sz
  refine va_MetW (cc := b) (maxL := nL) (ret := some .int) (hh := hh) hy rfl ?_
  intro p e s m args below meth c s₁ B hml hv
  obtain ⟨rfl, hsz, hP, hK, hD0, hE⟩ := hv
  have hts := atoms_spec (ws := Cond.codeWith y b nL (some .int) hh :: zT) B.pre
  have hown : s.vm.findClass y.cls = some m.cls := findClass_of_methodNamed B.named
  subst hsz
  have hD : va_D (va_A (zw 0 V σ ++ lO cL o f0) s.heap.size) (zw 0 V σ ++ lO cL o f0) := hD0.self
  have hl := lv_entry av (n := nL) hlen
  rw [lg_entry_eq]
  exact body p e s m below meth c _ ⟨B.exec, B.bytes, hml, hown, fun w hw => hts w (List.mem_cons_of_mem _ hw)⟩ B.returns B.notSynchronized (vx_table (x := y) B (hts _ List.mem_cons_self)) ⟨hP, hK, hD, va_S.rf, fun q h => Or.inr h, hE⟩ _ hl
