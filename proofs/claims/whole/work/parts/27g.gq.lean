/-! wrappers with one or two handlers: what both need -/
def gNc (U : State) : Prop := va_Nc "java/lang/IllegalArgumentException" "java/util/NoSuchElementException" U
def gqQ (V : zV) (cL : ClassId) (o : Nat) (t : zT3) (code : Int32) (A : Nat → Prop) : Array Value → State → Outcome → State → Prop := va_Qi (fun (r : Int32) (f1 : Nat → Int64) => r = code ∧ (t.1 = 0 → f1 0 = t.2.1.toInt64)) (fun f1 u => va_P V.1 vwCl (zw 0 V t.2.2 ++ lO cL o f1) u.heap ∧ va_K V.1 vwCl (gtW V cL) u) A
def gqP (V : zV) (cL : ClassId) (o : Nat) (σ : zS) (f0 : Nat → Int64) (sz : Nat) : State → Prop := fun U => gPre V (gtW V cL) (zw 0 V σ ++ lO cL o f0) sz U ∧ gNc U
/-- a wrapper's contract: its answer is the code, 'out' holds the class's answer -/
def gWq (l : Launch) (y : MethodName) (b : ByteArray) (nL f n mc ms : Nat) (hh : List (Nat × Nat × Nat × Nat)) (V : zV) (cL : ClassId) (o : Nat) (σ : zS) (f0 : Nat → Int64) (t : zT3) (code : Int32) (av : List Value) : Prop :=
  ∀ sz, Met l y (Cond.codeWith y b nL (some .int) hh :: zT) { frames := f, cells := mc, slots := ms, locals := n } (va_Pc av (gqP V cL o σ f0 sz)) (gqQ V cL o t code (va_A (zw 0 V σ ++ lO cL o f0) sz)) mc ms (va_A (zw 0 V σ ++ lO cL o f0) sz)
theorem gWq_of {l : Launch} {y : MethodName} {b : ByteArray} {nL f n mc ms : Nat} {hh : List (Nat × Nat × Nat × Nat)} {V : zV} {cL : ClassId} {o : Nat} {σ : zS} {f0 : Nat → Int64} {t : zT3} {code : Int32} {av : List Value} (hy : plainName y.cls = true) (hlen : (lg_sl av).length ≤ nL)
    (body : ∀ (p : Program) (e : Env) (s : State) (m : MethodId) (below : List Frame) (meth : Method) (c : Code) (A : Nat → Prop), CallFix p m c b nL s av.toArray zT y.cls → meth.sig.returnType = some .int → meth.locks = false → c.exceptionTable.toList = tableOf hh → gNc s → gZ V (gtW V cL) A (zw 0 V σ ++ lO cL o f0) s s.heap [] → ∀ ls, lv_has ls nL (lv_args 0 av) → W p l e { frames := f, cells := mc, slots := ms, locals := n } s m av.toArray below meth c s.heap [] 0 0 (MQ below (gqQ V cL o t code A) av.toArray s mc ms A) (F0 m 0 ls [])) : gWq l y b nL f n mc ms hh V cL o σ f0 t code av := by
  intro sz
  refine va_MetW (cc := b) (maxL := nL) (ret := some .int) (hh := hh) hy rfl ?_
  intro p e s m args below meth c s₁ B hml hv
  obtain ⟨rfl, ⟨hsz, hP, hK, hD0, hE⟩, hN⟩ := hv
  have hts := atoms_spec (ws := Cond.codeWith y b nL (some .int) hh :: zT) B.pre
  have hown : s.vm.findClass y.cls = some m.cls := findClass_of_methodNamed B.named
  subst hsz
  have hD : va_D (va_A (zw 0 V σ ++ lO cL o f0) s.heap.size) (zw 0 V σ ++ lO cL o f0) := hD0.self
  have hl := lv_entry av (n := nL) hlen
  rw [lg_entry_eq]
  exact body p e s m below meth c _ ⟨B.exec, B.bytes, hml, hown, fun w hw => hts w (List.mem_cons_of_mem _ hw)⟩ B.returns B.notSynchronized (vx_table (x := y) B (hts _ List.mem_cons_self)) hN ⟨hP, hK, hD, va_S.rf, fun q h => Or.inr h, hE⟩ _ hl
section GQ
variable {p : Program} {l : Launch} {e : Env} {R : Room} {s : State} {m : MethodId} {args : Array Value} {below : List Frame} {meth : Method} {c : Code} {H : Heap} {locs : List Loc} {cells slots : Nat} {Q : State → Prop} {pc nL : Nat} {ls : Array Slot} {rest : List Value} {cc : ByteArray} {own : String} {V : zV} {A : Nat → Prop} {σ : zS} {cL : ClassId} {o : Nat} {f0 f1 : Nat → Int64} {t : zT3} {code : Int32} {mc ms : Nat}
theorem gq_end (C0 : CallFix p m c cc nL s args zT own) {v : Int32} (hr : meth.sig.returnType = some .int) (hlk : meth.locks = false) (hZ : gZ V (gtW V cL) A (zw 0 V t.2.2 ++ lO cL o f1) s H locs) (hv : v = code) (hf : t.1 = 0 → f1 0 = t.2.1.toInt64) (hc : cells ≤ mc ∧ slots ≤ ms) (hdg : decode cc pc = .ok (.ireturn, 1)) : W p l e R s m args below meth c H locs cells slots (MQ below (gqQ V cL o t code A) args s mc ms A) (F0 m pc ls [.int v]) := by
  obtain ⟨hP, hK, hD, hS, hA, hE⟩ := hZ
  refine W.widen hc.1 hc.2 ?_
  exact W.iret C0.1 C0.2.1 hr (fun u hu hW => ⟨⟨v, f1, rfl, ⟨hv, hf⟩, by rw [hu]; exact hP, va_K.moved hW.alike hK⟩, hS.F hu⟩) hS.2.2 hdg hlk
theorem lO_at {ws : va_W} {n : Nat} (h : ws.length = n) {wr : va_W} : (ws ++ (lO cL o f0 ++ wr))[n]? = some (o, .inl (cL, 1, .inr (.inl f0))) := by
  rw [List.getElem?_append_right (by omega), h, Nat.sub_self]
  rfl
theorem lO_set {ws : va_W} {n : Nat} (h : ws.length = n) : (ws ++ lO cL o f0).set n (o, .inl (cL, 1, .inr (.inl f1))) = ws ++ lO cL o f1 := by
  rw [List.set_append_right _ _ (by omega), h, Nat.sub_self]
  rfl
theorem gq_ret (C0 : CallFix p m c cc nL s args zT own) {off : Int} {tgt : Nat} {r : Int32} (hr : meth.sig.returnType = some .int) (hlk : meth.locks = false) (hZ : gZ V (gtW V cL) A (zw 0 V t.2.2 ++ lO cL o f0) s H locs) (hrr : r = t.2.1) (hcode : code = 0) (hc : cells ≤ mc ∧ slots ≤ ms) (d0 : decode cc pc = .ok (.i2l, 1)) (d1 : decode cc (pc + 1) = .ok (.lastore, 1)) (d2 : decode cc (pc + 2) = .ok (.goto off, 3)) (ht : ((pc + 2 : Nat) : Int) + off = (tgt : Int)) (d3 : decode cc tgt = .ok (.iconst 0, 1)) (d4 : decode cc (tgt + 1) = .ok (.ireturn, 1)) : W p l e R s m args below meth c H locs cells slots (MQ below (gqQ V cL o t code A) args s mc ms A) (F0 m pc ls [.int r, .int 0, .ref o]) := by
  obtain ⟨hP, hK, hD, hS, hA, hE⟩ := hZ
  have hlen : (zw 0 V t.2.2).length = 82 := zw_len
  have h82 : (zw 0 V t.2.2 ++ lO cL o f0)[82]? = some (o, .inl (cL, 1, .inr (.inl f0))) := by
    have := lO_at (cL := cL) (o := o) (f0 := f0) hlen (wr := [])
    rw [List.append_nil] at this
    exact this
  have hin : vp_in 0 1 := by unfold vp_in; decide
  refine lv_i2l C0.1 C0.2.1 d0 (v := r.toInt64) rfl ?_
  refine va_last C0.1 C0.2.1 hK hP hD hS 82 1 h82 rfl hin d1 (fun H1 locs1 g1 g2 g3 => ?_)
  rw [lO_set hlen] at g1 g2
  refine lv_goto C0.1 C0.2.1 d2 ht ?_
  refine lv_iconst (v := 0) C0.1 C0.2.1 d3 (by decide) ?_
  exact gq_end C0 hr hlk ⟨g1, hK, g2, g3, hA, hE⟩ hcode.symm (fun _ => by rw [← hrr]; rfl) hc d4
end GQ
