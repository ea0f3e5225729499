/-! methods that throw: t.1 is 0 for a return, else which exception -/
def zXn : Nat → String | 1 => "java/util/NoSuchElementException" | _ => "java/lang/IllegalArgumentException"
abbrev zT3 : Type := Nat × Int32 × zS
def zbx {β : Type} (x : Option zT3) (f : Int32 → zS → Option β) (g : Nat → zS → Option β) : Option β := match x with | none => none | some q => match q.1 with | 0 => f q.2.1 q.2.2 | n + 1 => g (n + 1) q.2.2
theorem zbx_some {β : Type} {x : Option zT3} {f : Int32 → zS → Option β} {g : Nat → zS → Option β} {t : β} (h : zbx x f g = some t) : ∃ q, x = some q ∧ ((q.1 = 0 ∧ f q.2.1 q.2.2 = some t) ∨ (q.1 ≠ 0 ∧ g q.1 q.2.2 = some t)) := by
  cases x with
  | none => cases h
  | some q =>
    obtain ⟨n, r, σ⟩ := q
    refine ⟨_, rfl, ?_⟩
    cases n with
    | zero => exact Or.inl ⟨rfl, h⟩
    | succ n => exact Or.inr ⟨Nat.succ_ne_zero _, h⟩
def zxQ (L : Nat) (V : zV) (t : zT3) (A : Nat → Prop) : Array Value → State → Outcome → State → Prop := va_Qi (fun (r : Int32) (_ : Unit) => t.1 = 0 ∧ r = t.2.1) (fun _ u => va_P V.1 vwCl (zw L V t.2.2) u.heap ∧ va_K V.1 vwCl (ztys L V) u) A
def zxQv (L : Nat) (V : zV) (t : zT3) (A : Nat → Prop) : Array Value → State → Outcome → State → Prop := va_Qv (fun (_ : Unit) => t.1 = 0) (fun _ u => va_P V.1 vwCl (zw L V t.2.2) u.heap ∧ va_K V.1 vwCl (ztys L V) u) A
def zxX (L : Nat) (V : zV) (t : zT3) (A : Nat → Prop) : String → State → State → Prop := vx_X (fun _ : Unit => t.1 ≠ 0) (fun E _ u => E = zXn t.1 ∧ va_P V.1 vwCl (zw L V t.2.2) u.heap ∧ va_K V.1 vwCl (ztys L V) u) A
def zXi (l : Launch) (y : MethodName) (b : ByteArray) (nL : Nat) (ret : Option FieldType) (f n mc ms L : Nat) (V : zV) (σ : zS) (t : zT3) (av : List Value) : Prop :=
  ∀ sz, vx_Met l y (zws y b nL ret) { frames := f, cells := mc, slots := ms, locals := n } (va_Pc av (zPre L V σ sz)) (zxQ L V t (va_A (zw L V σ) sz)) (zxX L V t (va_A (zw L V σ) sz)) mc ms (va_A (zw L V σ) sz)
def zXv (l : Launch) (y : MethodName) (b : ByteArray) (nL : Nat) (f n mc ms L : Nat) (V : zV) (σ : zS) (t : zT3) (av : List Value) : Prop :=
  ∀ sz, vx_Met l y (zws y b nL none) { frames := f, cells := mc, slots := ms, locals := n } (va_Pc av (zPre L V σ sz)) (zxQv L V t (va_A (zw L V σ) sz)) (zxX L V t (va_A (zw L V σ) sz)) mc ms (va_A (zw L V σ) sz)
section ZX
variable {p : Program} {l : Launch} {e : Env} {R : Room} {s : State} {m : MethodId} {args : Array Value} {below : List Frame} {meth : Method} {c : Code} {H : Heap} {locs : List Loc} {cells slots : Nat} {Q : State → Prop} {pc nL : Nat} {ls : Array Slot} {rest : List Value} {cc : ByteArray} {own : String} {L : Nat} {V : zV} {A : Nat → Prop} {σ : zS} {β : Type}
theorem zXi_of {y : MethodName} {b : ByteArray} {ret : Option FieldType} {f n mc ms : Nat} {tt : zT3} {av : List Value} (hy : plainName y.cls = true) (hlen : (lg_sl av).length ≤ nL)
    (body : ∀ (p : Program) (e : Env) (s : State) (m : MethodId) (below : List Frame) (meth : Method) (c : Code) (A : Nat → Prop), CallFix p m c b nL s av.toArray zT y.cls → meth.sig.returnType = ret → meth.locks = false → (∀ x ∈ c.exceptionTable.toList, False) → zZ L V A σ s s.heap [] → ∀ ls, lv_has ls nL (lv_args 0 av) → W p l e { frames := f, cells := mc, slots := ms, locals := n } s m av.toArray below meth c s.heap [] 0 0 (vx_MQ below (zxQ L V tt A) (zxX L V tt A) av.toArray s mc ms A) (F0 m 0 ls [])) : zXi l y b nL ret f n mc ms L V σ tt av := by
  intro sz
  refine vx_ofW (cc := b) (maxL := nL) (ret := ret) hy rfl ?_
  intro p e s m args below meth c s₁ B hml hnt hv
  obtain ⟨rfl, hsz, hP, hK, hD0, hE⟩ := hv
  have hts := atoms_spec (ws := zws y b nL ret) B.pre
  have hown : s.vm.findClass y.cls = some m.cls := findClass_of_methodNamed B.named
  subst hsz
  have hD : va_D (va_A (zw L V σ) s.heap.size) (zw L V σ) := hD0.self
  have hl := lv_entry av (n := nL) hlen
  rw [lg_entry_eq]
  exact body p e s m below meth c _ ⟨B.exec, B.bytes, hml, hown, fun w hw => hts w (List.mem_cons_of_mem _ hw)⟩ B.returns B.notSynchronized hnt ⟨hP, hK, hD, va_S.rf, fun q h => Or.inr h, hE⟩ _ hl
theorem zXv_of {y : MethodName} {b : ByteArray} {f n mc ms : Nat} {tt : zT3} {av : List Value} (hy : plainName y.cls = true) (hlen : (lg_sl av).length ≤ nL)
    (body : ∀ (p : Program) (e : Env) (s : State) (m : MethodId) (below : List Frame) (meth : Method) (c : Code) (A : Nat → Prop), CallFix p m c b nL s av.toArray zT y.cls → meth.sig.returnType = none → meth.locks = false → (∀ x ∈ c.exceptionTable.toList, False) → zZ L V A σ s s.heap [] → ∀ ls, lv_has ls nL (lv_args 0 av) → W p l e { frames := f, cells := mc, slots := ms, locals := n } s m av.toArray below meth c s.heap [] 0 0 (vx_MQ below (zxQv L V tt A) (zxX L V tt A) av.toArray s mc ms A) (F0 m 0 ls [])) : zXv l y b nL f n mc ms L V σ tt av := by
  intro sz
  refine vx_ofW (cc := b) (maxL := nL) (ret := none) hy rfl ?_
  intro p e s m args below meth c s₁ B hml hnt hv
  obtain ⟨rfl, hsz, hP, hK, hD0, hE⟩ := hv
  have hts := atoms_spec (ws := zws y b nL none) B.pre
  have hown : s.vm.findClass y.cls = some m.cls := findClass_of_methodNamed B.named
  subst hsz
  have hD : va_D (va_A (zw L V σ) s.heap.size) (zw L V σ) := hD0.self
  have hl := lv_entry av (n := nL) hlen
  rw [lg_entry_eq]
  exact body p e s m below meth c _ ⟨B.exec, B.bytes, hml, hown, fun w hw => hts w (List.mem_cons_of_mem _ hw)⟩ B.returns B.notSynchronized hnt ⟨hP, hK, hD, va_S.rf, fun q h => Or.inr h, hE⟩ _ hl
theorem z_xiret (C : CallFix p m c cc nL s args zT own) {tt : zT3} {x : Int32} {mc ms : Nat} (hr : meth.sig.returnType = some .int) (hlk : meth.locks = false) (hZ : zZ L V A σ s H locs) (h1 : some (0, x, σ) = some tt) (hc : cells ≤ mc ∧ slots ≤ ms) (hdg : decode cc pc = .ok (.ireturn, 1)) : W p l e R s m args below meth c H locs cells slots (vx_MQ below (zxQ L V tt A) (zxX L V tt A) args s mc ms A) (F0 m pc ls [.int x]) := by
  cases h1
  obtain ⟨hP, hK, hD, hS, hA, hE⟩ := hZ
  refine W.widen hc.1 hc.2 (vx_ret ?_)
  exact W.iret C.1 C.2.1 hr (fun u hu hW => ⟨⟨x, (), rfl, ⟨rfl, rfl⟩, by rw [hu]; exact hP, va_K.moved hW.alike hK⟩, hS.F hu⟩) hS.2.2 hdg hlk
theorem z_xvret (C : CallFix p m c cc nL s args zT own) {tt : zT3} {mc ms : Nat} {x : Int32} (hr : meth.sig.returnType = none) (hlk : meth.locks = false) (hZ : zZ L V A σ s H locs) (h1 : some (0, x, σ) = some tt) (hc : cells ≤ mc ∧ slots ≤ ms) (hdg : decode cc pc = .ok (.return_, 1)) : W p l e R s m args below meth c H locs cells slots (vx_MQ below (zxQv L V tt A) (zxX L V tt A) args s mc ms A) (F0 m pc ls []) := by
  cases h1
  obtain ⟨hP, hK, hD, hS, hA, hE⟩ := hZ
  refine W.widen hc.1 hc.2 (vx_ret ?_)
  exact W.vret C.1 C.2.1 hr (fun u hu hW => ⟨⟨(), rfl, rfl, by rw [hu]; exact hP, va_K.moved hW.alike hK⟩, hS.F hu⟩) hS.2.2 hdg hlk
/-- what 'throw new E()' needs of the tables -/
def zwX (own : String) (ik ic n : Nat) : Prop := Cond.classLink own ik (zXn n) ∈ zT ∧ Cond.initialized (zXn n) ∈ zT ∧ (∀ w ∈ vx_at0 own ic (zXn n) ["java/lang/RuntimeException", "java/lang/Exception"], w ∈ zT) ∧ (∀ w ∈ Cond.classLink own ik (zXn n) :: Cond.initialized (zXn n) :: vx_at0 own ic (zXn n) ["java/lang/RuntimeException", "java/lang/Exception"], vx_ot w = true) ∧ Bundle.fit (zXn n) = true
theorem z_inb {ws : List Cond} (h : ws.all (fun w => lw_tbl.contains w && zok w) = true) : ∀ w ∈ ws, w ∈ zT := by
  intro w hw
  have h1 := List.all_eq_true.mp h w hw
  simp only [Bool.and_eq_true] at h1
  exact List.mem_filter.mpr ⟨List.contains_iff_mem.mp h1.1, h1.2⟩
theorem z_kept {H1 : Heap} {t : State} (hZ : zZ L V A σ s H locs) (ht : t.heap = H1) (hvm : s.vm.Alike t.vm) (hz : H.size ≤ H1.size) (hk : ∀ q : Nat, q < H.size → H1[q]? = H[q]?) : va_P V.1 vwCl (zw L V σ) t.heap ∧ va_K V.1 vwCl (ztys L V) t ∧ va_F A s t := by
  obtain ⟨hP, hK, hD, hS, hA, hE⟩ := hZ
  refine ⟨by rw [ht]; exact hP.kept (fun k q hq => hk _ (hP k q hq).lt), va_K.moved hvm hK, ⟨by rw [ht]; exact Nat.le_trans hS.1 hz, fun q h1 h2 => ?_⟩⟩
  rw [ht, hk q (Nat.lt_of_lt_of_le h1 hS.1)]
  exact hS.2.1 q h1 h2
theorem z_throw (C0 : CallFix p m c cc nL s args zT own) (hfl : l.stackTraces = false) (hnt : ∀ x ∈ c.exceptionTable.toList, False) (hsz : ls.size = nL) (hlk : meth.locks = false) (hZ : zZ L V A σ s H locs) {tt : zT3} {n ik ic mc ms : Nat} {x : Int32} {Qc : Array Value → State → Outcome → State → Prop} (h1 : some (n + 1, x, σ) = some tt) (hw : zwX own ik ic (n + 1))
    (d0 : decode cc pc = .ok (.new ik, 3)) (d3 : decode cc (pc + 3) = .ok (.dup, 1)) (d4 : decode cc (pc + 4) = .ok (.invokespecial ic, 3)) (d7 : decode cc (pc + 7) = .ok (.athrow, 1))
    (hR : 5 < R.frames ∧ (rest.map fun v => v.category).sum + 81 ≤ R.locals ∧ cells + 1 ≤ R.cells ∧ slots + 6 ≤ R.slots) (hc : cells + 1 ≤ mc ∧ slots + 6 ≤ ms) :
    W p l e R s m args below meth c H locs cells slots (vx_MQ below Qc (zxX L V tt A) args s mc ms A) (F0 m pc ls rest) := by
  cases h1
  obtain ⟨hx, hb, hml, hown, hts⟩ := C0
  have hZ0 := hZ
  obtain ⟨hP, hK, hD, hS, hA, hE⟩ := hZ
  refine vx_throw0 (cls := zXn (n + 1)) (names := ["java/lang/RuntimeException", "java/lang/Exception"]) hx hb hfl hown hw.2.2.2.2 (by decide +kernel) (hts _ hw.1) (hts _ hw.2.1) (fun w h => hts _ (hw.2.2.1 w h)) hw.2.2.2.1 hE.2.2.1 hE.2.2.2.1 hS (hsz.trans hml.symm) d0 d3 d4 d7 (fun x h => (hnt x h).elim) hR.1 hR.2.1 hR.2.2.1 hR.2.2.2 hlk (fun u hvm hz hk => ?_) hS.2.2 hc.1 hc.2
  obtain ⟨g1, g2, g3⟩ := z_kept hZ0 rfl hvm hz hk
  exact ⟨(), Nat.succ_ne_zero _, ⟨rfl, g1, g2⟩, g3⟩
/-- a call of a method that may throw, out of one that doesn't catch -/
theorem z_gox {tt t : zT3} {y9 : Int32 → zS → Option zT3} {mc' ms' mc ms : Nat} {Qc : Array Value → State → Outcome → State → Prop} {st0 : List Value} {a : Array Value} (hlk : meth.locks = false) (hnt : ∀ x ∈ c.exceptionTable.toList, False) (hZ : zZ L V A σ s H locs) (h1 : (tt.1 = 0 ∧ y9 tt.2.1 tt.2.2 = some t) ∨ (tt.1 ≠ 0 ∧ some ((tt.1, (0 : Int32), tt.2.2) : zT3) = some t))
    (hr : vx_Run p l e R s m args below meth c H locs cells slots mc' ms' (F0 m pc ls st0) rest (zxQv L V tt (va_A (zw L V σ) H.size) a) (zxX L V tt (va_A (zw L V σ) H.size)) (va_A (zw L V σ) H.size)) (hc : cells + mc' ≤ mc ∧ slots + ms' ≤ ms)
    (kk : ∀ (σ : zS) (H : Heap) (locs : List Loc), y9 tt.2.1 σ = some t → zZ L V A σ s H locs → W p l e R s m args below meth c H locs (cells + mc') (slots + ms') (vx_MQ below Qc (zxX L V t A) args s mc ms A) (F0 m (pc + 3) ls rest)) : W p l e R s m args below meth c H locs cells slots (vx_MQ below Qc (zxX L V t A) args s mc ms A) (F0 m pc ls st0) := by
  have hF := zfree hZ
  refine vx_callv hr hZ.2.2.2.1 (fun q _ h => hF q h) hF (fun q _ h => hF q h) (fun E ce q9 u w H1 locs1 hw hvm hp hB hz hk hS hce hcv hcl => ?_) (fun u w H1 locs1 hw hvm hp hB hz hk hS => ?_)
  · rcases h1 with ⟨h0, -⟩ | ⟨h0, h1⟩
    · exact absurd h0 hp
    · cases h1
      refine vx_out (fun x h => (hnt x h).elim) hlk hce hcv hcl (fun u9 hu hvm9 => ?_) hS.2.2 hc.1 hc.2
      obtain ⟨hE, hB1, hB2⟩ := hB
      exact ⟨(), hp, ⟨hE, by rw [hu, ← hw]; exact hB1, va_K.moved (u := s) hvm9 hZ.2.1⟩, hS.F hu⟩
  · rcases h1 with ⟨-, h1⟩ | ⟨h0, -⟩
    · exact kk _ H1 locs1 h1 (zZ_after hZ hw hvm hB.1 hS)
    · exact absurd hp h0
theorem zcallX {own : String} {idx : Nat} {y : MethodName} {b : ByteArray} {nY n f k mc ms : Nat} {ret : Option FieldType} (hts : ∀ w ∈ zT, w.before args s = true) (hl : Cond.methodLink own idx y ∈ zT) (hw : zwM own idx y b nY ret n) (hR : f + 1 ≤ R.frames ∧ 8 + (nY + 11) + k ≤ R.locals) : CallB R s args own idx y b nY ret (zws y b nY ret) { frames := f, cells := mc, slots := ms, locals := k } mc ms n := by
  obtain ⟨-, hi, hc, h1, h2, h3⟩ := hw
  exact ⟨rfl, rfl, hR.1, hR.2, zws_ok hts hc, List.mem_cons_self, hts _ hc, hts _ hi, ⟨h1, h2⟩, fun sig h => by rw [h] at h3; exact (Option.some.inj h3).symm, hts _ hl⟩
theorem z_xVv {y : MethodName} {b : ByteArray} {nY n f k idx ci q mc' ms' mc ms : Nat} {As st0 : List Value} {Fc : Option zT3} {g : Int32 → zS → Option zT3} {t : zT3} {Qc : Array Value → State → Outcome → State → Prop} (C0 : CallFix p m c cc nL s args zT own) (hlk : meth.locks = false) (hnt : ∀ x ∈ c.exceptionTable.toList, False) (hZ : zZ L V A σ s H locs) (h1 : zbx Fc g (fun n σ => some (n, 0, σ)) = some t) (hM : ∀ tt, Fc = some tt → zXv l y b nY f k mc' ms' L V σ tt (.ref (zad V q) :: As)) (hl : Cond.methodLink own idx y ∈ zT) (hw : zwM own idx y b nY none n) (hv : zwV ci y) (hq : kd L q = ci) (hst : st0 = As.reverse ++ .ref (zad V q) :: rest) (hn : As.length = n) (hsz : ls.size = nL) (hrest : (rest.map fun v => v.category).sum ≤ 8) (hR : f + 1 ≤ R.frames ∧ 8 + (nY + 11) + k ≤ R.locals) (hdg : decode cc pc = .ok (.invokevirtual idx, 3)) (hf : cells + mc' ≤ R.cells ∧ slots + ms' ≤ R.slots) (hc : cells + mc' ≤ mc ∧ slots + ms' ≤ ms)
    (kk : ∀ (r : Int32) (σ : zS) (H : Heap) (locs : List Loc), g r σ = some t → zZ L V A σ s H locs → W p l e R s m args below meth c H locs (cells + mc') (slots + ms') (vx_MQ below Qc (zxX L V t A) args s mc ms A) (F0 m (pc + 3) ls rest)) : W p l e R s m args below meth c H locs cells slots (vx_MQ below Qc (zxX L V t A) args s mc ms A) (F0 m pc ls st0) := by
  obtain ⟨tt, hFc, h1⟩ := zbx_some h1
  obtain ⟨hin, hse, hci, T, M, hcl⟩ := hv
  have hts := C0.2.2.2.2
  have hqn : q < nC L := kd_lt (by omega)
  have he : (zw L V σ)[q]? = some (zad V q, .inr (ci, zfs V σ q (tp ci))) := by rw [zw_get hqn, zE_obj hq hci]
  have hp : PreV s H y.cls (zad V q) (va_Pc (.ref (zad V q) :: As) (zPre L V σ H.size)) As := ⟨zPre_blind, va_recv hZ.2.1 hZ.1 hcl he, fun U hU hW => ⟨rfl, zZ_pre hZ hU hW⟩⟩
  exact z_gox (y9 := g) hlk hnt hZ h1 (vx_runV C0 (hM _ hFc H.size) ⟨zcallX hts hl hw hR, hts _ hin, hts _ hse⟩ hp rfl hn hsz hst (lv_room hrest) hdg hf) hc (fun σ1 H1 locs1 h hZ1 => kk tt.2.1 σ1 H1 locs1 h hZ1)
theorem z_xSv {y : MethodName} {b : ByteArray} {nY n f k idx mc' ms' mc ms : Nat} {As st0 : List Value} {Fc : Option zT3} {g : Int32 → zS → Option zT3} {t : zT3} {Qc : Array Value → State → Outcome → State → Prop} (C0 : CallFix p m c cc nL s args zT own) (hlk : meth.locks = false) (hnt : ∀ x ∈ c.exceptionTable.toList, False) (hZ : zZ L V A σ s H locs) (h1 : zbx Fc g (fun n σ => some (n, 0, σ)) = some t) (hM : ∀ tt, Fc = some tt → zXv l y b nY f k mc' ms' L V σ tt As) (hl : Cond.methodLink own idx y ∈ zT) (hw : zwM own idx y b nY none n) (hs : Cond.static y ∈ zT) (hst : st0 = As.reverse ++ rest) (hn : As.length = n) (hsz : ls.size = nL) (hrest : (rest.map fun v => v.category).sum ≤ 8) (hR : f + 1 ≤ R.frames ∧ 8 + (nY + 11) + k ≤ R.locals) (hdg : decode cc pc = .ok (.invokestatic idx, 3)) (hf : cells + mc' ≤ R.cells ∧ slots + ms' ≤ R.slots) (hc : cells + mc' ≤ mc ∧ slots + ms' ≤ ms)
    (kk : ∀ (r : Int32) (σ : zS) (H : Heap) (locs : List Loc), g r σ = some t → zZ L V A σ s H locs → W p l e R s m args below meth c H locs (cells + mc') (slots + ms') (vx_MQ below Qc (zxX L V t A) args s mc ms A) (F0 m (pc + 3) ls rest)) : W p l e R s m args below meth c H locs cells slots (vx_MQ below Qc (zxX L V t A) args s mc ms A) (F0 m pc ls st0) := by
  obtain ⟨tt, hFc, h1⟩ := zbx_some h1
  have hts := C0.2.2.2.2
  have hp : PreS s H (va_Pc As (zPre L V σ H.size)) As := ⟨zPre_blind, fun U hU hW => ⟨rfl, zZ_pre hZ hU hW⟩⟩
  exact z_gox (y9 := g) hlk hnt hZ h1 (vx_runS C0 (hM _ hFc H.size) ⟨zcallX hts hl hw hR, hts _ hs⟩ hp rfl hn hsz hst (lv_room hrest) hdg hf) hc (fun σ1 H1 locs1 h hZ1 => kk tt.2.1 σ1 H1 locs1 h hZ1)
end ZX
