/-! constructors: worlds as lists of cells while they are made -/
def zC (V : zV) (A : Nat → Prop) (s : State) (H : Heap) (locs : List Loc) (ws : va_W) : Prop := va_P V.1 vwCl ws H ∧ va_K V.1 vwCl (ztys 1 V) s ∧ va_D A ws ∧ va_S A s.heap H locs ∧ (∀ q, s.heap.size ≤ q → A q) ∧ zEv V A s s.heap
def zCpre (V : zV) (ws : va_W) (sz : Nat) : State → Prop := fun U => U.heap.size = sz ∧ va_P V.1 vwCl ws U.heap ∧ va_K V.1 vwCl (ztys 1 V) U ∧ va_D (fun _ => True) ws ∧ zEv V (va_A ws sz) U U.heap
def zCQ (V : zV) (h0 : Nat) (W1 : (Nat → Nat) → va_W) (A : Nat → Prop) : Array Value → State → Outcome → State → Prop := va_Qv (fun q : Nat → Nat => q 0 = h0) (fun q u => va_P V.1 vwCl (W1 q) u.heap ∧ va_K V.1 vwCl (ztys 1 V) u ∧ va_D A (W1 q)) A
def zCi (l : Launch) (y : MethodName) (b : ByteArray) (nL f n mc ms : Nat) (V : zV) (h0 ci : Nat) (fs : List Value) (av : List Value) (W1 : (Nat → Nat) → va_W) : Prop :=
  ∀ sz, Met l y (zws y b nL none) { frames := f, cells := mc, slots := ms, locals := n } (va_Pc (.ref h0 :: av) (zCpre V [(h0, .inr (ci, fs))] sz)) (zCQ V h0 W1 (va_A [(h0, .inr (ci, fs))] sz)) mc ms (va_A [(h0, .inr (ci, fs))] sz)
section ZC
variable {p : Program} {l : Launch} {e : Env} {R : Room} {s : State} {m : MethodId} {args : Array Value} {below : List Frame} {meth : Method} {c : Code} {H : Heap} {locs : List Loc} {cells slots : Nat} {Q : State → Prop} {pc nL : Nat} {ls : Array Slot} {rest : List Value} {cc : ByteArray} {own : String} {V : zV} {A : Nat → Prop}
theorem zC_pre {ws wc : va_W} (h : zC V A s H locs ws) (is : List Nat) (hc : is.map (fun i => ws[i]?) = wc.map some) (hn : va_nd is = true) {U : State} (hU : U.heap = H) (hW : s.WarmedH U.vm) : zCpre V wc H.size U := by
  obtain ⟨hP, hK, hD, hS, hA, hE⟩ := h
  have hF := va_free hD hS hA is hc
  have hPc : va_P V.1 vwCl wc H := by
    intro k q hk
    have h1 : (is.map (fun i => ws[i]?))[k]? = some (some q) := by rw [hc, List.getElem?_map, hk]; rfl
    rw [List.getElem?_map] at h1
    cases hi : is[k]? with
    | none => rw [hi] at h1; cases h1
    | some i => rw [hi] at h1; exact hP i q (Option.some.inj h1)
  refine ⟨by rw [hU], by rw [hU]; exact hPc, va_K.moved hW.alike hK, (hD.sub is hn hc).weaken (fun _ _ _ _ => trivial), ?_⟩
  rw [hU]
  exact ((hE.kept hS.2.1).narrow hF).warm hW
theorem zCpre_blind {av : List Value} {ws : va_W} {sz : Nat} : FrameBlind (va_Pc av (zCpre V ws sz)) := by
  intro a U g mk q
  obtain ⟨q0, q1, qP, qK, qD, qE⟩ := q
  exact ⟨q0, q1, qP, va_K.moved (u := U) (U := U.calling g mk a) (Vm.Alike.refl U.vm) qK, qD, qE.same rfl⟩
theorem zCi_of {y : MethodName} {b : ByteArray} {f n mc ms h0 ci : Nat} {fs av : List Value} {W1 : (Nat → Nat) → va_W} (hy : plainName y.cls = true) (hlen : (lg_sl (.ref h0 :: av)).length ≤ nL)
    (body : ∀ (p : Program) (e : Env) (s : State) (m : MethodId) (below : List Frame) (meth : Method) (c : Code) (A : Nat → Prop), CallFix p m c b nL s (.ref h0 :: av : List Value).toArray zT y.cls → meth.sig.returnType = none → meth.locks = false → meth.name = y.name → zC V A s s.heap [] [(h0, .inr (ci, fs))] → ∀ ls, lv_has ls nL (lv_args 0 (.ref h0 :: av)) → W p l e { frames := f, cells := mc, slots := ms, locals := n } s m (.ref h0 :: av : List Value).toArray below meth c s.heap [] 0 0 (MQ below (zCQ V h0 W1 A) (.ref h0 :: av : List Value).toArray s mc ms A) (F0 m 0 ls [])) : zCi l y b nL f n mc ms V h0 ci fs av W1 := by
  intro sz
  refine Met.ofW (cc := b) (maxL := nL) (ret := none) hy rfl ?_
  intro p e s m args below meth c s₁ B hml hv
  obtain ⟨rfl, hsz, hP, hK, hD0, hE⟩ := hv
  have hts := atoms_spec (ws := zws y b nL none) B.pre
  have hown : s.vm.findClass y.cls = some m.cls := findClass_of_methodNamed B.named
  subst hsz
  have hD := hD0.self (sz := s.heap.size)
  have hl := lv_entry (.ref h0 :: av) (n := nL) hlen
  rw [lg_entry_eq]
  exact body p e s m below meth c _ ⟨B.exec, B.bytes, hml, hown, fun w hw => hts w (List.mem_cons_of_mem _ hw)⟩ B.returns B.notSynchronized (name_of_methodNamed B.named B.method).1 ⟨hP, hK, hD, va_S.rf, fun q h => Or.inr h, hE⟩ _ hl
theorem zc_vret (C : CallFix p m c cc nL s args zT own) {h0 mc ms : Nat} {W1 : (Nat → Nat) → va_W} {ws : va_W} (q : Nat → Nat) (is : List Nat) (hr : meth.sig.returnType = none) (hlk : meth.locks = false) (hZ : zC V A s H locs ws) (hq : q 0 = h0) (hW1 : is.map (fun i => ws[i]?) = (W1 q).map some) (hn : va_nd is = true) (hc : cells ≤ mc ∧ slots ≤ ms) (hdg : decode cc pc = .ok (.return_, 1)) : W p l e R s m args below meth c H locs cells slots (MQ below (zCQ V h0 W1 A) args s mc ms A) (F0 m pc ls []) := by
  obtain ⟨hP, hK, hD, hS, hA, hE⟩ := hZ
  have hPc : va_P V.1 vwCl (W1 q) H := by
    intro k x hk
    have h1 : (is.map (fun i => ws[i]?))[k]? = some (some x) := by rw [hW1, List.getElem?_map, hk]; rfl
    rw [List.getElem?_map] at h1
    cases hi : is[k]? with
    | none => rw [hi] at h1; cases h1
    | some i => rw [hi] at h1; exact hP i x (Option.some.inj h1)
  refine W.widen hc.1 hc.2 ?_
  exact W.vret C.1 C.2.1 hr (fun u hu hW => ⟨⟨q, rfl, hq, by rw [hu]; exact hPc, va_K.moved hW.alike hK, hD.sub is hn hW1⟩, hS.F hu⟩) hS.2.2 hdg hlk
def zow (own : String) (idx : Nat) : Prop := Cond.methodLink own idx Lib.objectInit ∈ zT ∧ Cond.instanceMethod Lib.objectInit ∈ zT ∧ Cond.code Lib.objectInit ⟨#[0xb1]⟩ 1 none ∈ zT
theorem zc_obj (C : CallFix p m c cc nL s args zT own) (hsz : ls.size = nL) {idx a : Nat} (hw : zow own idx) (hdg : decode cc pc = .ok (.invokespecial idx, 3)) (hR : 1 ≤ R.frames ∧ 2 * (F0 m pc ls (.ref a :: rest)).monitorRoom + (rest.map fun v => v.category).sum + 12 ≤ R.locals)
    (kk : W p l e R s m args below meth c H locs cells slots Q (F0 m (pc + 3) ls rest)) : W p l e R s m args below meth c H locs cells slots Q (F0 m pc ls (.ref a :: rest)) := by
  obtain ⟨hx, hb, hml, hown, hts⟩ := C
  exact W.objInit hx hb hown (hts _ hw.1) (hts _ hw.2.1) (hts _ hw.2.2) (g := F0 m pc ls (.ref a :: rest)) rfl (hsz.trans hml.symm) rfl hdg hR.1 hR.2 kk
theorem zc_put (C0 : CallFix p m c cc nL s args zT own) {h0 idx ci j M : Nat} {fs fs' : List Value} {r : va_W} {C : String} {T : u_T} {ty0 : Nat → FieldType} {v : Value} (hZ : zC V A s H locs ((h0, .inr (ci, fs)) :: r)) (hinit : meth.name = "<init>") (hw : zfw own idx ci j M C T) (hl : Cond.fieldLink own idx (T j).1 (T j).2.1 (T j).2.2.1 ∈ zT)
    (hty : ∀ k, k < M → parseFieldDescriptor (T k).2.2.1 = some (ty0 k)) (hnm : ∀ a, a < M → ∀ b, b < M → a ≠ b → (T a).2.1 ≠ (T b).2.1) (hdecl : (T j).1 = own) (hn : narrow (ty0 j) v = v) (hfit : fits (ty0 j) v = true) (hjl : j < fs.length) (hfs : fs.set j v = fs') (hdg : decode cc pc = .ok (.putfield idx, 3))
    (kk : ∀ (H : Heap) (locs : List Loc), zC V A s H locs ((h0, .inr (ci, fs')) :: r) → W p l e R s m args below meth c H locs cells slots Q (F0 m (pc + 3) ls rest)) : W p l e R s m args below meth c H locs cells slots Q (F0 m pc ls (v :: .ref h0 :: rest)) := by
  obtain ⟨hx, hb, -, hown, hts⟩ := C0
  obtain ⟨hP, hK, hD, hS, hA, hE⟩ := hZ
  obtain ⟨hc, hj, hin, hci, -⟩ := hw
  subst hfs
  have fin : ∀ (H1 : Heap) (locs1 : List Loc), va_P V.1 vwCl (((h0, .inr (ci, fs)) :: r : va_W).set 0 (h0, .inr (ci, fs.set j v))) H1 → va_D A (((h0, .inr (ci, fs)) :: r : va_W).set 0 (h0, .inr (ci, fs.set j v))) → va_S A s.heap H1 locs1 → W p l e R s m args below meth c H1 locs1 cells slots Q (F0 m (pc + 3) ls rest) := fun H1 locs1 h1 h2 h3 => kk H1 locs1 ⟨h1, hK, h2, h3, hA, hE⟩
  cases hf : (T j).2.2.2 with
  | false => exact va_put hx hb hts hin ty0 hty hnm hown hK hP hD hS 0 rfl hc j hj (hts _ hl) (fun _ h => h) hf (hty j hj) hn hfit hjl hdg fin
  | true => exact va_putF hx hb hts hin ty0 hty hnm hown hK hP hD hS 0 rfl hc j hj (hts _ hl) (fun _ h => h) hf hinit hdecl (hty j hj) hn hfit hjl hdg fin
theorem zc_newa (C0 : CallFix p m c cc nL s args zT own) {ws : va_W} (hZ : zC V A s H locs ws) {n : Int32} {N : Nat} (harr : Cond.arrayClass .int ∈ zT) (hn : ¬ n < 0) (hN : n.toNatClampNeg = N) (hb9 : N * 4 ≤ 536870912) (hc : cells + 1 ≤ R.cells ∧ slots + N ≤ R.slots) (hdg : decode cc pc = .ok (.newarray .int, 2))
    (kk : ∀ (q : Nat) (H : Heap), zC V A s H locs (ws ++ [(q, .inl (V.2.1.1, (N, .inl (fun _ => 0))))]) → W p l e R s m args below meth c H locs (cells + 1) (slots + N) Q (F0 m (pc + 2) ls (.ref q :: rest))) : W p l e R s m args below meth c H locs cells slots Q (F0 m pc ls (.int n :: rest)) := by
  obtain ⟨hx, hb, -, hown, hts⟩ := C0
  obtain ⟨hP, hK, hD, hS, hA, hE⟩ := hZ
  refine va_newa (atype := .int) (ty := .int) (N' := N) (a0 := (N, .inl (fun _ => 0))) hx hb (hts _ harr) rfl hK hP hD hS hA (fun _ => rfl) hn hN hb9 hc.1 hc.2 hdg (fun q cA H1 k1 k2 k3 k4 => ?_)
  have e1 : s.vm.findClass ("[" ++ FieldType.int.toString) = some cA := (k1.2 2 (cA, .int) rfl).2
  have e2 : s.vm.findClass ("[" ++ FieldType.int.toString) = some V.2.1.1 := (hK.2 0 (V.2.1.1, .int) rfl).2
  have e3 : cA = V.2.1.1 := Option.some.inj (e1.symm.trans e2)
  subst e3
  exact kk q H1 ⟨k2, hK, k3, k4, hA, hE⟩
theorem zc_new (C0 : CallFix p m c cc nL s args zT own) {ws : va_W} (hZ : zC V A s H locs ws) {ci idx N : Nat} {C : String} {T : u_T} {ty : Nat → FieldType} {fs : List Value} (hin : ∀ w ∈ u_ws C T N, w ∈ zT) (hty : ∀ k, k < N → parseFieldDescriptor (T k).2.2.1 = some (ty k)) (hcl : Cond.classLink own idx C ∈ zT) (hinst : Cond.instantiable C N ∈ zT) (hini : Cond.initialized C ∈ zT) (hci : vwCl[ci]? = some (C, T, N)) (hfs : ∀ j, j < N → defaultValue (ty j) = vp_V fs j) (hc : cells + 1 ≤ R.cells ∧ slots + N ≤ R.slots) (hdg : decode cc pc = .ok (.new idx, 3))
    (kk : ∀ (q : Nat) (H : Heap), zC V A s H locs (ws ++ [(q, .inr (ci, fs))]) → W p l e R s m args below meth c H locs (cells + 1) (slots + N) Q (F0 m (pc + 3) ls (.ref q :: rest))) : W p l e R s m args below meth c H locs cells slots Q (F0 m pc ls rest) := by
  obtain ⟨hx, hb, -, hown, hts⟩ := C0
  obtain ⟨hP, hK, hD, hS, hA, hE⟩ := hZ
  exact va_new hx hb hts hin ty hty hown (hts _ hcl) (hts _ hinst) (hts _ hini) hK hP hD hS hA hci hfs hc.1 hc.2 hdg (fun q H1 k2 k3 k4 => kk q H1 ⟨k2, hK, k3, k4, hA, hE⟩)
theorem zc_join {ws w1 : va_W} {x : Nat × va_E} {H1 : Heap} (hP : va_P V.1 vwCl (ws ++ [x]) H) (hD : va_D A (ws ++ [x])) (hk : ∀ q : Nat, q < H.size → ¬ va_A [x] H.size q → H1[q]? = H[q]?) (hF : ∀ q, va_A [x] H.size q → A q) (hP1 : va_P V.1 vwCl w1 H1) (hD1 : va_D (va_A [x] H.size) w1) : va_P V.1 vwCl (ws ++ w1) H1 ∧ va_D A (ws ++ w1) := by
  have apart : ∀ (k : Nat) (q : Nat × va_E), ws[k]? = some q → q.1 < H.size ∧ ¬ va_A [x] H.size q.1 := by
    intro k q hq
    have hk1 : k < ws.length := (List.getElem?_eq_some_iff.mp hq).1
    have h2 : (ws ++ [x])[k]? = some q := by rw [List.getElem?_append_left hk1]; exact hq
    have hl := (hP k q h2).lt
    refine ⟨hl, fun h => ?_⟩
    rcases h with ⟨k2, e, h⟩ | h
    · have h4 : (ws ++ [x])[ws.length]? = some x := by rw [List.getElem?_append_right (Nat.le_refl _), Nat.sub_self]; rfl
      have h3 : (q.1, e) = x := by
        match k2, h with
        | 0, h => exact (Option.some.inj h).symm
        | k2 + 1, h => simp at h
      have h5 := hD.1 k ws.length q x h2 h4 (by rw [← h3])
      omega
    · omega
  have hPw : va_P V.1 vwCl ws H := fun k q hq => hP k q (by rw [List.getElem?_append_left (List.getElem?_eq_some_iff.mp hq).1]; exact hq)
  have hDw : va_D A ws := ⟨fun i j a b hi hj hab => hD.1 i j a b (by rw [List.getElem?_append_left (List.getElem?_eq_some_iff.mp hi).1]; exact hi) (by rw [List.getElem?_append_left (List.getElem?_eq_some_iff.mp hj).1]; exact hj) hab, fun k q hq => hD.2 k q (by rw [List.getElem?_append_left (List.getElem?_eq_some_iff.mp hq).1]; exact hq)⟩
  refine ⟨va_P.app (fun k q hq => ?_) hP1, va_D.app hDw (hD1.weaken (fun k q _ h => hF q.1 h)) (fun i j a b ha hb hab => ?_)⟩
  · obtain ⟨g1, g2⟩ := apart k q hq
    exact (hPw k q hq).kept (hk q.1 g1 g2)
  · exact (apart i a ha).2 (by rw [hab]; exact hD1.2 j b hb)
/-- the constructor of what was made last -/
theorem zc_init {y : MethodName} {b : ByteArray} {nY n f k idx ci h mc ms : Nat} {fs As st0 : List Value} {ws : va_W} {W1 : (Nat → Nat) → va_W} (C0 : CallFix p m c cc nL s args zT own) (hZ : zC V A s H locs (ws ++ [(h, .inr (ci, fs))])) (hM : zCi l y b nY f k mc ms V h ci fs As W1) (hw : zwM own idx y b nY none n) (hin : Cond.instanceMethod y ∈ zT) (hyn : y.name = "<init>") (hst : st0 = As.reverse ++ .ref h :: rest) (hn : As.length = n) (hsz : ls.size = nL) (hrest : (rest.map fun v => v.category).sum ≤ 8) (hR : f + 1 ≤ R.frames ∧ 8 + (nY + 11) + k ≤ R.locals) (hdg : decode cc pc = .ok (.invokespecial idx, 3)) (hf : cells + mc ≤ R.cells ∧ slots + ms ≤ R.slots)
    (kk : ∀ (q : Nat → Nat) (H : Heap) (locs : List Loc), q 0 = h → zC V A s H locs (ws ++ W1 q) → W p l e R s m args below meth c H locs (cells + mc) (slots + ms) Q (F0 m (pc + 3) ls rest)) : W p l e R s m args below meth c H locs cells slots Q (F0 m pc ls st0) := by
  obtain ⟨hl, hi, hc, g1, g2, g3⟩ := id hw
  have hts := C0.2.2.2.2
  have hplace : [ws.length].map (fun i => (ws ++ [(h, .inr (ci, fs))] : va_W)[i]?) = [(h, (.inr (ci, fs) : va_E))].map some := by
    show [(ws ++ [(h, .inr (ci, fs))] : va_W)[ws.length]?] = _
    rw [List.getElem?_append_right (Nat.le_refl _), Nat.sub_self]
    rfl
  have hp : PreS s H (va_Pc (.ref h :: As) (zCpre V [(h, .inr (ci, fs))] H.size)) (.ref h :: As) := ⟨zCpre_blind, fun U hU hW => ⟨rfl, zC_pre hZ [ws.length] hplace (by simp [va_nd]) hU hW⟩⟩
  have hF := va_free (wc := [(h, .inr (ci, fs))]) hZ.2.2.1 hZ.2.2.2.1 hZ.2.2.2.2.1 [ws.length] hplace
  have run : va_Run p l e R s m args below meth c H locs cells slots mc ms (F0 m pc ls st0) rest (zCQ V h W1 (va_A [(h, .inr (ci, fs))] H.size) (Value.ref h :: As).toArray) (va_A [(h, .inr (ci, fs))] H.size) := by
    rcases hl with hl | ⟨host, hl⟩
    · exact va_runI C0 (hM H.size) ⟨⟨rfl, rfl, hR.1, hR.2, zws_ok hts hc, List.mem_cons_self, hts _ hc, hts _ hi, ⟨g1, g2⟩, fun sig h => by rw [h] at g3; exact (Option.some.inj g3).symm, hts _ hl⟩, hyn, hts _ hin⟩ hp rfl hn hsz hst (lv_room hrest) hdg hf
    · exact va_runIN C0 (hM H.size) ⟨⟨⟨rfl, rfl, hR.1, hR.2, zws_ok hts hc, List.mem_cons_self⟩, hts _ hc, hts _ hi, ⟨g1, g2⟩, fun sig h => by rw [h] at g3; exact (Option.some.inj g3).symm, hts _ hl⟩, hyn, hts _ hin⟩ hp rfl hn hsz hst (lv_room hrest) hdg hf
  obtain ⟨hP, hK, hD, hS, hA, hE⟩ := hZ
  refine va_callv run hS (fun q _ h => hF q h) hF (fun q u H1 locs1 ht hvm hq hB hz hk hS1 => ?_)
  obtain ⟨hP1, hK1, hD1⟩ := hB
  rw [ht] at hP1
  obtain ⟨j1, j2⟩ := zc_join hP hD hk hF hP1 hD1
  exact kk q H1 locs1 hq ⟨j1, hK, j2, hS1, hA, hE⟩
end ZC
section ZC2
variable {p : Program} {l : Launch} {e : Env} {R : Room} {s : State} {m : MethodId} {args : Array Value} {below : List Frame} {meth : Method} {c : Code} {H : Heap} {locs : List Loc} {cells slots : Nat} {Q : State → Prop} {pc nL : Nat} {ls : Array Slot} {rest : List Value} {cc : ByteArray} {own : String} {V : zV} {A : Nat → Prop}
theorem zc_iast (C0 : CallFix p m c cc nL s args zT own) {ws ws' : va_W} (hZ : zC V A s H locs ws) (k : Nat) {a n : Nat} {f : Nat → Int32} {i x : Int32} (ha : ws[k]? = some (a, .inl (V.2.1.1, (n, .inl f)))) (hi : vp_in i n) (hs : ws.set k (a, .inl (V.2.1.1, (n, .inl (upd f i.toNatClampNeg x)))) = ws') (hdg : decode cc pc = .ok (.iastore, 1))
    (kk : ∀ (H : Heap) (locs : List Loc), zC V A s H locs ws' → W p l e R s m args below meth c H locs cells slots Q (F0 m (pc + 1) ls rest)) : W p l e R s m args below meth c H locs cells slots Q (F0 m pc ls (.int x :: .int i :: .ref a :: rest)) := by
  subst hs
  obtain ⟨hP, hK, hD, hS, hA, hE⟩ := hZ
  exact va_iast C0.1 C0.2.1 hK hP hD hS k 0 ha rfl hi hdg (fun H1 locs1 g1 g2 g3 => kk H1 locs1 ⟨g1, hK, g2, g3, hA, hE⟩)
theorem zc_newq (C0 : CallFix p m c cc nL s args zT own) {ws : va_W} (hZ : zC V A s H locs ws) {n : Int32} {N idx : Nat} (hcl : Cond.classLink own idx "java/lang/String" ∈ zT) (hover : va_AO "java/lang/String" s) (hn : ¬ n < 0) (hN : n.toNatClampNeg = N) (hb9 : N * 4 ≤ 536870912) (hc : cells + 1 ≤ R.cells ∧ slots + N ≤ R.slots) (hdg : decode cc pc = .ok (.anewarray idx, 3))
    (kk : ∀ (q : Nat) (H : Heap), zC V A s H locs (ws ++ [(q, .inl (V.2.1.2, (N, .inr (.inr (.inr (.inr (fun _ => none)))))))]) → W p l e R s m args below meth c H locs (cells + 1) (slots + N) Q (F0 m (pc + 3) ls (.ref q :: rest))) : W p l e R s m args below meth c H locs cells slots Q (F0 m pc ls (.int n :: rest)) := by
  obtain ⟨hx, hb, -, hown, hts⟩ := C0
  obtain ⟨hP, hK, hD, hS, hA, hE⟩ := hZ
  refine va_newq (C := "java/lang/String") hx hb hown (hts _ hcl) hover hK hP hD hS hA hn hN hb9 hc.1 hc.2 hdg (fun q cA H1 k1 k2 k3 k4 => ?_)
  have e1 : va_RA s cA (.object "java/lang/String") := (k1.2 2 (cA, .object "java/lang/String") rfl).2
  have e2 : va_RA s V.2.1.2 (.object "java/lang/String") := (hK.2 1 (V.2.1.2, .object "java/lang/String") rfl).2
  obtain ⟨-, -, -, -, -, f1⟩ := e1
  obtain ⟨-, -, -, -, -, f2⟩ := e2
  have e3 : cA = V.2.1.2 := Option.some.inj (f1.symm.trans f2)
  subst e3
  exact kk q H1 ⟨k2, hK, k3, k4, hA, hE⟩
theorem zc_aast (C0 : CallFix p m c cc nL s args zT own) {ws ws' : va_W} (hZ : zC V A s H locs ws) (k : Nat) {a n j : Nat} {f : Nat → Option Nat} {i : Int32} (ha : ws[k]? = some (a, .inl (V.2.1.2, (n, .inr (.inr (.inr (.inr f))))))) (hj : j < zN) (hi : vp_in i n) (hs : ws.set k (a, .inl (V.2.1.2, (n, .inr (.inr (.inr (.inr (va_up f i.toNatClampNeg (some (V.2.2.2.1 j))))))))) = ws') (hdg : decode cc pc = .ok (.aastore, 1))
    (kk : ∀ (H : Heap) (locs : List Loc), zC V A s H locs ws' → W p l e R s m args below meth c H locs cells slots Q (F0 m (pc + 1) ls rest)) : W p l e R s m args below meth c H locs cells slots Q (F0 m pc ls (.ref (V.2.2.2.1 j) :: .int i :: .ref a :: rest)) := by
  subst hs
  obtain ⟨hP, hK, hD, hS, hA, hE⟩ := hZ
  have hr : va_Any "java/lang/String" s H (V.2.2.2.1 j) := by
    obtain ⟨cell, h1, h2, h3⟩ := vk_recv hE.1 hj hS
    obtain ⟨kC, hkC, -⟩ := Vm.findClass_spec h3
    refine ⟨cell, h1, h2, ⟨kC, hkC⟩, fun comp h => ?_⟩
    have e : comp = cell.cls := Option.some.inj (h.symm.trans h3)
    rw [e]
    exact va_asg _ _
  exact va_astqM C0.1 C0.2.1 hK hP hD hS k 1 ha rfl hr hi hdg (fun H1 locs1 g1 g2 g3 => kk H1 locs1 ⟨g1, hK, g2, g3, hA, hE⟩)
theorem zc_ldcS (C0 : CallFix p m c cc nL s args zT own) {ws : va_W} (hZ : zC V A s H locs ws) {idx i : Nat} {tx : String} (hr : (own, idx, tx, i) ∈ zStr) (hdg : decode cc pc = .ok (.ldc idx, 2))
    (kk : W p l e R s m args below meth c H locs cells slots Q (F0 m (pc + 2) ls (.ref (V.2.2.2.1 i) :: rest))) : W p l e R s m args below meth c H locs cells slots Q (F0 m pc ls rest) :=
  va_ldcS C0.1 C0.2.1 C0.2.2.2.1 (hZ.2.2.2.2.2.2.1 _ hr) hdg kk
end ZC2
section ZC3
variable {p : Program} {l : Launch} {e : Env} {R : Room} {s : State} {m : MethodId} {args : Array Value} {below : List Frame} {meth : Method} {c : Code} {H : Heap} {locs : List Loc} {cells slots : Nat} {Q : State → Prop} {pc nL : Nat} {ls : Array Slot} {rest : List Value} {cc : ByteArray} {own : String} {V : zV} {A : Nat → Prop}
theorem zc_get (C0 : CallFix p m c cc nL s args zT own) {h0 idx ci j M : Nat} {fs : List Value} {r : va_W} {C : String} {T : u_T} {v : Value} (hZ : zC V A s H locs ((h0, .inr (ci, fs)) :: r)) (hw : zfw own idx ci j M C T) (hv : fs[j]? = some v) (hdg : decode cc pc = .ok (.getfield idx, 3))
    (kk : W p l e R s m args below meth c H locs cells slots Q (F0 m (pc + 3) ls (v :: rest))) : W p l e R s m args below meth c H locs cells slots Q (F0 m pc ls (.ref h0 :: rest)) := by
  obtain ⟨hx, hb, -, hown, hts⟩ := C0
  obtain ⟨hP, hK, -⟩ := hZ
  obtain ⟨hc, hj, hin, hci, hl⟩ := hw
  rcases hl with hl | ⟨host, hl⟩
  · exact va_get hx hb hts hin hown hK hP 0 rfl hc j hj (hts _ hl) (fun _ h => h) hv hdg kk
  · exact va_getN hx hb hts hin hown hK hP 0 rfl hc j hj (hts _ hl) (fun _ h => h) hv hdg kk
end ZC3
