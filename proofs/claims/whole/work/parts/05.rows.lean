/-! the words of the programs as functions: a call's answer and what it leaves, a value by a name, a place in its row, one turn of a loop -/
def zbd {β : Type} (x : Option (Int32 × zS)) (f : Int32 → zS → Option β) : Option β := match x with | some q => f q.1 q.2 | none => none
def zlet {α β : Type} (a : α) (f : α → β) : β := f a
def zin {β : Type} (n : Nat) (i : Int32) (r : Option β) : Option β := if i < 0 ∨ n ≤ i.toNatClampNeg then none else r
def zgd {β : Type} (b : Bool) (r : Option β) : Option β := match b with | true => r | false => none
def zinr {α β : Type} (x : Option β) : Option (α ⊕ β) := match x with | some b => some (.inr b) | none => none
def zit {α β : Type} (f : α → Option (α ⊕ β)) : Nat → α → Option β
  | 0, _ => none
  | n + 1, a => match f a with | none => none | some (.inl a') => zit f n a' | some (.inr b) => some b
noncomputable def zlp {α β : Type} (f : α → Option (α ⊕ β)) (a : α) : Option β := @dite _ (∃ b n, zit f n a = some b) (Classical.propDecidable _) (fun h => some (Classical.choose h)) (fun _ => none)
def zK {α β : Type} (f : α → Option (α ⊕ β)) (n : Nat) (b : β) (t : α ⊕ β) : Prop := match t with | .inl a => zit f n a = some b | .inr b' => b' = b
theorem zbd_some {β : Type} {x : Option (Int32 × zS)} {f : Int32 → zS → Option β} {t : β} (h : zbd x f = some t) : ∃ r σ, x = some (r, σ) ∧ f r σ = some t := by
  cases x with
  | none => cases h
  | some q => exact ⟨q.1, q.2, rfl, h⟩
theorem zin_some {β : Type} {n : Nat} {i : Int32} {r : Option β} {t : β} (h : zin n i r = some t) : vp_in i n ∧ r = some t := by
  unfold zin at h
  by_cases hc : i < 0 ∨ n ≤ i.toNatClampNeg
  · rw [if_pos hc] at h; cases h
  · rw [if_neg hc] at h; exact ⟨hc, h⟩
theorem zgd_some {β : Type} {b : Bool} {r : Option β} {t : β} (h : zgd b r = some t) : b = true ∧ r = some t := by
  cases b with
  | false => cases h
  | true => exact ⟨rfl, h⟩
theorem zit_1 {α β : Type} {f : α → Option (α ⊕ β)} {n : Nat} {a : α} {b : β} (h : zit f (n + 1) a = some b) : ∃ t, f a = some t ∧ zK f n b t := by
  unfold zit at h
  cases hf : f a with
  | none => rw [hf] at h; cases h
  | some t =>
    refine ⟨t, rfl, ?_⟩
    rw [hf] at h
    cases t with
    | inl a' => exact h
    | inr b' => exact Option.some.inj h
theorem zit_mono {α β : Type} {f : α → Option (α ⊕ β)} : ∀ {n : Nat} {a : α} {b : β}, zit f n a = some b → ∀ m, n ≤ m → zit f m a = some b := by
  intro n
  induction n with
  | zero => intro a b h; cases h
  | succ n ih =>
    intro a b h m hm
    obtain ⟨t, h1, h2⟩ := zit_1 h
    obtain ⟨m, rfl⟩ : ∃ k, m = k + 1 := ⟨m - 1, by omega⟩
    unfold zit
    rw [h1]
    cases t with
    | inl a' => exact ih h2 m (by omega)
    | inr b' => exact congrArg some h2
theorem zit_det {α β : Type} {f : α → Option (α ⊕ β)} {n m : Nat} {a : α} {b b' : β} (h : zit f n a = some b) (h' : zit f m a = some b') : b = b' := by
  have e1 := zit_mono h (max n m) (Nat.le_max_left ..)
  have e2 := zit_mono h' (max n m) (Nat.le_max_right ..)
  rw [e1] at e2
  exact Option.some.inj e2
theorem zlp_iff {α β : Type} {f : α → Option (α ⊕ β)} {a : α} {b : β} : zlp f a = some b ↔ ∃ n, zit f n a = some b := by
  unfold zlp
  constructor
  · intro h
    by_cases hc : ∃ b n, zit f n a = some b
    · rw [dif_pos hc] at h
      cases h
      exact Classical.choose_spec hc
    · rw [dif_neg hc] at h; cases h
  · intro ⟨n, h⟩
    have hc : ∃ b n, zit f n a = some b := ⟨b, n, h⟩
    rw [dif_pos hc]
    obtain ⟨m, hm⟩ := Classical.choose_spec hc
    exact congrArg some (zit_det hm h)
theorem zout {α β : Type} {f : α → Option (α ⊕ β)} {n : Nat} {b : β} {x : Option β} {t : α ⊕ β} (h : zinr x = some t) (k : zK f n b t) : x = some b := by
  cases x with
  | none => cases h
  | some b' => cases h; exact congrArg some k
theorem zback {α β : Type} {f : α → Option (α ⊕ β)} {n : Nat} {b : β} {a : α} {t : α ⊕ β} (h : some (Sum.inl a) = some t) (k : zK f n b t) : zit f n a = some b := by
  cases h; exact k
section ZR
variable {p : Program} {l : Launch} {e : Env} {R : Room} {s : State} {m : MethodId} {args : Array Value} {below : List Frame} {meth : Method} {c : Code} {H : Heap} {locs : List Loc} {cells slots : Nat} {Q : State → Prop} {pc nL : Nat} {ls : Array Slot} {rest : List Value} {cc : ByteArray} {own : String} {L : Nat} {V : zV} {A : Nat → Prop} {σ : zS} {β : Type} {t : β}
theorem zMi_of {y : MethodName} {b : ByteArray} {ret : Option FieldType} {f n : Nat} {tt : Int32 × zS} {av : List Value} (hy : plainName y.cls = true) (hlen : (lg_sl av).length ≤ nL)
    (body : ∀ (p : Program) (e : Env) (s : State) (m : MethodId) (below : List Frame) (meth : Method) (c : Code) (A : Nat → Prop), CallFix p m c b nL s av.toArray zT y.cls → meth.sig.returnType = ret → meth.locks = false → zZ L V A σ s s.heap [] → ∀ ls, lv_has ls nL (lv_args 0 av) → W p l e (zrm f n) s m av.toArray below meth c s.heap [] 0 0 (MQ below (zQi L V tt A) av.toArray s 0 0 A) (F0 m 0 ls [])) : zMi l y b nL ret f n L V σ tt av := by
  intro sz
  refine Met.ofW (cc := b) (maxL := nL) (ret := ret) hy rfl ?_
  intro p e s m args below meth c s₁ B hml hv
  obtain ⟨rfl, hsz, hP, hK, hD0, hE⟩ := hv
  have hts := atoms_spec (ws := zws y b nL ret) B.pre
  have hown : s.vm.findClass y.cls = some m.cls := findClass_of_methodNamed B.named
  subst hsz
  have hD : va_D (va_A (zw L V σ) s.heap.size) (zw L V σ) := hD0.self
  have hl := lv_entry av (n := nL) hlen
  rw [lg_entry_eq]
  exact body p e s m below meth c _ ⟨B.exec, B.bytes, hml, hown, fun w hw => hts w (List.mem_cons_of_mem _ hw)⟩ B.returns B.notSynchronized ⟨hP, hK, hD, va_S.rf, fun q h => Or.inr h, hE⟩ _ hl
theorem zMv_of {y : MethodName} {b : ByteArray} {f n : Nat} {tt : Int32 × zS} {av : List Value} (hy : plainName y.cls = true) (hlen : (lg_sl av).length ≤ nL)
    (body : ∀ (p : Program) (e : Env) (s : State) (m : MethodId) (below : List Frame) (meth : Method) (c : Code) (A : Nat → Prop), CallFix p m c b nL s av.toArray zT y.cls → meth.sig.returnType = none → meth.locks = false → zZ L V A σ s s.heap [] → ∀ ls, lv_has ls nL (lv_args 0 av) → W p l e (zrm f n) s m av.toArray below meth c s.heap [] 0 0 (MQ below (zQv L V tt A) av.toArray s 0 0 A) (F0 m 0 ls [])) : zMv l y b nL f n L V σ tt av := by
  intro sz
  refine Met.ofW (cc := b) (maxL := nL) (ret := none) hy rfl ?_
  intro p e s m args below meth c s₁ B hml hv
  obtain ⟨rfl, hsz, hP, hK, hD0, hE⟩ := hv
  have hts := atoms_spec (ws := zws y b nL none) B.pre
  have hown : s.vm.findClass y.cls = some m.cls := findClass_of_methodNamed B.named
  subst hsz
  have hD : va_D (va_A (zw L V σ) s.heap.size) (zw L V σ) := hD0.self
  have hl := lv_entry av (n := nL) hlen
  rw [lg_entry_eq]
  exact body p e s m below meth c _ ⟨B.exec, B.bytes, hml, hown, fun w hw => hts w (List.mem_cons_of_mem _ hw)⟩ B.returns B.notSynchronized ⟨hP, hK, hD, va_S.rf, fun q h => Or.inr h, hE⟩ _ hl
-- ends
theorem z_iret (C : CallFix p m c cc nL s args zT own) {tt : Int32 × zS} {x : Int32} (hr : meth.sig.returnType = some .int) (hlk : meth.locks = false) (hZ : zZ L V A σ s H locs) (h1 : some (x, σ) = some tt) (hdg : decode cc pc = .ok (.ireturn, 1)) : W p l e R s m args below meth c H locs 0 0 (MQ below (zQi L V tt A) args s 0 0 A) (F0 m pc ls [.int x]) := by
  cases h1
  obtain ⟨hP, hK, hD, hS, hA, hE⟩ := hZ
  exact W.iret C.1 C.2.1 hr (fun u hu hW => ⟨⟨x, (), rfl, rfl, by rw [hu]; exact hP, va_K.moved hW.alike hK⟩, hS.F hu⟩) hS.2.2 hdg hlk
theorem z_zret (C : CallFix p m c cc nL s args zT own) {tt : Int32 × zS} {x : Int32} (hr : meth.sig.returnType = some .boolean) (hlk : meth.locks = false) (hZ : zZ L V A σ s H locs) (h1 : zgd (x == 0 || x == 1) (some (x, σ)) = some tt) (hdg : decode cc pc = .ok (.ireturn, 1)) : W p l e R s m args below meth c H locs 0 0 (MQ below (zQi L V tt A) args s 0 0 A) (F0 m pc ls [.int x]) := by
  obtain ⟨hx, h1⟩ := zgd_some h1
  cases h1
  have hn : narrow .boolean (.int x) = .int x := by
    rcases Bool.or_eq_true_iff.mp hx with h | h
    · rw [eq_of_beq h]; rfl
    · rw [eq_of_beq h]; rfl
  obtain ⟨hP, hK, hD, hS, hA, hE⟩ := hZ
  exact W.zret C.1 C.2.1 hr hn (fun u hu hW => ⟨⟨x, (), rfl, rfl, by rw [hu]; exact hP, va_K.moved hW.alike hK⟩, hS.F hu⟩) hS.2.2 hdg hlk
theorem z_vret (C : CallFix p m c cc nL s args zT own) {tt : Int32 × zS} {x : Int32} (hr : meth.sig.returnType = none) (hlk : meth.locks = false) (hZ : zZ L V A σ s H locs) (h1 : some (x, σ) = some tt) (hdg : decode cc pc = .ok (.return_, 1)) : W p l e R s m args below meth c H locs 0 0 (MQ below (zQv L V tt A) args s 0 0 A) (F0 m pc ls []) := by
  cases h1
  obtain ⟨hP, hK, hD, hS, hA, hE⟩ := hZ
  exact W.vret C.1 C.2.1 hr (fun u hu hW => ⟨⟨(), rfl, trivial, by rw [hu]; exact hP, va_K.moved hW.alike hK⟩, hS.F hu⟩) hS.2.2 hdg hlk
-- fields: the class, its place among the kinds, the field's place; the word
def zfw (own : String) (idx ci j M : Nat) (C : String) (T : u_T) : Prop := vwCl[ci]? = some (C, T, M) ∧ j < M ∧ (∀ w ∈ u_ws C T M, w ∈ zT) ∧ ci < 100 ∧ (Cond.fieldLink own idx (T j).1 (T j).2.1 (T j).2.2.1 ∈ zT ∨ ∃ host, Cond.fieldLinkNest own idx (T j).1 (T j).2.1 (T j).2.2.1 host ∈ zT)
theorem z_get (C0 : CallFix p m c cc nL s args zT own) (hZ : zZ L V A σ s H locs) {k idx ci j M tk : Nat} {C : String} {T : u_T} (hk : kd L k = ci) (hw : zfw own idx ci j M C T) (ht : (tp ci)[j]? = some tk) (hdg : decode cc pc = .ok (.getfield idx, 3))
    (kk : W p l e R s m args below meth c H locs cells slots Q (F0 m (pc + 3) ls (zval V σ k j tk :: rest))) : W p l e R s m args below meth c H locs cells slots Q (F0 m pc ls (.ref (zad V k) :: rest)) := by
  obtain ⟨hx, hb, -, hown, hts⟩ := C0
  obtain ⟨hP, hK, -⟩ := hZ
  obtain ⟨hc, hj, hin, hci, hl⟩ := hw
  have hkn : k < nC L := kd_lt (by omega)
  have he : (zw L V σ)[k]? = some (zad V k, .inr (ci, zfs V σ k (tp ci))) := by rw [zw_get hkn, zE_obj hk hci]
  rcases hl with hl | ⟨host, hl⟩
  · exact va_get hx hb hts hin hown hK hP k he hc j hj (hts _ hl) (fun _ h => h) (zfs_get ht) hdg kk
  · exact va_getN hx hb hts hin hown hK hP k he hc j hj (hts _ hl) (fun _ h => h) (zfs_get ht) hdg kk
theorem z_geti (C0 : CallFix p m c cc nL s args zT own) (hZ : zZ L V A σ s H locs) {k idx ci j M : Nat} {C : String} {T : u_T} (hk : kd L k = ci) (hw : zfw own idx ci j M C T) (ht : (tp ci)[j]? = some 0) (hdg : decode cc pc = .ok (.getfield idx, 3))
    (kk : W p l e R s m args below meth c H locs cells slots Q (F0 m (pc + 3) ls (.int (σ k j) :: rest))) : W p l e R s m args below meth c H locs cells slots Q (F0 m pc ls (.ref (zad V k) :: rest)) := z_get C0 hZ hk hw ht hdg kk
theorem z_getr (C0 : CallFix p m c cc nL s args zT own) (hZ : zZ L V A σ s H locs) {k idx ci j M o : Nat} {C : String} {T : u_T} (hk : kd L k = ci) (hw : zfw own idx ci j M C T) (ht : (tp ci)[j]? = some (o + 2)) (hdg : decode cc pc = .ok (.getfield idx, 3))
    (kk : W p l e R s m args below meth c H locs cells slots Q (F0 m (pc + 3) ls (.ref (zad V (k + o)) :: rest))) : W p l e R s m args below meth c H locs cells slots Q (F0 m pc ls (.ref (zad V k) :: rest)) := z_get C0 hZ hk hw ht hdg kk
/-- a cell that may change: the words of the program say its kind -/
theorem z_getm (C0 : CallFix p m c cc nL s args zT own) (hZ : zZ L V A σ s H locs) {k idx ci j M ck : Nat} {C : String} {T : u_T} {f : Nat → Option β} (h1 : zgd (kd L (σ k j).toNatClampNeg == ck) (zlet (σ k j).toNatClampNeg f) = some t) (hk : kd L k = ci) (hw : zfw own idx ci j M C T) (ht : (tp ci)[j]? = some 1) (hdg : decode cc pc = .ok (.getfield idx, 3))
    (kk : ∀ q, kd L q = ck → f q = some t → W p l e R s m args below meth c H locs cells slots Q (F0 m (pc + 3) ls (.ref (zad V q) :: rest))) : W p l e R s m args below meth c H locs cells slots Q (F0 m pc ls (.ref (zad V k) :: rest)) := by
  obtain ⟨hq, h1⟩ := zgd_some h1
  exact z_get C0 hZ hk hw ht hdg (kk _ (eq_of_beq hq) h1)
theorem z_put (C0 : CallFix p m c cc nL s args zT own) (hZ : zZ L V A σ s H locs) {k idx ci j M tk : Nat} {C : String} {T : u_T} {ty0 : Nat → FieldType} {x : Int32} {v : Value} (hk : kd L k = ci) (hw : zfw own idx ci j M C T) (ht : (tp ci)[j]? = some tk) (hv : zval V (zup σ k j x) k j tk = v)
    (hty : ∀ k, k < M → parseFieldDescriptor (T k).2.2.1 = some (ty0 k)) (hnm : ∀ a, a < M → ∀ b, b < M → a ≠ b → (T a).2.1 ≠ (T b).2.1) (hfin : (T j).2.2.2 = false) (hn : narrow (ty0 j) v = v) (hfit : fits (ty0 j) v = true) (hdg : decode cc pc = .ok (.putfield idx, 3))
    (kk : ∀ (H : Heap) (locs : List Loc), zZ L V A (zup σ k j x) s H locs → W p l e R s m args below meth c H locs cells slots Q (F0 m (pc + 3) ls rest)) : W p l e R s m args below meth c H locs cells slots Q (F0 m pc ls (v :: .ref (zad V k) :: rest)) := by
  obtain ⟨hx, hb, -, hown, hts⟩ := C0
  obtain ⟨hP, hK, hD, hS, hA, hE⟩ := hZ
  obtain ⟨hc, hj, hin, hci, hl⟩ := hw
  have hkn : k < nC L := kd_lt (by omega)
  have he : (zw L V σ)[k]? = some (zad V k, .inr (ci, zfs V σ k (tp ci))) := by rw [zw_get hkn, zE_obj hk hci]
  have hset : (zw L V σ).set k (zad V k, .inr (ci, (zfs V σ k (tp ci)).set j v)) = zw L V (zup σ k j x) :=
    zw_set hkn (by rw [zE_obj hk hci, zfs_set ht hv]) (fun i hi => zE_off hi)
  have hjl : j < (zfs V σ k (tp ci)).length := by rw [zfs_len]; exact (List.getElem?_eq_some_iff.mp ht).1
  have fin : ∀ (H1 : Heap) (locs1 : List Loc), va_P V.1 vwCl ((zw L V σ).set k (zad V k, .inr (ci, (zfs V σ k (tp ci)).set j v))) H1 → va_D A ((zw L V σ).set k (zad V k, .inr (ci, (zfs V σ k (tp ci)).set j v))) → va_S A s.heap H1 locs1 → W p l e R s m args below meth c H1 locs1 cells slots Q (F0 m (pc + 3) ls rest) := by
    intro H1 locs1 h1 h2 h3
    rw [hset] at h1 h2
    exact kk H1 locs1 ⟨h1, hK, h2, h3, hA, hE⟩
  rcases hl with hl | ⟨host, hl⟩
  · exact va_put hx hb hts hin ty0 hty hnm hown hK hP hD hS k he hc j hj (hts _ hl) (fun _ h => h) hfin (hty j hj) hn hfit hjl hdg fin
  · exact va_putN hx hb hts hin ty0 hty hnm hown hK hP hD hS k he hc j hj (hts _ hl) (fun _ h => h) hfin (hty j hj) hn hfit hjl hdg fin
theorem z_puti (C0 : CallFix p m c cc nL s args zT own) (hZ : zZ L V A σ s H locs) {k idx ci j M : Nat} {C : String} {T : u_T} {ty0 : Nat → FieldType} {x : Int32} {f : zS → Option β} (h1 : zlet (zup σ k j x) f = some t) (hk : kd L k = ci) (hw : zfw own idx ci j M C T) (ht : (tp ci)[j]? = some 0)
    (hty : ∀ k, k < M → parseFieldDescriptor (T k).2.2.1 = some (ty0 k)) (hnm : ∀ a, a < M → ∀ b, b < M → a ≠ b → (T a).2.1 ≠ (T b).2.1) (hfin : (T j).2.2.2 = false) (hn : narrow (ty0 j) (.int x) = .int x) (hfit : fits (ty0 j) (.int x) = true) (hdg : decode cc pc = .ok (.putfield idx, 3))
    (kk : ∀ (σ : zS) (H : Heap) (locs : List Loc), f σ = some t → zZ L V A σ s H locs → W p l e R s m args below meth c H locs cells slots Q (F0 m (pc + 3) ls rest)) : W p l e R s m args below meth c H locs cells slots Q (F0 m pc ls (.int x :: .ref (zad V k) :: rest)) :=
  z_put C0 hZ hk hw ht (by show Value.int (zup σ k j x k j) = _; unfold zup; rw [if_pos rfl]; unfold upd; rw [if_pos rfl]) hty hnm hfin hn hfit hdg (fun H locs h => kk _ H locs h1 h)
/-- a cell into a field -/
theorem z_putm (C0 : CallFix p m c cc nL s args zT own) (hZ : zZ L V A σ s H locs) {k idx ci j M q : Nat} {C : String} {T : u_T} {ty0 : Nat → FieldType} {f : zS → Option β} (h1 : zlet (zup σ k j (nI q)) f = some t) (hk : kd L k = ci) (hq : q < 2 ^ 31) (hw : zfw own idx ci j M C T) (ht : (tp ci)[j]? = some 1)
    (hty : ∀ k, k < M → parseFieldDescriptor (T k).2.2.1 = some (ty0 k)) (hnm : ∀ a, a < M → ∀ b, b < M → a ≠ b → (T a).2.1 ≠ (T b).2.1) (hfin : (T j).2.2.2 = false) (hn : ∀ z, narrow (ty0 j) (.ref z) = .ref z) (hfit : ∀ z, fits (ty0 j) (.ref z) = true) (hdg : decode cc pc = .ok (.putfield idx, 3))
    (kk : ∀ (σ : zS) (H : Heap) (locs : List Loc), f σ = some t → zZ L V A σ s H locs → W p l e R s m args below meth c H locs cells slots Q (F0 m (pc + 3) ls rest)) : W p l e R s m args below meth c H locs cells slots Q (F0 m pc ls (.ref (zad V q) :: .ref (zad V k) :: rest)) :=
  z_put C0 hZ hk hw ht (by show Value.ref (zad V (zup σ k j (nI q) k j).toNatClampNeg) = _; unfold zup; rw [if_pos rfl]; unfold upd; rw [if_pos rfl, nI_clamp hq]) hty hnm hfin (hn _) (hfit _) hdg (fun H locs h => kk _ H locs h1 h)
-- rows of ints
theorem ztys_0 : (ztys L V)[0]? = some (V.2.1.1, .int) := by cases L <;> rfl
theorem z_iald (C0 : CallFix p m c cc nL s args zT own) (hZ : zZ L V A σ s H locs) {k : Nat} {i : Int32} {r : Option β} (h1 : zin (ln L k) i r = some t) (hk : kd L k = 100) (hdg : decode cc pc = .ok (.iaload, 1))
    (kk : r = some t → W p l e R s m args below meth c H locs cells slots Q (F0 m (pc + 1) ls (.int (σ k i.toNatClampNeg) :: rest))) : W p l e R s m args below meth c H locs cells slots Q (F0 m pc ls (.int i :: .ref (zad V k) :: rest)) := by
  obtain ⟨hi, h1⟩ := zin_some h1
  obtain ⟨hP, hK, -⟩ := hZ
  exact va_iald C0.1 C0.2.1 hK hP k 0 (by rw [zw_get (kd_lt (by omega)), zE_arr hk]) ztys_0 hi hdg (kk h1)
theorem z_iast (C0 : CallFix p m c cc nL s args zT own) (hZ : zZ L V A σ s H locs) {k : Nat} {i x : Int32} {f : zS → Option β} (h1 : zin (ln L k) i (zlet (zup σ k i.toNatClampNeg x) f) = some t) (hk : kd L k = 100) (hdg : decode cc pc = .ok (.iastore, 1))
    (kk : ∀ (σ : zS) (H : Heap) (locs : List Loc), f σ = some t → zZ L V A σ s H locs → W p l e R s m args below meth c H locs cells slots Q (F0 m (pc + 1) ls rest)) : W p l e R s m args below meth c H locs cells slots Q (F0 m pc ls (.int x :: .int i :: .ref (zad V k) :: rest)) := by
  obtain ⟨hi, h1⟩ := zin_some h1
  obtain ⟨hP, hK, hD, hS, hA, hE⟩ := hZ
  have hkn : k < nC L := kd_lt (by omega)
  have hset : (zw L V σ).set k (zad V k, .inl (V.2.1.1, ln L k, .inl (upd (σ k) i.toNatClampNeg x))) = zw L V (zup σ k i.toNatClampNeg x) :=
    zw_set hkn (by rw [zE_arr hk]; unfold zup; rw [if_pos rfl]) (fun i hi => zE_off hi)
  refine va_iast C0.1 C0.2.1 hK hP hD hS k 0 (by rw [zw_get hkn, zE_arr hk]) ztys_0 hi hdg (fun H1 locs1 g1 g2 g3 => ?_)
  rw [hset] at g1 g2
  exact kk _ H1 locs1 h1 ⟨g1, hK, g2, g3, hA, hE⟩
theorem z_alen (C0 : CallFix p m c cc nL s args zT own) (hZ : zZ L V A σ s H locs) {k : Nat} (hk : kd L k = 100) (hdg : decode cc pc = .ok (.arraylength, 1))
    (kk : W p l e R s m args below meth c H locs cells slots Q (F0 m (pc + 1) ls (.int (nI (ln L k)) :: rest))) : W p l e R s m args below meth c H locs cells slots Q (F0 m pc ls (.ref (zad V k) :: rest)) := by
  obtain ⟨hP, hK, -⟩ := hZ
  exact va_alen (x := (ln L k, .inl (σ k))) C0.1 C0.2.1 hK hP k 0 (by rw [zw_get (kd_lt (by omega)), zE_arr hk]) ztys_0 rfl hdg kk
-- stores into locals: the value gets a name
theorem z_istore_n (C0 : CallFix p m c cc nL s args zT own) {k : Fin 4} {i : Nat} {x : Int32} {f : Int32 → Option β} (h1 : zlet x f = some t) {lv : List (Nat × Value)} (h : lv_has ls nL lv) (lv' : Int32 → List (Nat × Value)) (hdg : decode cc pc = .ok (.istore_n k, 1)) (hi : (k : Nat) = i) (hn : i < nL) (hl : ∀ x, (i, Value.int x) :: lv.filter (fun q => !(q.1 == i) && !(q.1 + 1 == i && q.2.category == 2)) = lv' x)
    (kk : ∀ (x : Int32) (ls : Array Slot), f x = some t → lv_has ls nL (lv' x) → W p l e R s m args below meth c H locs cells slots Q (F0 m (pc + 1) ls rest)) : W p l e R s m args below meth c H locs cells slots Q (F0 m pc ls (.int x :: rest)) :=
  lv_istore_n C0.1 C0.2.1 hdg hi h hn (hl x) (fun ls' h' => kk x ls' h1 h')
theorem z_istore (C0 : CallFix p m c cc nL s args zT own) {i : Nat} {x : Int32} {f : Int32 → Option β} (h1 : zlet x f = some t) {lv : List (Nat × Value)} (h : lv_has ls nL lv) (lv' : Int32 → List (Nat × Value)) (hdg : decode cc pc = .ok (.istore i, 2)) (hn : i < nL) (hl : ∀ x, (i, Value.int x) :: lv.filter (fun q => !(q.1 == i) && !(q.1 + 1 == i && q.2.category == 2)) = lv' x)
    (kk : ∀ (x : Int32) (ls : Array Slot), f x = some t → lv_has ls nL (lv' x) → W p l e R s m args below meth c H locs cells slots Q (F0 m (pc + 2) ls rest)) : W p l e R s m args below meth c H locs cells slots Q (F0 m pc ls (.int x :: rest)) :=
  lv_istore C0.1 C0.2.1 hdg h hn (hl x) (fun ls' h' => kk x ls' h1 h')
theorem z_iinc (C0 : CallFix p m c cc nL s args zT own) {i k : Nat} {n : Int} {x v : Int32} {f : Int32 → Option β} (h1 : zlet (x + v) f = some t) {lv : List (Nat × Value)} (h : lv_has ls nL lv) (lv' : Int32 → List (Nat × Value)) (hdg : decode cc pc = .ok (.iinc i n, 3)) (hk : lv[k]? = some (i, .int x)) (hv : Int32.ofInt n = v) (hn : i < nL) (hl : ∀ x, (i, Value.int x) :: lv.filter (fun q => !(q.1 == i) && !(q.1 + 1 == i && q.2.category == 2)) = lv' x)
    (kk : ∀ (x : Int32) (ls : Array Slot), f x = some t → lv_has ls nL (lv' x) → W p l e R s m args below meth c H locs cells slots Q (F0 m (pc + 3) ls rest)) : W p l e R s m args below meth c H locs cells slots Q (F0 m pc ls rest) :=
  lv_iinc C0.1 C0.2.1 hdg h hk (v := x + v) (by rw [hv]) hn (hl (x + v)) (fun ls' h' => kk _ ls' h1 h')
-- branches
theorem z_split {P : Prop} [Decidable P] {a b : Option β} {G1 G2 G : Prop} (h1 : (if P then a else b) = some t) (row : (P → G1) → (¬ P → G2) → G) (kt : a = some t → G1) (kf : b = some t → G2) : G := row (fun h => kt ((if_pos h).symm.trans h1)) (fun h => kf ((if_neg h).symm.trans h1))
theorem z_if_eq (C0 : CallFix p m c cc nL s args zT own) {x : Int32} {off : Int} {tgt : Nat} {a b : Option β} (h1 : (if x = 0 then a else b) = some t) (hdg : decode cc pc = .ok (.ifCond .eq off, 3)) (ht : (pc : Int) + off = (tgt : Int)) (kt : a = some t → W p l e R s m args below meth c H locs cells slots Q (F0 m tgt ls rest)) (kf : b = some t → W p l e R s m args below meth c H locs cells slots Q (F0 m (pc + 3) ls rest)) : W p l e R s m args below meth c H locs cells slots Q (F0 m pc ls (.int x :: rest)) := z_split h1 (lv_if_eq C0.1 C0.2.1 hdg ht) kt kf
theorem z_if_ne (C0 : CallFix p m c cc nL s args zT own) {x : Int32} {off : Int} {tgt : Nat} {a b : Option β} (h1 : (if x = 0 then b else a) = some t) (hdg : decode cc pc = .ok (.ifCond .ne off, 3)) (ht : (pc : Int) + off = (tgt : Int)) (kt : a = some t → W p l e R s m args below meth c H locs cells slots Q (F0 m tgt ls rest)) (kf : b = some t → W p l e R s m args below meth c H locs cells slots Q (F0 m (pc + 3) ls rest)) : W p l e R s m args below meth c H locs cells slots Q (F0 m pc ls (.int x :: rest)) := z_split h1 (fun f1 f2 => lv_if_ne C0.1 C0.2.1 hdg ht f2 f1) kf kt
theorem z_if_lt (C0 : CallFix p m c cc nL s args zT own) {x : Int32} {off : Int} {tgt : Nat} {a b : Option β} (h1 : (if x < 0 then a else b) = some t) (hdg : decode cc pc = .ok (.ifCond .lt off, 3)) (ht : (pc : Int) + off = (tgt : Int)) (kt : a = some t → W p l e R s m args below meth c H locs cells slots Q (F0 m tgt ls rest)) (kf : b = some t → W p l e R s m args below meth c H locs cells slots Q (F0 m (pc + 3) ls rest)) : W p l e R s m args below meth c H locs cells slots Q (F0 m pc ls (.int x :: rest)) := z_split h1 (lv_if_lt C0.1 C0.2.1 hdg ht) kt kf
theorem z_if_ge (C0 : CallFix p m c cc nL s args zT own) {x : Int32} {off : Int} {tgt : Nat} {a b : Option β} (h1 : (if 0 ≤ x then a else b) = some t) (hdg : decode cc pc = .ok (.ifCond .ge off, 3)) (ht : (pc : Int) + off = (tgt : Int)) (kt : a = some t → W p l e R s m args below meth c H locs cells slots Q (F0 m tgt ls rest)) (kf : b = some t → W p l e R s m args below meth c H locs cells slots Q (F0 m (pc + 3) ls rest)) : W p l e R s m args below meth c H locs cells slots Q (F0 m pc ls (.int x :: rest)) := z_split h1 (lv_if_ge C0.1 C0.2.1 hdg ht) kt kf
theorem z_if_gt (C0 : CallFix p m c cc nL s args zT own) {x : Int32} {off : Int} {tgt : Nat} {a b : Option β} (h1 : (if 0 < x then a else b) = some t) (hdg : decode cc pc = .ok (.ifCond .gt off, 3)) (ht : (pc : Int) + off = (tgt : Int)) (kt : a = some t → W p l e R s m args below meth c H locs cells slots Q (F0 m tgt ls rest)) (kf : b = some t → W p l e R s m args below meth c H locs cells slots Q (F0 m (pc + 3) ls rest)) : W p l e R s m args below meth c H locs cells slots Q (F0 m pc ls (.int x :: rest)) := z_split h1 (lv_if_gt C0.1 C0.2.1 hdg ht) kt kf
theorem z_if_le (C0 : CallFix p m c cc nL s args zT own) {x : Int32} {off : Int} {tgt : Nat} {a b : Option β} (h1 : (if x ≤ 0 then a else b) = some t) (hdg : decode cc pc = .ok (.ifCond .le off, 3)) (ht : (pc : Int) + off = (tgt : Int)) (kt : a = some t → W p l e R s m args below meth c H locs cells slots Q (F0 m tgt ls rest)) (kf : b = some t → W p l e R s m args below meth c H locs cells slots Q (F0 m (pc + 3) ls rest)) : W p l e R s m args below meth c H locs cells slots Q (F0 m pc ls (.int x :: rest)) := z_split h1 (lv_if_le C0.1 C0.2.1 hdg ht) kt kf
theorem z_ic_eq (C0 : CallFix p m c cc nL s args zT own) {x y : Int32} {off : Int} {tgt : Nat} {a b : Option β} (h1 : (if x = y then a else b) = some t) (hdg : decode cc pc = .ok (.if_icmp .eq off, 3)) (ht : (pc : Int) + off = (tgt : Int)) (kt : a = some t → W p l e R s m args below meth c H locs cells slots Q (F0 m tgt ls rest)) (kf : b = some t → W p l e R s m args below meth c H locs cells slots Q (F0 m (pc + 3) ls rest)) : W p l e R s m args below meth c H locs cells slots Q (F0 m pc ls (.int y :: .int x :: rest)) := z_split h1 (lv_icmp_eq C0.1 C0.2.1 hdg ht) kt kf
theorem z_ic_ne (C0 : CallFix p m c cc nL s args zT own) {x y : Int32} {off : Int} {tgt : Nat} {a b : Option β} (h1 : (if x = y then b else a) = some t) (hdg : decode cc pc = .ok (.if_icmp .ne off, 3)) (ht : (pc : Int) + off = (tgt : Int)) (kt : a = some t → W p l e R s m args below meth c H locs cells slots Q (F0 m tgt ls rest)) (kf : b = some t → W p l e R s m args below meth c H locs cells slots Q (F0 m (pc + 3) ls rest)) : W p l e R s m args below meth c H locs cells slots Q (F0 m pc ls (.int y :: .int x :: rest)) := z_split h1 (fun f1 f2 => lv_icmp_ne C0.1 C0.2.1 hdg ht f2 f1) kf kt
theorem z_ic_lt (C0 : CallFix p m c cc nL s args zT own) {x y : Int32} {off : Int} {tgt : Nat} {a b : Option β} (h1 : (if x < y then a else b) = some t) (hdg : decode cc pc = .ok (.if_icmp .lt off, 3)) (ht : (pc : Int) + off = (tgt : Int)) (kt : a = some t → W p l e R s m args below meth c H locs cells slots Q (F0 m tgt ls rest)) (kf : b = some t → W p l e R s m args below meth c H locs cells slots Q (F0 m (pc + 3) ls rest)) : W p l e R s m args below meth c H locs cells slots Q (F0 m pc ls (.int y :: .int x :: rest)) := z_split h1 (lv_icmp_lt C0.1 C0.2.1 hdg ht) kt kf
theorem z_ic_ge (C0 : CallFix p m c cc nL s args zT own) {x y : Int32} {off : Int} {tgt : Nat} {a b : Option β} (h1 : (if y ≤ x then a else b) = some t) (hdg : decode cc pc = .ok (.if_icmp .ge off, 3)) (ht : (pc : Int) + off = (tgt : Int)) (kt : a = some t → W p l e R s m args below meth c H locs cells slots Q (F0 m tgt ls rest)) (kf : b = some t → W p l e R s m args below meth c H locs cells slots Q (F0 m (pc + 3) ls rest)) : W p l e R s m args below meth c H locs cells slots Q (F0 m pc ls (.int y :: .int x :: rest)) := z_split h1 (lv_icmp_ge C0.1 C0.2.1 hdg ht) kt kf
theorem z_ic_gt (C0 : CallFix p m c cc nL s args zT own) {x y : Int32} {off : Int} {tgt : Nat} {a b : Option β} (h1 : (if y < x then a else b) = some t) (hdg : decode cc pc = .ok (.if_icmp .gt off, 3)) (ht : (pc : Int) + off = (tgt : Int)) (kt : a = some t → W p l e R s m args below meth c H locs cells slots Q (F0 m tgt ls rest)) (kf : b = some t → W p l e R s m args below meth c H locs cells slots Q (F0 m (pc + 3) ls rest)) : W p l e R s m args below meth c H locs cells slots Q (F0 m pc ls (.int y :: .int x :: rest)) := z_split h1 (lv_icmp_gt C0.1 C0.2.1 hdg ht) kt kf
theorem z_ic_le (C0 : CallFix p m c cc nL s args zT own) {x y : Int32} {off : Int} {tgt : Nat} {a b : Option β} (h1 : (if x ≤ y then a else b) = some t) (hdg : decode cc pc = .ok (.if_icmp .le off, 3)) (ht : (pc : Int) + off = (tgt : Int)) (kt : a = some t → W p l e R s m args below meth c H locs cells slots Q (F0 m tgt ls rest)) (kf : b = some t → W p l e R s m args below meth c H locs cells slots Q (F0 m (pc + 3) ls rest)) : W p l e R s m args below meth c H locs cells slots Q (F0 m pc ls (.int y :: .int x :: rest)) := z_split h1 (lv_icmp_le C0.1 C0.2.1 hdg ht) kt kf
theorem z_idiv (C0 : CallFix p m c cc nL s args zT own) {x y : Int32} {r : Option β} (h1 : zgd (y != 0) r = some t) (hdg : decode cc pc = .ok (.idiv, 1)) (kk : r = some t → W p l e R s m args below meth c H locs cells slots Q (F0 m (pc + 1) ls (.int (x / y) :: rest))) : W p l e R s m args below meth c H locs cells slots Q (F0 m pc ls (.int y :: .int x :: rest)) := by
  obtain ⟨hy, h1⟩ := zgd_some h1
  exact lv_idiv C0.1 C0.2.1 hdg (bne_iff_ne.mp hy) (kk h1)
theorem z_irem (C0 : CallFix p m c cc nL s args zT own) {x y : Int32} {r : Option β} (h1 : zgd (y != 0) r = some t) (hdg : decode cc pc = .ok (.irem, 1)) (kk : r = some t → W p l e R s m args below meth c H locs cells slots Q (F0 m (pc + 1) ls (.int (x - x / y * y) :: rest))) : W p l e R s m args below meth c H locs cells slots Q (F0 m pc ls (.int y :: .int x :: rest)) := by
  obtain ⟨hy, h1⟩ := zgd_some h1
  exact lv_irem C0.1 C0.2.1 hdg (bne_iff_ne.mp hy) (kk h1)
-- calls: what a site needs of the tables
def zwM (own : String) (idx : Nat) (y : MethodName) (b : ByteArray) (nY : Nat) (ret : Option FieldType) (n : Nat) : Prop :=
  (Cond.methodLink own idx y ∈ zT ∨ ∃ host, Cond.methodLinkNest own idx y host ∈ zT) ∧ Cond.initialized y.cls ∈ zT ∧ Cond.code y b nY ret ∈ zT ∧ (y.cls ≠ "java/lang/invoke/MethodHandle" ∧ y.cls ≠ "java/lang/invoke/VarHandle" ∧ (parseMethodDescriptor y.desc).map (fun d => d.parameters.length) = some n)
def zwV (ci : Nat) (y : MethodName) : Prop := Cond.instanceMethod y ∈ zT ∧ Cond.selects y.cls y y ∈ zT ∧ ci < 100 ∧ ∃ T M, vwCl[ci]? = some (y.cls, T, M)
theorem zws_ok {y : MethodName} {b : ByteArray} {nY : Nat} {ret : Option FieldType} (hts : ∀ w ∈ zT, w.before args s = true) (hc : Cond.code y b nY ret ∈ zT) : ∀ w ∈ zws y b nY ret, ∀ (a' : Array Value) (U : State), s.WarmedH U.vm → w.before a' U = true := by
  intro w hw
  rcases List.mem_cons.mp hw with h | h
  · rw [h]; exact zpay hts _ hc
  · exact zpay hts _ h
theorem zcallB {own : String} {idx : Nat} {y : MethodName} {b : ByteArray} {nY n f k : Nat} {ret : Option FieldType} (hts : ∀ w ∈ zT, w.before args s = true) (hl : Cond.methodLink own idx y ∈ zT) (hw : zwM own idx y b nY ret n) (hR : f + 1 ≤ R.frames ∧ 8 + (nY + 11) + k ≤ R.locals) : CallB R s args own idx y b nY ret (zws y b nY ret) (zrm f k) 0 0 n := by
  obtain ⟨-, hi, hc, h1, h2, h3⟩ := hw
  exact ⟨rfl, rfl, hR.1, hR.2, zws_ok hts hc, List.mem_cons_self, hts _ hc, hts _ hi, ⟨h1, h2⟩, fun sig h => by rw [h] at h3; exact (Option.some.inj h3).symm, hts _ hl⟩
theorem zcallN {own host : String} {idx : Nat} {y : MethodName} {b : ByteArray} {nY n f k : Nat} {ret : Option FieldType} (hts : ∀ w ∈ zT, w.before args s = true) (hl : Cond.methodLinkNest own idx y host ∈ zT) (hw : zwM own idx y b nY ret n) (hR : f + 1 ≤ R.frames ∧ 8 + (nY + 11) + k ≤ R.locals) : va_CN R s args own idx y host b nY ret (zws y b nY ret) (zrm f k) 0 0 n := by
  obtain ⟨-, hi, hc, h1, h2, h3⟩ := hw
  exact ⟨⟨rfl, rfl, hR.1, hR.2, zws_ok hts hc, List.mem_cons_self⟩, hts _ hc, hts _ hi, ⟨h1, h2⟩, fun sig h => by rw [h] at h3; exact (Option.some.inj h3).symm, hts _ hl⟩
/-- a call of a method of an object, by its name -/
theorem z_runV {y : MethodName} {b : ByteArray} {nY n f k idx ci q : Nat} {ret : Option FieldType} {Qc : Array Value → State → Outcome → State → Prop} {As st0 : List Value} {free : Addr → Prop} (C0 : CallFix p m c cc nL s args zT own) (hZ : zZ L V A σ s H locs) (hM : Met l y (zws y b nY ret) (zrm f k) (va_Pc (.ref (zad V q) :: As) (zPre L V σ H.size)) Qc 0 0 free) (hw : zwM own idx y b nY ret n) (hv : zwV ci y) (hq : kd L q = ci) (hst : st0 = As.reverse ++ .ref (zad V q) :: rest) (hn : As.length = n) (hsz : ls.size = nL) (hrest : (rest.map fun v => v.category).sum ≤ 8) (hR : f + 1 ≤ R.frames ∧ 8 + (nY + 11) + k ≤ R.locals) (hdg : decode cc pc = .ok (.invokevirtual idx, 3)) (hf : cells + 0 ≤ R.cells ∧ slots + 0 ≤ R.slots) :
    va_Run p l e R s m args below meth c H locs cells slots 0 0 (F0 m pc ls st0) rest (Qc (Value.ref (zad V q) :: As).toArray) free := by
  obtain ⟨hl, -⟩ := id hw
  obtain ⟨hin, hse, hci, T, M, hcl⟩ := hv
  have hts := C0.2.2.2.2
  have hqn : q < nC L := kd_lt (by omega)
  have he : (zw L V σ)[q]? = some (zad V q, .inr (ci, zfs V σ q (tp ci))) := by rw [zw_get hqn, zE_obj hq hci]
  have hp : PreV s H y.cls (zad V q) (va_Pc (.ref (zad V q) :: As) (zPre L V σ H.size)) As := ⟨zPre_blind, va_recv hZ.2.1 hZ.1 hcl he, fun U hU hW => ⟨rfl, zZ_pre hZ hU hW⟩⟩
  rcases hl with hl | ⟨host, hl⟩
  · exact va_runV C0 hM ⟨zcallB hts hl hw hR, hts _ hin, hts _ hse⟩ hp rfl hn hsz hst (lv_room hrest) hdg hf
  · exact va_runVN C0 hM ⟨zcallN hts hl hw hR, hts _ hin, hts _ hse⟩ hp rfl hn hsz hst (lv_room hrest) hdg hf
theorem z_runS {y : MethodName} {b : ByteArray} {nY n f k idx : Nat} {ret : Option FieldType} {Qc : Array Value → State → Outcome → State → Prop} {As st0 : List Value} {free : Addr → Prop} (C0 : CallFix p m c cc nL s args zT own) (hZ : zZ L V A σ s H locs) (hM : Met l y (zws y b nY ret) (zrm f k) (va_Pc As (zPre L V σ H.size)) Qc 0 0 free) (hw : zwM own idx y b nY ret n) (hs : Cond.static y ∈ zT) (hst : st0 = As.reverse ++ rest) (hn : As.length = n) (hsz : ls.size = nL) (hrest : (rest.map fun v => v.category).sum ≤ 8) (hR : f + 1 ≤ R.frames ∧ 8 + (nY + 11) + k ≤ R.locals) (hdg : decode cc pc = .ok (.invokestatic idx, 3)) (hf : cells + 0 ≤ R.cells ∧ slots + 0 ≤ R.slots) :
    va_Run p l e R s m args below meth c H locs cells slots 0 0 (F0 m pc ls st0) rest (Qc As.toArray) free := by
  obtain ⟨hl, -⟩ := id hw
  have hts := C0.2.2.2.2
  have hp : PreS s H (va_Pc As (zPre L V σ H.size)) As := ⟨zPre_blind, fun U hU hW => ⟨rfl, zZ_pre hZ hU hW⟩⟩
  rcases hl with hl | ⟨host, hl⟩
  · exact va_runS C0 hM ⟨zcallB hts hl hw hR, hts _ hs⟩ hp rfl hn hsz hst (lv_room hrest) hdg hf
  · exact va_runSN C0 hM ⟨zcallN hts hl hw hR, hts _ hs, trivial⟩ hp rfl hn hsz hst (lv_room hrest) hdg hf
/-- behind a call -/
theorem z_goi {tt : Int32 × zS} {st0 : List Value} {a : Array Value} (hZ : zZ L V A σ s H locs) (hr : va_Run p l e R s m args below meth c H locs cells slots 0 0 (F0 m pc ls st0) rest (zQi L V tt (va_A (zw L V σ) H.size) a) (va_A (zw L V σ) H.size)) (kk : ∀ (H : Heap) (locs : List Loc), zZ L V A tt.2 s H locs → W p l e R s m args below meth c H locs cells slots Q (F0 m (pc + 3) ls (.int tt.1 :: rest))) : W p l e R s m args below meth c H locs cells slots Q (F0 m pc ls st0) := by
  have hF := zfree hZ
  refine va_calli hr hZ.2.2.2.1 (fun q _ h => hF q h) hF (fun r u t H1 locs1 ht hvm hw hB _ _ hS => ?_)
  subst hw
  exact kk H1 locs1 (zZ_after hZ ht hvm hB.1 hS)
theorem z_gov {tt : Int32 × zS} {st0 : List Value} {a : Array Value} (hZ : zZ L V A σ s H locs) (hr : va_Run p l e R s m args below meth c H locs cells slots 0 0 (F0 m pc ls st0) rest (zQv L V tt (va_A (zw L V σ) H.size) a) (va_A (zw L V σ) H.size)) (kk : ∀ (H : Heap) (locs : List Loc), zZ L V A tt.2 s H locs → W p l e R s m args below meth c H locs cells slots Q (F0 m (pc + 3) ls rest)) : W p l e R s m args below meth c H locs cells slots Q (F0 m pc ls st0) := by
  have hF := zfree hZ
  refine va_callv hr hZ.2.2.2.1 (fun q _ h => hF q h) hF (fun u t H1 locs1 ht hvm hw hB _ _ hS => ?_)
  exact kk H1 locs1 (zZ_after hZ ht hvm hB.1 hS)
theorem z_cVi {y : MethodName} {b : ByteArray} {nY n f k idx ci q : Nat} {ret : Option FieldType} {As st0 : List Value} {Fc : Option (Int32 × zS)} {g : Int32 → zS → Option β} (C0 : CallFix p m c cc nL s args zT own) (hZ : zZ L V A σ s H locs) (h1 : zbd Fc g = some t) (hM : ∀ tt, Fc = some tt → zMi l y b nY ret f k L V σ tt (.ref (zad V q) :: As)) (hw : zwM own idx y b nY ret n) (hv : zwV ci y) (hq : kd L q = ci) (hst : st0 = As.reverse ++ .ref (zad V q) :: rest) (hn : As.length = n) (hsz : ls.size = nL) (hrest : (rest.map fun v => v.category).sum ≤ 8) (hR : f + 1 ≤ R.frames ∧ 8 + (nY + 11) + k ≤ R.locals) (hdg : decode cc pc = .ok (.invokevirtual idx, 3)) (hf : cells + 0 ≤ R.cells ∧ slots + 0 ≤ R.slots)
    (kk : ∀ (r : Int32) (σ : zS) (H : Heap) (locs : List Loc), g r σ = some t → zZ L V A σ s H locs → W p l e R s m args below meth c H locs cells slots Q (F0 m (pc + 3) ls (.int r :: rest))) : W p l e R s m args below meth c H locs cells slots Q (F0 m pc ls st0) := by
  obtain ⟨r, σ1, hFc, h1⟩ := zbd_some h1
  exact z_goi hZ (z_runV C0 hZ (hM _ hFc H.size) hw hv hq hst hn hsz hrest hR hdg hf) (fun H1 locs1 hZ1 => kk r σ1 H1 locs1 h1 hZ1)
theorem z_cVv {y : MethodName} {b : ByteArray} {nY n f k idx ci q : Nat} {As st0 : List Value} {Fc : Option (Int32 × zS)} {g : Int32 → zS → Option β} (C0 : CallFix p m c cc nL s args zT own) (hZ : zZ L V A σ s H locs) (h1 : zbd Fc g = some t) (hM : ∀ tt, Fc = some tt → zMv l y b nY f k L V σ tt (.ref (zad V q) :: As)) (hw : zwM own idx y b nY none n) (hv : zwV ci y) (hq : kd L q = ci) (hst : st0 = As.reverse ++ .ref (zad V q) :: rest) (hn : As.length = n) (hsz : ls.size = nL) (hrest : (rest.map fun v => v.category).sum ≤ 8) (hR : f + 1 ≤ R.frames ∧ 8 + (nY + 11) + k ≤ R.locals) (hdg : decode cc pc = .ok (.invokevirtual idx, 3)) (hf : cells + 0 ≤ R.cells ∧ slots + 0 ≤ R.slots)
    (kk : ∀ (r : Int32) (σ : zS) (H : Heap) (locs : List Loc), g r σ = some t → zZ L V A σ s H locs → W p l e R s m args below meth c H locs cells slots Q (F0 m (pc + 3) ls rest)) : W p l e R s m args below meth c H locs cells slots Q (F0 m pc ls st0) := by
  obtain ⟨r, σ1, hFc, h1⟩ := zbd_some h1
  exact z_gov hZ (z_runV C0 hZ (hM _ hFc H.size) hw hv hq hst hn hsz hrest hR hdg hf) (fun H1 locs1 hZ1 => kk r σ1 H1 locs1 h1 hZ1)
theorem z_cSi {y : MethodName} {b : ByteArray} {nY n f k idx : Nat} {ret : Option FieldType} {As st0 : List Value} {Fc : Option (Int32 × zS)} {g : Int32 → zS → Option β} (C0 : CallFix p m c cc nL s args zT own) (hZ : zZ L V A σ s H locs) (h1 : zbd Fc g = some t) (hM : ∀ tt, Fc = some tt → zMi l y b nY ret f k L V σ tt As) (hw : zwM own idx y b nY ret n) (hs : Cond.static y ∈ zT) (hst : st0 = As.reverse ++ rest) (hn : As.length = n) (hsz : ls.size = nL) (hrest : (rest.map fun v => v.category).sum ≤ 8) (hR : f + 1 ≤ R.frames ∧ 8 + (nY + 11) + k ≤ R.locals) (hdg : decode cc pc = .ok (.invokestatic idx, 3)) (hf : cells + 0 ≤ R.cells ∧ slots + 0 ≤ R.slots)
    (kk : ∀ (r : Int32) (σ : zS) (H : Heap) (locs : List Loc), g r σ = some t → zZ L V A σ s H locs → W p l e R s m args below meth c H locs cells slots Q (F0 m (pc + 3) ls (.int r :: rest))) : W p l e R s m args below meth c H locs cells slots Q (F0 m pc ls st0) := by
  obtain ⟨r, σ1, hFc, h1⟩ := zbd_some h1
  exact z_goi hZ (z_runS C0 hZ (hM _ hFc H.size) hw hs hst hn hsz hrest hR hdg hf) (fun H1 locs1 hZ1 => kk r σ1 H1 locs1 h1 hZ1)
theorem z_cSv {y : MethodName} {b : ByteArray} {nY n f k idx : Nat} {As st0 : List Value} {Fc : Option (Int32 × zS)} {g : Int32 → zS → Option β} (C0 : CallFix p m c cc nL s args zT own) (hZ : zZ L V A σ s H locs) (h1 : zbd Fc g = some t) (hM : ∀ tt, Fc = some tt → zMv l y b nY f k L V σ tt As) (hw : zwM own idx y b nY none n) (hs : Cond.static y ∈ zT) (hst : st0 = As.reverse ++ rest) (hn : As.length = n) (hsz : ls.size = nL) (hrest : (rest.map fun v => v.category).sum ≤ 8) (hR : f + 1 ≤ R.frames ∧ 8 + (nY + 11) + k ≤ R.locals) (hdg : decode cc pc = .ok (.invokestatic idx, 3)) (hf : cells + 0 ≤ R.cells ∧ slots + 0 ≤ R.slots)
    (kk : ∀ (r : Int32) (σ : zS) (H : Heap) (locs : List Loc), g r σ = some t → zZ L V A σ s H locs → W p l e R s m args below meth c H locs cells slots Q (F0 m (pc + 3) ls rest)) : W p l e R s m args below meth c H locs cells slots Q (F0 m pc ls st0) := by
  obtain ⟨r, σ1, hFc, h1⟩ := zbd_some h1
  exact z_gov hZ (z_runS C0 hZ (hM _ hFc H.size) hw hs hst hn hsz hrest hR hdg hf) (fun H1 locs1 hZ1 => kk r σ1 H1 locs1 h1 hZ1)
end ZR
