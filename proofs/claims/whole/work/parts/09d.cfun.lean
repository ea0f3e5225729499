/-! a large object's constructor: its fields as a function -/
def zfl (N : Nat) (f : Nat → Value) : List Value := (List.range N).map f
theorem zfl_len {N : Nat} {f : Nat → Value} : (zfl N f).length = N := by unfold zfl; rw [List.length_map, List.length_range]
theorem zfl_set {N j : Nat} {f : Nat → Value} {v : Value} : (zfl N f).set j v = zfl N (va_up f j v) := by
  apply List.ext_getElem?
  intro i
  by_cases hi : i < N
  · have e1 : ∀ g : Nat → Value, (zfl N g)[i]? = some (g i) := fun g => by unfold zfl; rw [List.getElem?_map, List.getElem?_range hi]; rfl
    by_cases hij : j = i
    · subst hij
      rw [List.getElem?_set_self (by rw [zfl_len]; exact hi), e1]
      unfold va_up
      rw [if_pos rfl]
    · rw [List.getElem?_set_ne hij, e1, e1]
      unfold va_up
      rw [if_neg (fun z => hij z.symm)]
  · rw [List.getElem?_eq_none (by rw [List.length_set, zfl_len]; omega), List.getElem?_eq_none (by rw [zfl_len]; omega)]
section ZC4
variable {p : Program} {l : Launch} {e : Env} {R : Room} {s : State} {m : MethodId} {args : Array Value} {below : List Frame} {meth : Method} {c : Code} {H : Heap} {locs : List Loc} {cells slots : Nat} {Q : State → Prop} {pc nL : Nat} {ls : Array Slot} {rest : List Value} {cc : ByteArray} {own : String} {V : zV} {A : Nat → Prop}
theorem zf_put (C0 : CallFix p m c cc nL s args zT own) {h0 idx ci j M : Nat} {f : Nat → Value} {r : va_W} {C : String} {T : u_T} {ty0 : Nat → FieldType} {v : Value} (hZ : zC V A s H locs ((h0, .inr (ci, zfl M f)) :: r)) (hinit : meth.name = "<init>") (hw : zfw own idx ci j M C T) (hl : Cond.fieldLink own idx (T j).1 (T j).2.1 (T j).2.2.1 ∈ zT)
    (hty : ∀ k, k < M → parseFieldDescriptor (T k).2.2.1 = some (ty0 k)) (hnm : ∀ a, a < M → ∀ b, b < M → a ≠ b → (T a).2.1 ≠ (T b).2.1) (hdecl : (T j).1 = own) (hn : narrow (ty0 j) v = v) (hfit : fits (ty0 j) v = true) (hdg : decode cc pc = .ok (.putfield idx, 3))
    (kk : ∀ (f' : Nat → Value) (r' : va_W) (H : Heap) (locs : List Loc), f' = va_up f j v → r' = r → zC V A s H locs ((h0, .inr (ci, zfl M f')) :: r') → W p l e R s m args below meth c H locs cells slots Q (F0 m (pc + 3) ls rest)) : W p l e R s m args below meth c H locs cells slots Q (F0 m pc ls (v :: .ref h0 :: rest)) :=
  zc_put C0 hZ hinit hw hl hty hnm hdecl hn hfit (by rw [zfl_len]; exact hw.2.1) zfl_set hdg (fun H locs h => kk _ _ H locs rfl rfl h)
theorem zf_last {o x : Nat × va_E} {r : va_W} : (o :: (r ++ [x]))[r.length + 1]? = some x := by
  rw [List.getElem?_cons_succ, List.getElem?_append_right (Nat.le_refl _), Nat.sub_self]
  rfl
theorem zf_setl {o x y : Nat × va_E} {r : va_W} : (o :: (r ++ [x])).set (r.length + 1) y = o :: (r ++ [y]) := by
  rw [List.set_cons_succ, List.set_append_right _ _ (Nat.le_refl _), Nat.sub_self]
  rfl
theorem zf_iast (C0 : CallFix p m c cc nL s args zT own) {o : Nat × va_E} {r : va_W} {a n : Nat} {f : Nat → Int32} {i x : Int32} (hZ : zC V A s H locs (o :: (r ++ [(a, .inl (V.2.1.1, (n, .inl f)))]))) (hi : vp_in i n) (hdg : decode cc pc = .ok (.iastore, 1))
    (kk : ∀ (g : Nat → Int32) (H : Heap) (locs : List Loc), g = upd f i.toNatClampNeg x → zC V A s H locs (o :: (r ++ [(a, .inl (V.2.1.1, (n, .inl g)))])) → W p l e R s m args below meth c H locs cells slots Q (F0 m (pc + 1) ls rest)) : W p l e R s m args below meth c H locs cells slots Q (F0 m pc ls (.int x :: .int i :: .ref a :: rest)) :=
  zc_iast C0 hZ (r.length + 1) zf_last hi zf_setl hdg (fun H locs h => kk _ H locs rfl h)
theorem zf_aast (C0 : CallFix p m c cc nL s args zT own) {o : Nat × va_E} {r : va_W} {a n j : Nat} {f : Nat → Option Nat} {i : Int32} (hZ : zC V A s H locs (o :: (r ++ [(a, .inl (V.2.1.2, (n, .inr (.inr (.inr (.inr f))))))]))) (hj : j < zN) (hi : vp_in i n) (hdg : decode cc pc = .ok (.aastore, 1))
    (kk : ∀ (g : Nat → Option Nat) (H : Heap) (locs : List Loc), g = va_up f i.toNatClampNeg (some (V.2.2.2.1 j)) → zC V A s H locs (o :: (r ++ [(a, .inl (V.2.1.2, (n, .inr (.inr (.inr (.inr g))))))])) → W p l e R s m args below meth c H locs cells slots Q (F0 m (pc + 1) ls rest)) : W p l e R s m args below meth c H locs cells slots Q (F0 m pc ls (.ref (V.2.2.2.1 j) :: .int i :: .ref a :: rest)) :=
  zc_aast C0 hZ (r.length + 1) zf_last hj hi zf_setl hdg (fun H locs h => kk _ H locs rfl h)
theorem zf_newa (C0 : CallFix p m c cc nL s args zT own) {o : Nat × va_E} {r : va_W} (hZ : zC V A s H locs (o :: r)) {n : Int32} {N : Nat} (harr : Cond.arrayClass .int ∈ zT) (hn : ¬ n < 0) (hN : n.toNatClampNeg = N) (hb9 : N * 4 ≤ 536870912) (hc : cells + 1 ≤ R.cells ∧ slots + N ≤ R.slots) (hdg : decode cc pc = .ok (.newarray .int, 2))
    (kk : ∀ (q : Nat) (H : Heap), zC V A s H locs (o :: (r ++ [(q, .inl (V.2.1.1, (N, .inl (fun _ => 0))))])) → W p l e R s m args below meth c H locs (cells + 1) (slots + N) Q (F0 m (pc + 2) ls (.ref q :: rest))) : W p l e R s m args below meth c H locs cells slots Q (F0 m pc ls (.int n :: rest)) :=
  zc_newa C0 hZ harr hn hN hb9 hc hdg kk
theorem zf_newq (C0 : CallFix p m c cc nL s args zT own) {o : Nat × va_E} {r : va_W} (hZ : zC V A s H locs (o :: r)) {n : Int32} {N idx : Nat} (hcl : Cond.classLink own idx "java/lang/String" ∈ zT) (hover : va_AO "java/lang/String" s) (hn : ¬ n < 0) (hN : n.toNatClampNeg = N) (hb9 : N * 4 ≤ 536870912) (hc : cells + 1 ≤ R.cells ∧ slots + N ≤ R.slots) (hdg : decode cc pc = .ok (.anewarray idx, 3))
    (kk : ∀ (q : Nat) (H : Heap), zC V A s H locs (o :: (r ++ [(q, .inl (V.2.1.2, (N, .inr (.inr (.inr (.inr (fun _ => none)))))))])) → W p l e R s m args below meth c H locs (cells + 1) (slots + N) Q (F0 m (pc + 3) ls (.ref q :: rest))) : W p l e R s m args below meth c H locs cells slots Q (F0 m pc ls (.int n :: rest)) :=
  zc_newq C0 hZ hcl hover hn hN hb9 hc hdg kk
end ZC4
section ZC5
variable {p : Program} {l : Launch} {e : Env} {R : Room} {s : State} {m : MethodId} {args : Array Value} {below : List Frame} {meth : Method} {c : Code} {H : Heap} {locs : List Loc} {cells slots : Nat} {Q : State → Prop} {pc nL : Nat} {ls : Array Slot} {rest : List Value} {cc : ByteArray} {own : String} {V : zV} {A : Nat → Prop}
theorem zg_set {pre suf : List Value} {d v : Value} {j : Nat} (h : pre.length = j) : (pre ++ d :: suf).set j v = (pre ++ [v]) ++ suf := by
  subst h
  rw [List.set_append_right _ _ (Nat.le_refl _), Nat.sub_self, List.append_assoc]
  rfl
/-- the fields ahead of j are done: pre -/
theorem zg_put (C0 : CallFix p m c cc nL s args zT own) {h0 idx ci j M : Nat} {pre suf : List Value} {d : Value} {r : va_W} {C : String} {T : u_T} {ty0 : Nat → FieldType} {v : Value} (hZ : zC V A s H locs ((h0, .inr (ci, pre ++ d :: suf)) :: r)) (hp : pre.length = j) (hinit : meth.name = "<init>") (hw : zfw own idx ci j M C T) (hl : Cond.fieldLink own idx (T j).1 (T j).2.1 (T j).2.2.1 ∈ zT)
    (hty : ∀ k, k < M → parseFieldDescriptor (T k).2.2.1 = some (ty0 k)) (hnm : ∀ a, a < M → ∀ b, b < M → a ≠ b → (T a).2.1 ≠ (T b).2.1) (hdecl : (T j).1 = own) (hn : narrow (ty0 j) v = v) (hfit : fits (ty0 j) v = true) (hdg : decode cc pc = .ok (.putfield idx, 3))
    (kk : ∀ (pre' : List Value) (r' : va_W) (H : Heap) (locs : List Loc), pre' = pre ++ [v] → r' = r → pre'.length = j + 1 → zC V A s H locs ((h0, .inr (ci, pre' ++ suf)) :: r') → W p l e R s m args below meth c H locs cells slots Q (F0 m (pc + 3) ls rest)) : W p l e R s m args below meth c H locs cells slots Q (F0 m pc ls (v :: .ref h0 :: rest)) :=
  zc_put C0 hZ hinit hw hl hty hnm hdecl hn hfit (by rw [List.length_append, hp, List.length_cons]; omega) (zg_set hp) hdg (fun H locs h => kk _ _ H locs rfl rfl (by rw [List.length_append, hp]; rfl) h)
theorem zg_skip {h0 ci j : Nat} {pre suf : List Value} {d : Value} {r : va_W} (hZ : zC V A s H locs ((h0, .inr (ci, pre ++ d :: suf)) :: r)) (hp : pre.length = j) : ∃ pre' : List Value, pre' = pre ++ [d] ∧ pre'.length = j + 1 ∧ zC V A s H locs ((h0, .inr (ci, pre' ++ suf)) :: r) :=
  ⟨_, rfl, by rw [List.length_append, hp]; rfl, by rw [List.append_assoc]; exact hZ⟩
end ZC5
