theorem thr_eq {τ : zS} : FX8_thrown 0 τ = some (τ 0 2, τ) := rfl
/-- types of the cells of a wrapper's world, of the law's -/
abbrev gtW (V : zV) (cL : ClassId) : List (ClassId × FieldType) := [(V.2.1.1, .int), (cL, .long)]
abbrev gtL (V : zV) (cL : ClassId) : List (ClassId × FieldType) := [(V.2.1.1, .int), (V.2.1.2, .object "java/lang/String"), (cL, .long)]
/-- a wrapper's contract: its answer is the code, 'out' holds the class's answer -/
def gWr (l : Launch) (y : MethodName) (b : ByteArray) (nL f n mc ms : Nat) (hh : List (Nat × Nat × Nat × Nat)) (V : zV) (cL : ClassId) (o : Nat) (σ : zS) (f0 : Nat → Int64) (t : zT3) (code : Int32) (av : List Value) : Prop :=
  ∀ sz, Met l y (Cond.codeWith y b nL (some .int) hh :: zT) { frames := f, cells := mc, slots := ms, locals := n } (va_Pc av (gPre V (gtW V cL) (zw 0 V σ ++ lO cL o f0) sz)) (va_Qi (fun (r : Int32) (f1 : Nat → Int64) => r = code ∧ (t.1 = 0 → f1 0 = t.2.1.toInt64)) (fun f1 u => va_P V.1 vwCl (zw 0 V t.2.2 ++ lO cL o f1) u.heap ∧ va_K V.1 vwCl (gtW V cL) u) (va_A (zw 0 V σ ++ lO cL o f0) sz)) mc ms (va_A (zw 0 V σ ++ lO cL o f0) sz)
