/-- which words stay when a class warms up -/
def zok : Cond → Bool
  | .fieldLinkNest _ _ _ _ _ _ => true
  | .methodLinkNest _ _ _ _ => true
  | .castable _ _ => true
  | .declares _ => true
  | .arrayOver (.object _) => true
  | w => goodWord w
def zT : List Cond := lw_tbl.filter zok
theorem zpay {args : Array Value} {s : State} (h : ∀ w ∈ zT, w.before args s = true) : ∀ w ∈ zT, ∀ (a' : Array Value) (U : State), s.WarmedH U.vm → w.before a' U = true := by
  intro w hw a' U hW
  have hb := h w hw
  have hk : zok w = true := (List.mem_filter.mp hw).2
  cases w with
  | fieldLinkNest a i b n d h => exact va_Nw.use rfl (va_Nw.warmF hW (va_Nw.of rfl hb))
  | methodLinkNest a i x h => exact va_Nw.use rfl (va_Nw.warmM hW (va_Nw.of rfl hb))
  | castable C T => exact va_Nw.use rfl (va_Nw.warmC hW (va_Nw.of rfl hb))
  | declares x => exact va_Nw.use rfl (va_Nw.warmD hW (va_Nw.of rfl hb))
  | arrayOver ty =>
    cases ty with
    | object C => exact va_AO.use (va_AO.moved hW.alike (va_AO.of hb))
    | _ => exact word_at hW (good_of_word hk) hb
  | _ => exact word_at hW (good_of_word hk) hb
theorem zmem {w : Cond} (i : Nat) (h : lw_tbl[i]? = some w) (k : zok w = true) : w ∈ zT := List.mem_filter.mpr ⟨List.mem_of_getElem? h, k⟩
abbrev zws (y : MethodName) (b : ByteArray) (nL : Nat) (ret : Option FieldType) : List Cond := Cond.code y b nL ret :: zT
/-- a world's numbers: cell, place -/
abbrev zS : Type := Nat → Nat → Int32
def zup (σ : zS) (k j : Nat) (v : Int32) : zS := fun a => if a = k then upd (σ k) j v else σ a
def zkd0 : List Nat := [7, 100, 100, 100, 3, 100, 6, 100, 100, 100, 100, 100, 100, 100, 100, 6, 100, 100, 100, 100, 100, 100, 100, 100, 0, 100, 100, 100, 100, 100, 100, 100, 100, 100, 100, 0, 100, 100, 100, 100, 100, 100, 100, 100, 100, 100, 5, 1, 100, 100, 100, 100, 100, 2, 100, 100, 100, 100, 100, 100, 4, 100, 100, 100, 5, 1, 100, 100, 100, 100, 100, 2, 100, 100, 100, 100, 100, 100, 4, 100, 100, 100]
def zln0 : List Nat := [0, 5, 5, 8, 0, 700, 0, 10, 10, 1040, 12, 12, 8, 8, 3, 0, 10, 10, 1040, 12, 12, 8, 8, 3, 0, 10, 10, 10, 8, 8, 8, 7, 8, 61, 488, 0, 10, 10, 10, 8, 8, 8, 7, 8, 61, 488, 0, 0, 10, 10, 10, 10, 100, 0, 8, 8, 8, 8, 8, 96, 0, 4, 700, 40, 0, 0, 10, 10, 10, 10, 100, 0, 8, 8, 8, 8, 8, 96, 0, 4, 700, 40]
def zkd1 : List Nat := [8, 101, 101, 100, 100, 100, 100, 100, 100, 100, 100, 100, 100, 100, 100, 100, 100, 100, 100, 100, 100, 100, 100, 100, 100, 100, 100, 100, 100, 100, 100, 100, 100, 100, 100, 100, 100, 100, 100, 100, 100]
def zln1 : List Nat := [0, 4, 7, 18, 20, 20, 20, 20, 16, 16, 16, 16, 16, 192, 8, 1400, 3, 700, 100, 1040, 7, 64, 10, 10, 8, 8, 8, 10, 10, 12, 12, 8, 8, 8, 26, 1040, 12, 12, 8, 8, 3]
def zkdL : Nat → List Nat | 0 => zkd0 | _ => zkd1
def zlnL : Nat → List Nat | 0 => zln0 | _ => zln1
/-- the kind of a cell: a class, 100 a row of ints, 101 a row of texts, 200 none -/
def kd (L k : Nat) : Nat := (zkdL L).getD k 200
def ln (L k : Nat) : Nat := (zlnL L).getD k 0
def nC (L : Nat) : Nat := (zkdL L).length
/-- a class's fields: 0 an int, 1 a cell that may change, 2 and more: the cell so much (less 2) behind the object -/
def tp : Nat → List Nat
  | 0 => [1, 0, 0, 0, 0, 0, 3, 4, 5, 6, 7, 8, 0, 0, 9, 10, 11, 12]
  | 1 => [0, 0, 0, 3, 4, 5, 6, 7]
  | 2 => [0, 3, 4, 5, 6, 7, 8]
  | 3 => [3, 1, 0, 0, 0, 0, 0, 0, 0, 0]
  | 4 => [0, 0, 3, 4, 5, 0]
  | 5 => [3, 9, 16, 0, 0, 0]
  | 6 => [0, 0, 0, 0, 0, 0, 3, 4, 0, 5, 0, 6, 7, 0, 8, 9, 10]
  | 7 => [0, 0, 1, 6, 8, 17, 0, 26, 37, 0, 3, 4, 0, 5]
  | 8 => [3, 4, 0, 5, 6, 7, 8, 9, 10, 11, 12, 13, 14, 15, 16, 17, 18, 19, 0, 0, 0, 0, 0, 0, 0, 0, 0, 0, 20, 0, 0, 0, 0, 0, 0, 0, 0, 0, 21, 22, 23, 24, 25, 26, 27, 28, 0, 0, 0, 0, 0, 0, 0, 0, 0, 0, 0, 0, 0, 0, 0, 0, 0, 29, 30, 0, 31, 32, 33, 34, 35, 0, 0, 0, 0, 0, 36, 37, 38, 39, 40, 41, 42]
  | _ => []
def zN : Nat := 21
def zLen : List Nat := [5, 3, 6, 4, 6, 5, 5, 5, 5, 5, 5, 2, 3, 3, 4, 4, 4, 3, 5, 5, 6]
def zByt : List (List Int32) := [[97, 105, 115, 108, 101], [119, 97, 121], [109, 105, 114, 114, 111, 114], [114, 117, 108, 101], [110, 111, 116, 105, 99, 101], [102, 97, 108, 115, 101], [115, 116, 111, 112, 115], [98, 117, 121, 101, 114], [116, 104, 105, 101, 102], [108, 97, 112, 115, 101], [115, 116, 97, 102, 102], [111, 114], [97, 110, 100], [110, 111, 116], [99, 111, 97, 116], [104, 101, 114, 101], [116, 111, 111, 107], [102, 97, 114], [119, 111, 114, 116, 104], [99, 114, 111, 119, 100], [109, 105, 110, 117, 116, 101]]
def zStr : List (String × Nat × String × Nat) := [("ShopEyes$Reader", 142, "buyer", 7), ("ShopEyes$Reader", 144, "thief", 8), ("ShopEyes$Reader", 146, "lapse", 9), ("ShopEyes$Reader", 148, "staff", 10), ("ShopEyes$Reader", 95, "aisle", 0), ("ShopEyes$Reader", 104, "way", 1), ("ShopEyes$Reader", 109, "mirror", 2), ("ShopEyes$Reader", 114, "rule", 3), ("ShopEyes$Reader", 255, "not", 13), ("ShopEyes$Reader", 275, "coat", 14), ("ShopEyes$Reader", 276, "here", 15), ("ShopEyes$Reader", 278, "took", 16), ("ShopEyes$Reader", 280, "far", 17), ("ShopEyes$Reader", 282, "worth", 18), ("ShopEyes$Reader", 284, "crowd", 19), ("ShopEyes$Reader", 286, "minute", 20), ("ShopEyes$Reader", 253, "and", 12), ("ShopEyes$Reader", 245, "or", 11), ("ShopEyes$Reader", 119, "notice", 4), ("ShopEyes$Reader", 127, "false", 5), ("ShopEyes$Reader", 132, "stops", 6), ("ShopEyesModel", 11, "buyer", 7), ("ShopEyesModel", 13, "thief", 8), ("ShopEyesModel", 15, "lapse", 9), ("ShopEyesModel", 17, "staff", 10), ("ShopEyesModel", 23, "coat", 14), ("ShopEyesModel", 25, "here", 15), ("ShopEyesModel", 27, "took", 16), ("ShopEyesModel", 29, "far", 17), ("ShopEyesModel", 31, "worth", 18), ("ShopEyesModel", 33, "crowd", 19), ("ShopEyesModel", 35, "minute", 20), ("ShopEyesModel", 285, "notice", 4), ("ShopEyesModel", 287, "false", 5), ("ShopEyesModel", 289, "stops", 6), ("ShopEyesModel", 293, "aisle", 0), ("ShopEyesModel", 298, "way", 1), ("ShopEyesModel", 303, "mirror", 2), ("ShopEyesModel", 305, "rule", 3), ("ShopEyesModel", 263, "not", 13), ("ShopEyesModel", 271, "and", 12), ("ShopEyesModel", 276, "or", 11)]
/-- which text stands in a row of texts -/
def zst (k j : Nat) : Nat := if k = 1 then ([7, 8, 9, 10] : List Nat).getD j 0 else ([14, 15, 16, 17, 18, 19, 20] : List Nat).getD j 0
/-- what a world needs to be placed: classes, the rows' classes, the cells' addresses, the texts' -/
abbrev zV : Type := va_G × (ClassId × ClassId) × (Nat → Nat) × (Nat → Nat) × (Nat → Nat)
abbrev zad (V : zV) : Nat → Nat := V.2.2.1
def zval (V : zV) (σ : zS) (k j t : Nat) : Value := match t with | 0 => .int (σ k j) | 1 => .ref (zad V (σ k j).toNatClampNeg) | o + 2 => .ref (zad V (k + o))
def zfs (V : zV) (σ : zS) (k : Nat) (l : List Nat) : List Value := (List.range l.length).map fun j => zval V σ k j (l.getD j 0)
def zE (L : Nat) (V : zV) (σ : zS) (k : Nat) : va_E :=
  if kd L k = 100 then .inl (V.2.1.1, (ln L k, .inl (σ k))) else if kd L k = 101 then .inl (V.2.1.2, (ln L k, .inr (.inr (.inr (.inr (fun j => some (V.2.2.2.1 (zst k j)))))))) else .inr (kd L k, zfs V σ k (tp (kd L k)))
def zw (L : Nat) (V : zV) (σ : zS) : va_W := (List.range (nC L)).map (fun k => (zad V k, zE L V σ k))
def ztys (L : Nat) (V : zV) : List (ClassId × FieldType) := match L with | 0 => [(V.2.1.1, .int)] | _ => [(V.2.1.1, .int), (V.2.1.2, .object "java/lang/String")]
/-- what lies outside of every world: the texts, two statics -/
def zEv (V : zV) (A : Nat → Prop) (U : State) (H : Heap) : Prop := vk_S zN zLen zByt V.2.2.2.1 V.2.2.2.2 A U H ∧ (∀ r ∈ zStr, vk_R r.1 r.2.1 r.2.2.1 (V.2.2.2.1 r.2.2.2) U) ∧ vx_Zq Bundle.tN "UNASSIGNED_STACK" Bundle.steD A U H ∧ vx_Zq Bundle.tN "SUPPRESSED_SENTINEL" Bundle.listD A U H ∧ va_Z "java/lang/String" "COMPACT_STRINGS" "Z" (.int 1) A U H ∧ va_Zq "jdk/internal/util/Preconditions" "SIOOBE_FORMATTER" "Ljava/util/function/BiFunction;" A U H
theorem zEv.kept {V : zV} {A : Nat → Prop} {U : State} {H H1 : Heap} (h : zEv V A U H) (hq : ∀ a : Nat, a < H.size → ¬ A a → H1[a]? = H[a]?) : zEv V A U H1 := ⟨h.1.kept hq, h.2.1, h.2.2.1.kept hq, h.2.2.2.1.kept hq, h.2.2.2.2.1.kept hq, h.2.2.2.2.2.kept hq⟩
theorem zEv.narrow {V : zV} {A B : Nat → Prop} {U : State} {H : Heap} (h : zEv V A U H) (hAB : ∀ q, B q → A q) : zEv V B U H := ⟨h.1.narrow hAB, h.2.1, h.2.2.1.narrow hAB, h.2.2.2.1.narrow hAB, h.2.2.2.2.1.narrow hAB, h.2.2.2.2.2.narrow hAB⟩
theorem zEv.warm {V : zV} {A : Nat → Prop} {u U : State} {H : Heap} (hW : u.WarmedH U.vm) (h : zEv V A u H) : zEv V A U H := ⟨h.1.moved hW.alike, fun r hr => (h.2.1 r hr).warm hW, h.2.2.1.moved hW.alike, h.2.2.2.1.moved hW.alike, h.2.2.2.2.1.moved hW.alike, h.2.2.2.2.2.moved hW.alike⟩
theorem zEv.same {V : zV} {A : Nat → Prop} {u U : State} {H : Heap} (hv : U.vm = u.vm) (h : zEv V A u H) : zEv V A U H := by
  have ha : u.vm.Alike U.vm := by rw [hv]; exact Vm.Alike.refl _
  exact ⟨h.1.moved ha, fun r hr => (h.2.1 r hr).same hv, h.2.2.1.moved ha, h.2.2.2.1.moved ha, h.2.2.2.2.1.moved ha, h.2.2.2.2.2.moved ha⟩
/-- the world in a method: its cells, the classes, its part of the heap -/
def zZ (L : Nat) (V : zV) (A : Nat → Prop) (σ : zS) (s : State) (H : Heap) (locs : List Loc) : Prop :=
  va_P V.1 vwCl (zw L V σ) H ∧ va_K V.1 vwCl (ztys L V) s ∧ va_D A (zw L V σ) ∧ va_S A s.heap H locs ∧ (∀ q, s.heap.size ≤ q → A q) ∧ zEv V A s s.heap
def zPre (L : Nat) (V : zV) (σ : zS) (sz : Nat) : State → Prop := fun U => U.heap.size = sz ∧ va_P V.1 vwCl (zw L V σ) U.heap ∧ va_K V.1 vwCl (ztys L V) U ∧ va_D (fun _ => True) (zw L V σ) ∧ zEv V (va_A (zw L V σ) sz) U U.heap
abbrev zrm (f n : Nat) : Room := { frames := f, cells := 0, slots := 0, locals := n }
def zQi (L : Nat) (V : zV) (t : Int32 × zS) (A : Nat → Prop) : Array Value → State → Outcome → State → Prop := va_Qi (fun (r : Int32) (_ : Unit) => r = t.1) (fun _ u => va_P V.1 vwCl (zw L V t.2) u.heap ∧ va_K V.1 vwCl (ztys L V) u) A
def zQv (L : Nat) (V : zV) (t : Int32 × zS) (A : Nat → Prop) : Array Value → State → Outcome → State → Prop := va_Qv (fun (_ : Unit) => True) (fun _ u => va_P V.1 vwCl (zw L V t.2) u.heap ∧ va_K V.1 vwCl (ztys L V) u) A
/-- contracts: the method with these arguments in the world σ answers t.1 and leaves t.2 -/
def zMi (l : Launch) (y : MethodName) (b : ByteArray) (nL : Nat) (ret : Option FieldType) (f n L : Nat) (V : zV) (σ : zS) (t : Int32 × zS) (av : List Value) : Prop :=
  ∀ sz, Met l y (zws y b nL ret) (zrm f n) (va_Pc av (zPre L V σ sz)) (zQi L V t (va_A (zw L V σ) sz)) 0 0 (va_A (zw L V σ) sz)
def zMv (l : Launch) (y : MethodName) (b : ByteArray) (nL : Nat) (f n L : Nat) (V : zV) (σ : zS) (t : Int32 × zS) (av : List Value) : Prop :=
  ∀ sz, Met l y (zws y b nL none) (zrm f n) (va_Pc av (zPre L V σ sz)) (zQv L V t (va_A (zw L V σ) sz)) 0 0 (va_A (zw L V σ) sz)
-- the world's facts
theorem kd_lt {L k : Nat} (h : kd L k < 200) : k < nC L := by
  unfold kd at h
  unfold nC
  rw [List.getD_eq_getElem?_getD] at h
  by_cases hk : k < (zkdL L).length
  · exact hk
  · rw [List.getElem?_eq_none (by omega)] at h
    exact absurd h (by decide)
theorem zw_get {L k : Nat} {V : zV} {σ : zS} (h : k < nC L) : (zw L V σ)[k]? = some (zad V k, zE L V σ k) := by
  unfold zw
  rw [List.getElem?_map, List.getElem?_range h]
  rfl
theorem zw_len {L : Nat} {V : zV} {σ : zS} : (zw L V σ).length = nC L := by unfold zw; rw [List.length_map, List.length_range]
theorem zw_set {L k : Nat} {V : zV} {σ σ' : zS} {e : va_E} (h : k < nC L) (he : zE L V σ' k = e) (ho : ∀ j, j ≠ k → zE L V σ' j = zE L V σ j) : (zw L V σ).set k (zad V k, e) = zw L V σ' := by
  apply List.ext_getElem?
  intro i
  by_cases hi : i < nC L
  · by_cases hik : k = i
    · subst hik
      rw [List.getElem?_set_self (by rw [zw_len]; exact h), zw_get h, he]
    · rw [List.getElem?_set_ne hik, zw_get hi, zw_get hi, ho i (fun z => hik z.symm)]
  · rw [List.getElem?_eq_none (by rw [List.length_set, zw_len]; omega), List.getElem?_eq_none (by rw [zw_len]; omega)]
theorem zE_off {L k j i : Nat} {V : zV} {σ : zS} {v : Int32} (h : i ≠ k) : zE L V (zup σ k j v) i = zE L V σ i := by
  have e : zup σ k j v i = σ i := by unfold zup; rw [if_neg h]
  have e2 : ∀ l, zfs V (zup σ k j v) i l = zfs V σ i l := fun l => by
    unfold zfs
    apply List.map_congr_left
    intro a _
    unfold zval
    rw [e]
  unfold zE
  rw [e, e2]
theorem zE_obj {L k ci : Nat} {V : zV} {σ : zS} (h : kd L k = ci) (hc : ci < 100) : zE L V σ k = .inr (ci, zfs V σ k (tp ci)) := by
  unfold zE
  rw [h, if_neg (by omega), if_neg (by omega)]
theorem zE_arr {L k : Nat} {V : zV} {σ : zS} (h : kd L k = 100) : zE L V σ k = .inl (V.2.1.1, (ln L k, .inl (σ k))) := by
  unfold zE
  rw [h, if_pos rfl]
theorem zE_str {L k : Nat} {V : zV} {σ : zS} (h : kd L k = 101) : zE L V σ k = .inl (V.2.1.2, (ln L k, .inr (.inr (.inr (.inr (fun j => some (V.2.2.2.1 (zst k j)))))))) := by
  unfold zE
  rw [h, if_neg (by omega), if_pos rfl]
theorem zfs_get {V : zV} {σ : zS} {k j t : Nat} {l : List Nat} (h : l[j]? = some t) : (zfs V σ k l)[j]? = some (zval V σ k j t) := by
  have hj := (List.getElem?_eq_some_iff.mp h).1
  unfold zfs
  rw [List.getElem?_map, List.getElem?_range hj]
  show some (zval V σ k j (l.getD j 0)) = _
  rw [List.getD_eq_getElem?_getD, h]
  rfl
theorem zfs_len {V : zV} {σ : zS} {k : Nat} {l : List Nat} : (zfs V σ k l).length = l.length := by unfold zfs; rw [List.length_map, List.length_range]
theorem zfs_set {V : zV} {σ : zS} {k j t : Nat} {l : List Nat} {x : Int32} {v : Value} (h : l[j]? = some t) (hv : zval V (zup σ k j x) k j t = v) : (zfs V σ k l).set j v = zfs V (zup σ k j x) k l := by
  have hj := (List.getElem?_eq_some_iff.mp h).1
  apply List.ext_getElem?
  intro i
  by_cases hi : i < l.length
  · obtain ⟨ti, hti⟩ : ∃ ti, l[i]? = some ti := ⟨l[i], List.getElem?_eq_getElem hi⟩
    by_cases hij : j = i
    · subst hij
      rw [List.getElem?_set_self (by rw [zfs_len]; exact hj), zfs_get h, hv]
    · rw [List.getElem?_set_ne hij, zfs_get hti, zfs_get hti]
      have e : zup σ k j x k i = σ k i := by unfold zup; rw [if_pos rfl]; unfold upd; rw [if_neg (fun z => hij z.symm)]
      unfold zval
      rw [e]
  · rw [List.getElem?_eq_none (by rw [List.length_set, zfs_len]; omega), List.getElem?_eq_none (by rw [zfs_len]; omega)]
theorem zD_to {L : Nat} {V : zV} {A : Nat → Prop} {σ σ' : zS} (h : va_D A (zw L V σ)) : va_D A (zw L V σ') := by
  have key : ∀ (k : Nat) (q : Nat × va_E), (zw L V σ')[k]? = some q → ∃ q0, (zw L V σ)[k]? = some q0 ∧ q0.1 = q.1 := by
    intro k q hk
    have hl : k < nC L := by rw [← zw_len (V := V) (σ := σ')]; exact (List.getElem?_eq_some_iff.mp hk).1
    rw [zw_get hl] at hk
    cases hk
    exact ⟨_, zw_get hl, rfl⟩
  refine ⟨fun i j x y hi hj hxy => ?_, fun k q hk => ?_⟩
  · obtain ⟨x0, h1, h2⟩ := key i x hi
    obtain ⟨y0, h3, h4⟩ := key j y hj
    exact h.1 i j x0 y0 h1 h3 (h2.trans (hxy.trans h4.symm))
  · obtain ⟨q0, h1, h2⟩ := key k q hk
    rw [← h2]
    exact h.2 k q0 h1
theorem zA_to {L : Nat} {V : zV} {σ σ' : zS} {sz q : Nat} (h : va_A (zw L V σ) sz q) : va_A (zw L V σ') sz q := by
  rcases h with ⟨k, e, h⟩ | h
  · have hl : k < nC L := by rw [← zw_len (V := V) (σ := σ)]; exact (List.getElem?_eq_some_iff.mp h).1
    rw [zw_get hl] at h
    cases h
    exact Or.inl ⟨k, _, zw_get hl⟩
  · exact Or.inr h
theorem zfree {L : Nat} {V : zV} {A : Nat → Prop} {σ : zS} {s : State} {H : Heap} {locs : List Loc} (h : zZ L V A σ s H locs) : ∀ q, va_A (zw L V σ) H.size q → A q := by
  obtain ⟨hP, hK, hD, hS, hA, hE⟩ := h
  intro q hq
  rcases hq with ⟨k, e, hq⟩ | hq
  · exact hD.2 k (q, e) hq
  · exact hA q (Nat.le_trans hS.1 hq)
theorem zZ_pre {L : Nat} {V : zV} {A : Nat → Prop} {σ : zS} {s : State} {H : Heap} {locs : List Loc} (h : zZ L V A σ s H locs) {U : State} (hU : U.heap = H) (hW : s.WarmedH U.vm) : zPre L V σ H.size U := by
  have hF := zfree h
  obtain ⟨hP, hK, hD, hS, hA, hE⟩ := h
  refine ⟨by rw [hU], by rw [hU]; exact hP, va_K.moved hW.alike hK, hD.weaken (fun _ _ _ _ => trivial), ?_⟩
  rw [hU]
  exact ((hE.kept hS.2.1).narrow hF).warm hW
theorem zPre_blind {av : List Value} {L : Nat} {V : zV} {σ : zS} {sz : Nat} : FrameBlind (va_Pc av (zPre L V σ sz)) := by
  intro a U g mk q
  obtain ⟨q0, q1, qP, qK, qD, qE⟩ := q
  exact ⟨q0, q1, qP, va_K.moved (u := U) (U := U.calling g mk a) (Vm.Alike.refl U.vm) qK, qD, qE.same rfl⟩
theorem zZ_after {L : Nat} {V : zV} {A : Nat → Prop} {σ σ' : zS} {s t : State} {H H1 : Heap} {locs locs1 : List Loc} (h : zZ L V A σ s H locs) (ht : t.heap = H1) (hvm : s.vm.Alike t.vm) (hP : va_P V.1 vwCl (zw L V σ') t.heap) (hS : va_S A s.heap H1 locs1) : zZ L V A σ' s H1 locs1 := by
  obtain ⟨-, hK, hD, -, hA, hE⟩ := h
  rw [ht] at hP
  exact ⟨hP, hK, zD_to hD, hS, hA, hE⟩
