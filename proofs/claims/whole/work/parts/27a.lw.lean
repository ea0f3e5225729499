/-! the law's world: the class's cells, 'out', the reference's cells, beside each other -/
section LW
variable {D : va_G} {cl : List vw_C} {A : Nat → Prop} {a b wc wc' wr : va_W} {H H1 : Heap}
theorem gP_l (h : va_P D cl (a ++ b) H) : va_P D cl a H := fun k q hk => h k q (by rw [List.getElem?_append_left (List.getElem?_eq_some_iff.mp hk).1]; exact hk)
theorem gP_r (h : va_P D cl (a ++ b) H) : va_P D cl b H := fun k q hk => h (a.length + k) q (by rw [List.getElem?_append_right (by omega), Nat.add_sub_cancel_left]; exact hk)
theorem gD_l (h : va_D A (a ++ b)) : va_D A a := by
  have e : ∀ (k : Nat) (q : Nat × va_E), a[k]? = some q → (a ++ b)[k]? = some q := fun k q hk => by rw [List.getElem?_append_left (List.getElem?_eq_some_iff.mp hk).1]; exact hk
  exact ⟨fun i j x y hi hj hxy => h.1 i j x y (e i x hi) (e j y hj) hxy, fun k q hk => h.2 k q (e k q hk)⟩
theorem gD_r (h : va_D A (a ++ b)) : va_D A b := by
  have e : ∀ (k : Nat) (q : Nat × va_E), b[k]? = some q → (a ++ b)[a.length + k]? = some q := fun k q hk => by rw [List.getElem?_append_right (by omega), Nat.add_sub_cancel_left]; exact hk
  refine ⟨fun i j x y hi hj hxy => ?_, fun k q hk => h.2 _ q (e k q hk)⟩
  have := h.1 _ _ x y (e i x hi) (e j y hj) hxy
  omega
theorem gD_ap (h : va_D A (a ++ b)) {i j : Nat} {p q : Nat × va_E} (hi : a[i]? = some p) (hj : b[j]? = some q) : p.1 ≠ q.1 := by
  intro e
  have li := (List.getElem?_eq_some_iff.mp hi).1
  have := h.1 i (a.length + j) p q (by rw [List.getElem?_append_left li]; exact hi) (by rw [List.getElem?_append_right (by omega), Nat.add_sub_cancel_left]; exact hj) e
  omega
theorem gD_to (h : va_D A wc) (hf : wc'.map Prod.fst = wc.map Prod.fst) : va_D A wc' := by
  have key : ∀ (k : Nat) (q : Nat × va_E), wc'[k]? = some q → ∃ q0, wc[k]? = some q0 ∧ q0.1 = q.1 := by
    intro k q hk
    have h1 : (wc'.map Prod.fst)[k]? = some q.1 := by rw [List.getElem?_map, hk]; rfl
    rw [hf, List.getElem?_map] at h1
    cases hw : wc[k]? with
    | none => rw [hw] at h1; cases h1
    | some q0 => rw [hw] at h1; exact ⟨q0, rfl, Option.some.inj h1⟩
  refine ⟨fun i j x y hi hj hxy => ?_, fun k q hk => ?_⟩
  · obtain ⟨x0, h1, h2⟩ := key i x hi
    obtain ⟨y0, h3, h4⟩ := key j y hj
    exact h.1 i j x0 y0 h1 h3 (h2.trans (hxy.trans h4.symm))
  · obtain ⟨q0, h1, h2⟩ := key k q hk
    rw [← h2]
    exact h.2 k q0 h1
theorem gD_sw (h : va_D A (a ++ b)) : va_D A (b ++ a) := va_D.swap (a := []) (b := a) (c := b) h
theorem gP_sw (h : va_P D cl (a ++ b) H) : va_P D cl (b ++ a) H := (gP_r h).app (gP_l h)
/-- the frame: a call that works on wc leaves the rest -/
theorem gjoin (hP : va_P D cl (wc ++ wr) H) (hD : va_D A (wc ++ wr)) (hk : ∀ q : Nat, q < H.size → ¬ va_A wc H.size q → H1[q]? = H[q]?) (hP1 : va_P D cl wc' H1) (hf : wc'.map Prod.fst = wc.map Prod.fst) : va_P D cl (wc' ++ wr) H1 ∧ va_D A (wc' ++ wr) := by
  refine ⟨hP1.app ((gP_r hP).kept (fun k q hq => hk q.1 (vx_lt (gP_r hP) hq) (fun z => ?_))), gD_to hD (by rw [List.map_append, List.map_append, hf])⟩
  rcases z with ⟨i, e, hi⟩ | hz
  · exact gD_ap hD hi hq rfl
  · exact absurd (vx_lt (gP_r hP) hq) (by omega)
end LW
theorem zw_fst {L : Nat} {V : zV} {σ : zS} : (zw L V σ).map Prod.fst = (List.range (nC L)).map (zad V) := by
  unfold zw
  rw [List.map_map]
  rfl
/-- the row 'out' -/
def lO (cL : ClassId) (o : Nat) (f : Nat → Int64) : va_W := [(o, .inl (cL, (1, .inr (.inl f))))]
/-- a world of any cells, in a method -/
def gZ (V : zV) (tys : List (ClassId × FieldType)) (A : Nat → Prop) (ws : va_W) (s : State) (H : Heap) (locs : List Loc) : Prop :=
  va_P V.1 vwCl ws H ∧ va_K V.1 vwCl tys s ∧ va_D A ws ∧ va_S A s.heap H locs ∧ (∀ q, s.heap.size ≤ q → A q) ∧ zEv V A s s.heap
def gPre (V : zV) (tys : List (ClassId × FieldType)) (ws : va_W) (sz : Nat) : State → Prop := fun U => U.heap.size = sz ∧ va_P V.1 vwCl ws U.heap ∧ va_K V.1 vwCl tys U ∧ va_D (fun _ => True) ws ∧ zEv V (va_A ws sz) U U.heap
/-- the part of it that is a world of numbers -/
theorem gZ.zz {L : Nat} {V V0 : zV} {tys : List (ClassId × FieldType)} {A : Nat → Prop} {σ : zS} {wr : va_W} {s : State} {H : Heap} {locs : List Loc} (h : gZ V0 tys A (zw L V σ ++ wr) s H locs) (hV : V0 = zat V (zad V0)) (is : List Nat) (ht : is.filterMap (fun i => tys[i]?) = ztys L V) : zZ L V A σ s H locs := by
  obtain ⟨hP, hK, hD, hS, hA, hE⟩ := h
  rw [hV] at hP hK hE
  exact ⟨gP_l hP, va_K.sub hK is ht, gD_l hD, hS, hA, hE⟩
theorem gZ.af {V : zV} {tys : List (ClassId × FieldType)} {A : Nat → Prop} {wc wc' wr : va_W} {s : State} {H H1 : Heap} {locs locs1 : List Loc} (h : gZ V tys A (wc ++ wr) s H locs) (hk : ∀ q : Nat, q < H.size → ¬ va_A wc H.size q → H1[q]? = H[q]?) (hP1 : va_P V.1 vwCl wc' H1) (hf : wc'.map Prod.fst = wc.map Prod.fst) (hS : va_S A s.heap H1 locs1) : gZ V tys A (wc' ++ wr) s H1 locs1 := by
  obtain ⟨hP, hK, hD, -, hA, hE⟩ := h
  obtain ⟨a, b⟩ := gjoin hP hD hk hP1 hf
  exact ⟨a, hK, b, hS, hA, hE⟩
theorem gZ.sw {V : zV} {tys : List (ClassId × FieldType)} {A : Nat → Prop} {wc wr : va_W} {s : State} {H : Heap} {locs : List Loc} (h : gZ V tys A (wc ++ wr) s H locs) : gZ V tys A (wr ++ wc) s H locs := by
  obtain ⟨hP, hK, hD, hS, hA, hE⟩ := h
  exact ⟨gP_sw hP, hK, gD_sw hD, hS, hA, hE⟩
