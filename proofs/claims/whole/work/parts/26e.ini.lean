theorem va_D.row {A : Nat → Prop} {ws : va_W} (h : va_D A ws) {k a : Nat} {e0 e : va_E} (hk : ws[k]? = some (a, e0)) : va_D A (ws.set k (a, e)) := by
  have hl := (List.getElem?_eq_some_iff.mp hk).1
  have key : ∀ (i : Nat) (x : Nat × va_E), (ws.set k (a, e))[i]? = some x → ∃ y : Nat × va_E, ws[i]? = some y ∧ y.1 = x.1 := by
    intro i x hx
    by_cases hi : k = i
    · subst hi
      rw [List.getElem?_set_self hl] at hx
      cases hx
      exact ⟨_, hk, rfl⟩
    · rw [List.getElem?_set_ne hi] at hx
      exact ⟨x, hx, rfl⟩
  refine ⟨fun i j x y hi hj hxy => ?_, fun i x hx => ?_⟩
  · obtain ⟨x0, a1, a2⟩ := key i x hi
    obtain ⟨y0, b1, b2⟩ := key j y hj
    exact h.1 i j x0 y0 a1 b1 (a2.trans (hxy.trans b2.symm))
  · obtain ⟨x0, a1, a2⟩ := key i x hx
    rw [← a2]
    exact h.2 i x0 a1
def cT1 (V : zV) (q : Nat → Nat) : Nat × va_E := (q 1, .inl (V.2.1.2, (4, .inr (.inr (.inr (.inr (fun j => some (V.2.2.2.1 (zst 1 j)))))))))
def cT2 (V : zV) (q : Nat → Nat) : Nat × va_E := (q 2, .inl (V.2.1.2, (7, .inr (.inr (.inr (.inr (fun j => some (V.2.2.2.1 (zst 2 j)))))))))
set_option maxRecDepth 100000 in
set_option maxHeartbeats 4000000 in
theorem w1_eq (V : zV) (q : Nat → Nat) : ((cW8 V q).set 1 (cT1 V q)).set 2 (cT2 V q) = zw 1 (zat V q) zs1 := Eq.trans rfl rfl
set_option maxRecDepth 100000 in
set_option maxHeartbeats 4000000 in
theorem w1_PD {V : zV} {q : Nat → Nat} {H : Heap} {A : Nat → Prop} (hP : va_P V.1 vwCl (cW8 V q) H) (hD : va_D A (cW8 V q)) : va_P V.1 vwCl (zw 1 (zat V q) zs1) H ∧ va_D A (zw 1 (zat V q) zs1) := by
  rw [← w1_eq]
  have k1 : (cW8 V q)[1]? = some (q 1, .inl (V.2.1.2, (4, .inr (.inr (.inr (.inr (va_up (va_up (va_up (va_up (fun _ => none) 0 (some (V.2.2.2.1 7))) 1 (some (V.2.2.2.1 8))) 2 (some (V.2.2.2.1 9))) 3 (some (V.2.2.2.1 10))))))))) := rfl
  have k2 : ((cW8 V q).set 1 (cT1 V q))[2]? = some (q 2, .inl (V.2.1.2, (7, .inr (.inr (.inr (.inr (va_up (va_up (va_up (va_up (va_up (va_up (va_up (fun _ => none) 0 (some (V.2.2.2.1 14))) 1 (some (V.2.2.2.1 15))) 2 (some (V.2.2.2.1 16))) 3 (some (V.2.2.2.1 17))) 4 (some (V.2.2.2.1 18))) 5 (some (V.2.2.2.1 19))) 6 (some (V.2.2.2.1 20))))))))) := rfl
  have P1 : va_P V.1 vwCl ((cW8 V q).set 1 (cT1 V q)) H := va_P.row hP k1 (fun j hj => by match j, hj with | 0, _ => rfl | 1, _ => rfl | 2, _ => rfl | 3, _ => rfl | j + 4, hj => exact absurd hj (by omega))
  have D1 : va_D A ((cW8 V q).set 1 (cT1 V q)) := va_D.row hD k1
  exact ⟨va_P.row P1 k2 (fun j hj => by match j, hj with | 0, _ => rfl | 1, _ => rfl | 2, _ => rfl | 3, _ => rfl | 4, _ => rfl | 5, _ => rfl | 6, _ => rfl | j + 7, hj => exact absurd hj (by omega)), va_D.row D1 k2⟩
theorem w0_PD {V : zV} {q : Nat → Nat} {H : Heap} {A : Nat → Prop} (hP : va_P V.1 vwCl (cW7 V q) H) (hD : va_D A (cW7 V q)) : va_P V.1 vwCl (zw 0 (zat V (fun k => q (pw0.getD k 0))) zs0) H ∧ va_D A (zw 0 (zat V (fun k => q (pw0.getD k 0))) zs0) :=
  ⟨cW7_P hP (w0_map V q), hD.sub pw0 pw0_nd (w0_map V q)⟩
