/-! the fresh worlds, in the order of the world's cells -/
def pw0 : List Nat := [0, 79, 80, 81, 19, 20, 39, 40, 41, 42, 43, 44, 45, 46, 47, 48, 49, 50, 51, 52, 53, 54, 55, 56, 57, 58, 59, 60, 61, 62, 63, 64, 65, 66, 67, 68, 69, 70, 71, 72, 73, 74, 75, 76, 77, 78, 1, 2, 3, 4, 5, 6, 7, 8, 9, 10, 11, 12, 13, 14, 15, 16, 17, 18, 21, 22, 23, 24, 25, 26, 27, 28, 29, 30, 31, 32, 33, 34, 35, 36, 37, 38]
def zat (V : zV) (g : Nat → Nat) : zV := (V.1, V.2.1, g, V.2.2.2.1, V.2.2.2.2)
theorem pw0_nd : va_nd pw0 = true := by decide +kernel
theorem cW7_P {V : zV} {q : Nat → Nat} {H : Heap} (h : va_P V.1 vwCl (cW7 V q) H) (hm : pw0.map (fun i => (cW7 V q)[i]?) = (zw 0 (zat V (fun k => q (pw0.getD k 0))) zs0).map some) : va_P V.1 vwCl (zw 0 (zat V (fun k => q (pw0.getD k 0))) zs0) H := by
  intro k x hk
  have h1 : (pw0.map (fun i => (cW7 V q)[i]?))[k]? = some (some x) := by rw [hm, List.getElem?_map, hk]; rfl
  rw [List.getElem?_map] at h1
  cases hi : pw0[k]? with
  | none => rw [hi] at h1; cases h1
  | some i => rw [hi] at h1; exact h i x (Option.some.inj h1)
theorem vp_cellQ {cA : ClassId} {n : Nat} {f g : Nat → Option Nat} (h : ∀ j, j < n → f j = g j) : vp_cell cA (n, .inr (.inr (.inr (.inr f)))) = vp_cell cA (n, .inr (.inr (.inr (.inr g)))) := by
  show arrV cA n (fun j => va_rf (f j)) = arrV cA n (fun j => va_rf (g j))
  unfold arrV
  have e : (fun j : Fin n => va_rf (f j.val)) = fun j : Fin n => va_rf (g j.val) := funext fun j => by rw [h j.val j.isLt]
  rw [e]
theorem va_P.row {D : va_G} {cl : List vw_C} {ws : va_W} {H : Heap} (h : va_P D cl ws H) {k a n : Nat} {cA : ClassId} {f g : Nat → Option Nat} (hk : ws[k]? = some (a, .inl (cA, (n, .inr (.inr (.inr (.inr f))))))) (hf : ∀ j, j < n → f j = g j) : va_P D cl (ws.set k (a, .inl (cA, (n, .inr (.inr (.inr (.inr g))))))) H := by
  have hl := (List.getElem?_eq_some_iff.mp hk).1
  intro i x hx
  by_cases hi : k = i
  · subst hi
    rw [List.getElem?_set_self hl] at hx
    cases hx
    have := h k _ hk
    show H[a]? = some (vp_cell cA (n, .inr (.inr (.inr (.inr g)))))
    rw [← vp_cellQ hf]
    exact this
  · rw [List.getElem?_set_ne hi] at hx
    exact h i x hx
