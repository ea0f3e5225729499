/-! both fresh worlds and 'out', beside each other in the law's order -/
theorem gD_rep {A : Nat → Prop} {a a' b : va_W} (h : va_D A (a ++ b)) (ha : va_D A a') (hm : ∀ (i : Nat) (p : Nat × va_E), a'[i]? = some p → ∃ (j : Nat) (q : Nat × va_E), a[j]? = some q ∧ q.1 = p.1) : va_D A (a' ++ b) := by
  refine va_D.app ha (gD_r h) (fun i j p q hp hq e => ?_)
  obtain ⟨k, p0, h1, h2⟩ := hm i p hp
  exact gD_ap h h1 hq (h2.trans e)
set_option maxRecDepth 100000 in
set_option maxHeartbeats 4000000 in
theorem w1_fst (V : zV) (q : Nat → Nat) : (zw 1 (zat V q) zs1).map Prod.fst = (cW8 V q).map Prod.fst := Eq.trans rfl rfl
theorem w1_in {V : zV} {q : Nat → Nat} (i : Nat) (p : Nat × va_E) (hp : (zw 1 (zat V q) zs1)[i]? = some p) : ∃ (j : Nat) (x : Nat × va_E), (cW8 V q)[j]? = some x ∧ x.1 = p.1 := by
  have h1 : ((zw 1 (zat V q) zs1).map Prod.fst)[i]? = some p.1 := by rw [List.getElem?_map, hp]; rfl
  rw [w1_fst, List.getElem?_map] at h1
  cases hw : (cW8 V q)[i]? with
  | none => rw [hw] at h1; cases h1
  | some x => rw [hw] at h1; exact ⟨i, x, hw, Option.some.inj h1⟩
theorem w0_in {V : zV} {q : Nat → Nat} (i : Nat) (p : Nat × va_E) (hp : (zw 0 (zat V (fun k => q (pw0.getD k 0))) zs0)[i]? = some p) : ∃ (j : Nat) (x : Nat × va_E), (cW7 V q)[j]? = some x ∧ x.1 = p.1 := by
  have h1 : (pw0.map (fun i => (cW7 V q)[i]?))[i]? = some (some p) := by rw [w0_map, List.getElem?_map, hp]; rfl
  rw [List.getElem?_map] at h1
  cases hi : pw0[i]? with
  | none => rw [hi] at h1; cases h1
  | some j => rw [hi] at h1; exact ⟨j, p, Option.some.inj h1, rfl⟩
theorem st_W {V : zV} {q q' : Nat → Nat} {H : Heap} {A : Nat → Prop} {cL : ClassId} {o : Nat} {f : Nat → Int64} (hP : va_P V.1 vwCl ((cW7 V q ++ cW8 V q') ++ lO cL o f) H) (hD : va_D A ((cW7 V q ++ cW8 V q') ++ lO cL o f)) : va_P V.1 vwCl (gwL V (fun k => q (pw0.getD k 0)) q' cL o zs0 zs1 f) H ∧ va_D A (gwL V (fun k => q (pw0.getD k 0)) q' cL o zs0 zs1 f) := by
  have P7 := gP_l (gP_l hP)
  have P8 := gP_r (gP_l hP)
  have PO := gP_r hP
  have D7 := gD_l (gD_l hD)
  have D8 := gD_r (gD_l hD)
  obtain ⟨p0, d0⟩ := w0_PD P7 D7
  obtain ⟨p1, d1⟩ := w1_PD P8 D8
  refine ⟨p0.app (PO.app p1), ?_⟩
  have h1 := va_D.swap hD
  rw [List.append_assoc] at h1
  have h2 := gD_rep h1 d0 w0_in
  have h3 := gD_sw h2
  rw [List.append_assoc] at h3
  have h4 := gD_sw h3
  rw [List.append_assoc] at h4
  have h5 := gD_rep h4 d1 w1_in
  have h6 := gD_sw h5
  rw [List.append_assoc] at h6
  exact h6
