/-! the start: both worlds as the constructors leave them -/
noncomputable def zs0 : zS := fun k =>
  if k = 0 then (fun j => if j = 1 then -1 else if j = 2 then 46 else 0)
  else if k = 4 then (fun j => if j = 1 then 64 else if j = 9 then -1 else 0)
  else if k = 6 then (fun j => if j = 3 then 1 else 0)
  else if k = 15 then (fun j => if j = 3 then 1 else 0)
  else if k = 24 then (fun j => if j = 0 then 46 else if j = 4 then 1 else if j = 12 then -1 else 0)
  else if k = 35 then (fun j => if j = 0 then 46 else if j = 4 then 1 else if j = 12 then -1 else 0)
  else if k = 46 then (fun j => if j = 3 then 3 else if j = 4 then 400 else if j = 5 then 1 else 0)
  else if k = 64 then (fun j => if j = 3 then 3 else if j = 4 then 400 else if j = 5 then 1 else 0)
  else fun _ => 0
noncomputable def zs1 : zS := fun k =>
  if k = 0 then (fun j => if j = 27 then -1 else if j = 32 then 1 else 0)
  else if k = 3 then (upd (upd (upd (upd (upd (upd (upd (upd (upd (upd (upd (upd (upd (upd (upd (upd (upd (upd (fun _ => 0) 0 0) 1 0) 2 0) 3 0) 4 0) 5 3) 6 400) 7 1) 8 0) 9 0) 10 0) 11 0) 12 0) 13 0) 14 3) 15 400) 16 1) 17 0)
  else fun _ => 0
theorem zs0_r (k : Nat) (h : k ≠ 0 ∧ k ≠ 4 ∧ k ≠ 6 ∧ k ≠ 15 ∧ k ≠ 24 ∧ k ≠ 35 ∧ k ≠ 46 ∧ k ≠ 64) (j : Nat) : zs0 k j = 0 := by
  unfold zs0
  rw [if_neg h.1, if_neg h.2.1, if_neg h.2.2.1, if_neg h.2.2.2.1, if_neg h.2.2.2.2.1, if_neg h.2.2.2.2.2.1, if_neg h.2.2.2.2.2.2.1, if_neg h.2.2.2.2.2.2.2]
theorem zs1_r (k : Nat) (h : k ≠ 0 ∧ k ≠ 3) (j : Nat) : zs1 k j = 0 := by
  unfold zs1
  rw [if_neg h.1, if_neg h.2]
theorem RR_ini : RR zs0 zs1 := by
  refine ⟨46, 0, 0, 0, ?_, ?_, ?_, ?_, Or.inl ⟨rfl, rfl⟩, Or.inl rfl, Or.inl ⟨rfl, rfl⟩⟩
  · refine ⟨⟨0, by decide, rfl, rfl⟩, rfl, fun j _ => ?_⟩
    rw [zs0_r 5 (by decide), zs1_r 17 (by decide)]
    exact ⟨rfl, by decide⟩
  · exact ⟨Or.inl rfl, rfl, rfl⟩
  · refine ⟨⟨⟨by decide, rfl, rfl⟩, ⟨by decide, rfl, rfl⟩, ⟨by decide, rfl, rfl⟩, ⟨rfl, rfl, rfl, rfl, rfl⟩, fun a ha => absurd ha (by omega), fun a ha => absurd ha (by omega), ⟨fun _ _ => 0, fun a b ha _ => absurd ha (by omega)⟩, fun a ha => absurd ha (by omega)⟩, ?_, ⟨400, by decide, rfl⟩, fun a ha => absurd ha (by omega)⟩
    show (0 : Int32) < 3
    decide
  · refine ⟨⟨fun i hi => ?_, Or.inl rfl, Or.inl rfl, ⟨0, by decide, rfl⟩, fun a ha => absurd ha (by omega)⟩, ⟨0, by decide, rfl, rfl, fun t ht => absurd ht (by omega)⟩, ⟨0, by decide, rfl, rfl, fun t ht => absurd ht (by omega)⟩, ⟨0, by decide, rfl, rfl, fun t ht => absurd ht (by omega)⟩, fun i hi => ?_⟩
    · match i, hi with
      | 0, _ => rfl
      | 1, _ => rfl
      | 2, _ => rfl
      | 3, _ => rfl
      | 4, _ => rfl
      | 5, _ => rfl
      | i + 6, hi => exact absurd hi (by omega)
    · show zs0 14 i = zs1 16 i
      rw [zs0_r 14 (by decide), zs1_r 16 (by decide)]
