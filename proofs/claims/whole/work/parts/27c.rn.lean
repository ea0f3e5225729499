/-! answers of the methods that throw NoSuchElement only -/
def relN (c : Option zT3) (m : Option (Int32 × zS)) : Prop := ∃ k r σ' b τ', c = some (k, r, σ') ∧ m = some (b, τ') ∧ RR σ' τ' ∧ τ' 0 2 = nI k ∧ k ≤ 1 ∧ (k = 0 → r = b)
theorem relX.n {c : Option zT3} {m : Option (Int32 × zS)} (h : relX c m) (hn : kW nX c) : relN c m := by
  obtain ⟨k, r, σ1, b, τ1, h1, h2, h3, h4, h5, h6⟩ := h
  have hk : k ≠ 2 := hn _ h1
  exact ⟨k, r, σ1, b, τ1, h1, h2, h3, h4, by omega, h6⟩
theorem reN_count {σ τ : zS} (h : RR σ τ) (x : Int32) : relN (FX7_count 0 x σ) (FX8_count 0 x τ) := (rel_count h x).n kN_count
theorem reN_aisle {σ τ : zS} (h : RR σ τ) (x y : Int32) : relN (FX7_aisle 0 x y σ) (FX8_aisle 0 x y τ) := (rel_aisle h x y).n kN_aisle
theorem reN_person {σ τ : zS} (h : RR σ τ) (x y : Int32) : relN (FX7_person 0 x y σ) (FX8_person 0 x y τ) := (rel_person h x y).n kN_person
theorem reN_route {σ τ : zS} (h : RR σ τ) (x y : Int32) : relN (FX7_route 0 x y σ) (FX8_route 0 x y τ) := (rel_route h x y).n kN_route
theorem reN_far {σ τ : zS} (h : RR σ τ) (x y : Int32) : relN (FX7_far 0 x y σ) (FX8_far 0 x y τ) := (rel_far h x y).n kN_far
theorem reN_stock {σ τ : zS} (h : RR σ τ) (x y : Int32) : relN (FX7_stock 0 x y σ) (FX8_stock 0 x y τ) := (rel_stock h x y).n kN_stock
theorem reN_day {σ τ : zS} (h : RR σ τ) (x : Int32) : relN (FX7_day 0 x σ) (FX8_day 0 x τ) := (rel_day h x).n kN_day
theorem reN_where {σ τ : zS} (h : RR σ τ) (x y : Int32) : relN (FX7_where 0 x y σ) (FX8_where 0 x y τ) := (rel_where h x y).n kN_where
theorem reN_eyes {σ τ : zS} (h : RR σ τ) (x : Int32) : relN (FX7_eyes 0 x σ) (FX8_eyes 0 x τ) := (rel_eyes h x).n kN_eyes
theorem reN_has {σ τ : zS} (h : RR σ τ) (x y : Int32) : relN (FX7_has 0 x y σ) (FX8_has 0 x y τ) := (rel_has h x y).n kN_has
theorem reN_best {σ τ : zS} (h : RR σ τ) (x1 x2 : Int32) : relN (FX7_best 0 x1 x2 σ) (FX8_best 0 x1 x2 τ) := (rel_best h x1 x2).n kN_best
theorem reN_glass {σ τ : zS} (h : RR σ τ) (x1 : Int32) : relN (FX7_glass 0 x1 σ) (FX8_glass 0 x1 τ) := (rel_glass h x1).n kN_glass
theorem reN_laid {σ τ : zS} (h : RR σ τ) (x : Int32) : relN (FX7_laid 0 x σ) (FX8_laid 0 x τ) := (rel_laid h x).n kN_laid
theorem reN_without {σ τ : zS} (h : RR σ τ) (x : Int32) : relN (FX7_without 0 x σ) (FX8_without 0 x τ) := (rel_without h x).n kN_without
theorem reN_who {σ τ : zS} (h : RR σ τ) (x : Int32) : relN (FX7_who 0 x σ) (FX8_who 0 x τ) := (rel_who h x).n kN_who
theorem reN_game {σ τ : zS} (h : RR σ τ) (x : Int32) : relN (FX7_game 0 x σ) (FX8_game 0 x τ) := (rel_game h x).n kN_game
