/-! only odds, gate, weeks and shop throw IllegalArgument -/
def kW {β : Type} (P : β → Prop) (x : Option β) : Prop := ∀ t, x = some t → P t
def nX (t : zT3) : Prop := t.1 ≠ 2
def nR {α β : Type} (P : β → Prop) (q : α ⊕ β) : Prop := ∀ b, q = .inr b → P b
section KW
variable {α β : Type} {P : β → Prop}
theorem kW.s0 {r : Int32} {σ : zS} : kW nX (some (0, r, σ)) := fun t h => by cases h; exact (by decide : (0 : Nat) ≠ 2)
theorem kW.s1 {r : Int32} {σ : zS} : kW nX (some (1, r, σ)) := fun t h => by cases h; exact (by decide : (1 : Nat) ≠ 2)
theorem kW.sn {n : Nat} {r : Int32} {σ : zS} (hn : n ≠ 2) : kW nX (some (n, r, σ)) := fun t h => by cases h; exact hn
theorem kW.sl {a : α} : kW (nR P) (some (Sum.inl a : α ⊕ β)) := fun t h b hb => by cases h; cases hb
theorem kW.bd {x : Option (Int32 × zS)} {f : Int32 → zS → Option β} (h : ∀ r σ, kW P (f r σ)) : kW P (zbd x f) := by
  intro t ht
  cases x with
  | none => cases ht
  | some q => exact h _ _ t ht
theorem kW.bx {x : Option zT3} {f : Int32 → zS → Option β} {g : Nat → zS → Option β} (hx : kW nX x) (h : ∀ r σ, kW P (f r σ)) (hg : ∀ n σ, n ≠ 2 → kW P (g n σ)) : kW P (zbx x f g) := by
  intro t ht
  cases x with
  | none => cases ht
  | some q =>
    obtain ⟨n, r, σ⟩ := q
    cases n with
    | zero => exact h _ _ t ht
    | succ n => exact hg _ _ (hx _ rfl) t ht
theorem kW.ite {c : Prop} [Decidable c] {a b : Option β} (ha : kW P a) (hb : kW P b) : kW P (if c then a else b) := by
  by_cases h : c
  · rw [if_pos h]; exact ha
  · rw [if_neg h]; exact hb
theorem kW.gd {b : Bool} {r : Option β} (h : kW P r) : kW P (zgd b r) := by
  intro t ht
  cases b with
  | true => exact h t ht
  | false => cases ht
theorem kW.inn {n : Nat} {i : Int32} {r : Option β} (h : kW P r) : kW P (zin n i r) := by
  unfold zin
  exact kW.ite (fun t ht => by cases ht) h
theorem kW.lt {γ : Type} {a : γ} {f : γ → Option β} (h : ∀ a, kW P (f a)) : kW P (zlet a f) := h a
theorem kW.nr {x : Option β} (h : kW P x) : kW (nR (α := α) P) (zinr x) := by
  intro t ht b hb
  cases x with
  | none => cases ht
  | some q =>
    cases ht
    cases hb
    exact h _ rfl
theorem kW.lp {f : α → Option (α ⊕ β)} {a : α} (h : ∀ a, kW (nR P) (f a)) : kW P (zlp f a) := by
  intro t ht
  obtain ⟨n, hn⟩ := zlp_iff.mp ht
  clear ht
  induction n generalizing a with
  | zero => cases hn
  | succ n ih =>
    unfold zit at hn
    cases hf : f a with
    | none => rw [hf] at hn; cases hn
    | some q =>
      rw [hf] at hn
      cases q with
      | inl a' => exact ih hn
      | inr b => cases hn; exact h a _ hf _ rfl
end KW
set_option maxHeartbeats 2000000 in
theorem kN_needAisle {k0 : Nat} {x1 : Int32} {σ : zS} : kW nX (FX7_needAisle k0 x1 σ) := by
  unfold FX7_needAisle
  repeat' (first | with_reducible exact kW.s0 | with_reducible exact kW.s1 | with_reducible exact kW.sl | with_reducible exact kW.sn (by assumption) | with_reducible refine kW.ite ?_ ?_ | with_reducible refine kW.gd ?_ | with_reducible refine kW.inn ?_ | with_reducible refine kW.nr ?_ | with_reducible refine kW.lt (fun _ => ?_) | with_reducible refine kW.bx ?_ (fun _ _ => ?_) (fun _ _ _ => ?_) | with_reducible refine kW.bd (fun _ _ => ?_) | with_reducible refine kW.lp (fun _ => ?_))
set_option maxHeartbeats 2000000 in
theorem kN_needPerson {k0 : Nat} {x1 : Int32} {σ : zS} : kW nX (FX7_needPerson k0 x1 σ) := by
  unfold FX7_needPerson
  repeat' (first | with_reducible exact kW.s0 | with_reducible exact kW.s1 | with_reducible exact kW.sl | with_reducible exact kW.sn (by assumption) | with_reducible refine kW.ite ?_ ?_ | with_reducible refine kW.gd ?_ | with_reducible refine kW.inn ?_ | with_reducible refine kW.nr ?_ | with_reducible refine kW.lt (fun _ => ?_) | with_reducible refine kW.bx ?_ (fun _ _ => ?_) (fun _ _ _ => ?_) | with_reducible refine kW.bd (fun _ _ => ?_) | with_reducible refine kW.lp (fun _ => ?_))
set_option maxHeartbeats 2000000 in
theorem kN_needMinute {x0 : Int32} {σ : zS} : kW nX (FX7_needMinute x0 σ) := by
  unfold FX7_needMinute
  repeat' (first | with_reducible exact kW.s0 | with_reducible exact kW.s1 | with_reducible exact kW.sl | with_reducible exact kW.sn (by assumption) | with_reducible refine kW.ite ?_ ?_ | with_reducible refine kW.gd ?_ | with_reducible refine kW.inn ?_ | with_reducible refine kW.nr ?_ | with_reducible refine kW.lt (fun _ => ?_) | with_reducible refine kW.bx ?_ (fun _ _ => ?_) (fun _ _ _ => ?_) | with_reducible refine kW.bd (fun _ _ => ?_) | with_reducible refine kW.lp (fun _ => ?_))
set_option maxHeartbeats 2000000 in
theorem kN_count_b229 {k0 : Nat} {x1 : Int32} {σ : zS} : kW nX (FX7_count_b229 k0 x1 σ) := by
  unfold FX7_count_b229
  repeat' (first | with_reducible exact kW.s0 | with_reducible exact kW.s1 | with_reducible exact kW.sl | with_reducible exact kW.sn (by assumption) | with_reducible refine kW.ite ?_ ?_ | with_reducible refine kW.gd ?_ | with_reducible refine kW.inn ?_ | with_reducible refine kW.nr ?_ | with_reducible refine kW.lt (fun _ => ?_) | with_reducible refine kW.bx ?_ (fun _ _ => ?_) (fun _ _ _ => ?_) | with_reducible refine kW.bd (fun _ _ => ?_) | with_reducible refine kW.lp (fun _ => ?_))
set_option maxHeartbeats 2000000 in
theorem kN_count {k0 : Nat} {x1 : Int32} {σ : zS} : kW nX (FX7_count k0 x1 σ) := by
  unfold FX7_count
  repeat' (first | with_reducible exact kW.s0 | with_reducible exact kW.s1 | with_reducible exact kW.sl | with_reducible exact kW.sn (by assumption) | with_reducible exact kN_count_b229 | with_reducible refine kW.ite ?_ ?_ | with_reducible refine kW.gd ?_ | with_reducible refine kW.inn ?_ | with_reducible refine kW.nr ?_ | with_reducible refine kW.lt (fun _ => ?_) | with_reducible refine kW.bx ?_ (fun _ _ => ?_) (fun _ _ _ => ?_) | with_reducible refine kW.bd (fun _ _ => ?_) | with_reducible refine kW.lp (fun _ => ?_))
set_option maxHeartbeats 2000000 in
theorem kN_aisle {k0 : Nat} {x1 : Int32} {x2 : Int32} {σ : zS} : kW nX (FX7_aisle k0 x1 x2 σ) := by
  unfold FX7_aisle
  repeat' (first | with_reducible exact kW.s0 | with_reducible exact kW.s1 | with_reducible exact kW.sl | with_reducible exact kW.sn (by assumption) | with_reducible exact kN_needAisle | with_reducible refine kW.ite ?_ ?_ | with_reducible refine kW.gd ?_ | with_reducible refine kW.inn ?_ | with_reducible refine kW.nr ?_ | with_reducible refine kW.lt (fun _ => ?_) | with_reducible refine kW.bx ?_ (fun _ _ => ?_) (fun _ _ _ => ?_) | with_reducible refine kW.bd (fun _ _ => ?_) | with_reducible refine kW.lp (fun _ => ?_))
set_option maxHeartbeats 2000000 in
theorem kN_person {k0 : Nat} {x1 : Int32} {x2 : Int32} {σ : zS} : kW nX (FX7_person k0 x1 x2 σ) := by
  unfold FX7_person
  repeat' (first | with_reducible exact kW.s0 | with_reducible exact kW.s1 | with_reducible exact kW.sl | with_reducible exact kW.sn (by assumption) | with_reducible exact kN_needPerson | with_reducible refine kW.ite ?_ ?_ | with_reducible refine kW.gd ?_ | with_reducible refine kW.inn ?_ | with_reducible refine kW.nr ?_ | with_reducible refine kW.lt (fun _ => ?_) | with_reducible refine kW.bx ?_ (fun _ _ => ?_) (fun _ _ _ => ?_) | with_reducible refine kW.bd (fun _ _ => ?_) | with_reducible refine kW.lp (fun _ => ?_))
set_option maxHeartbeats 2000000 in
theorem kN_route_b27 {σ : zS} : kW nX (FX7_route_b27 σ) := by
  unfold FX7_route_b27
  repeat' (first | with_reducible exact kW.s0 | with_reducible exact kW.s1 | with_reducible exact kW.sl | with_reducible exact kW.sn (by assumption) | with_reducible refine kW.ite ?_ ?_ | with_reducible refine kW.gd ?_ | with_reducible refine kW.inn ?_ | with_reducible refine kW.nr ?_ | with_reducible refine kW.lt (fun _ => ?_) | with_reducible refine kW.bx ?_ (fun _ _ => ?_) (fun _ _ _ => ?_) | with_reducible refine kW.bd (fun _ _ => ?_) | with_reducible refine kW.lp (fun _ => ?_))
set_option maxHeartbeats 2000000 in
theorem kN_route {k0 : Nat} {x1 : Int32} {x2 : Int32} {σ : zS} : kW nX (FX7_route k0 x1 x2 σ) := by
  unfold FX7_route
  repeat' (first | with_reducible exact kW.s0 | with_reducible exact kW.s1 | with_reducible exact kW.sl | with_reducible exact kW.sn (by assumption) | with_reducible exact kN_needPerson | with_reducible exact kN_route_b27 | with_reducible refine kW.ite ?_ ?_ | with_reducible refine kW.gd ?_ | with_reducible refine kW.inn ?_ | with_reducible refine kW.nr ?_ | with_reducible refine kW.lt (fun _ => ?_) | with_reducible refine kW.bx ?_ (fun _ _ => ?_) (fun _ _ _ => ?_) | with_reducible refine kW.bd (fun _ _ => ?_) | with_reducible refine kW.lp (fun _ => ?_))
set_option maxHeartbeats 2000000 in
theorem kN_far_b34 {y0 : Int32} {σ : zS} : kW nX (FX7_far_b34 y0 σ) := by
  unfold FX7_far_b34
  repeat' (first | with_reducible exact kW.s0 | with_reducible exact kW.s1 | with_reducible exact kW.sl | with_reducible exact kW.sn (by assumption) | with_reducible refine kW.ite ?_ ?_ | with_reducible refine kW.gd ?_ | with_reducible refine kW.inn ?_ | with_reducible refine kW.nr ?_ | with_reducible refine kW.lt (fun _ => ?_) | with_reducible refine kW.bx ?_ (fun _ _ => ?_) (fun _ _ _ => ?_) | with_reducible refine kW.bd (fun _ _ => ?_) | with_reducible refine kW.lp (fun _ => ?_))
set_option maxHeartbeats 2000000 in
theorem kN_far {k0 : Nat} {x1 : Int32} {x2 : Int32} {σ : zS} : kW nX (FX7_far k0 x1 x2 σ) := by
  unfold FX7_far
  repeat' (first | with_reducible exact kW.s0 | with_reducible exact kW.s1 | with_reducible exact kW.sl | with_reducible exact kW.sn (by assumption) | with_reducible exact kN_far_b34 | with_reducible exact kN_needAisle | with_reducible refine kW.ite ?_ ?_ | with_reducible refine kW.gd ?_ | with_reducible refine kW.inn ?_ | with_reducible refine kW.nr ?_ | with_reducible refine kW.lt (fun _ => ?_) | with_reducible refine kW.bx ?_ (fun _ _ => ?_) (fun _ _ _ => ?_) | with_reducible refine kW.bd (fun _ _ => ?_) | with_reducible refine kW.lp (fun _ => ?_))
set_option maxHeartbeats 2000000 in
theorem kN_stock_b15 {k0 : Nat} {σ : zS} : kW nX (FX7_stock_b15 k0 σ) := by
  unfold FX7_stock_b15
  repeat' (first | with_reducible exact kW.s0 | with_reducible exact kW.s1 | with_reducible exact kW.sl | with_reducible exact kW.sn (by assumption) | with_reducible refine kW.ite ?_ ?_ | with_reducible refine kW.gd ?_ | with_reducible refine kW.inn ?_ | with_reducible refine kW.nr ?_ | with_reducible refine kW.lt (fun _ => ?_) | with_reducible refine kW.bx ?_ (fun _ _ => ?_) (fun _ _ _ => ?_) | with_reducible refine kW.bd (fun _ _ => ?_) | with_reducible refine kW.lp (fun _ => ?_))
set_option maxHeartbeats 2000000 in
theorem kN_stock {k0 : Nat} {x1 : Int32} {x2 : Int32} {σ : zS} : kW nX (FX7_stock k0 x1 x2 σ) := by
  unfold FX7_stock
  repeat' (first | with_reducible exact kW.s0 | with_reducible exact kW.s1 | with_reducible exact kW.sl | with_reducible exact kW.sn (by assumption) | with_reducible exact kN_needAisle | with_reducible exact kN_stock_b15 | with_reducible refine kW.ite ?_ ?_ | with_reducible refine kW.gd ?_ | with_reducible refine kW.inn ?_ | with_reducible refine kW.nr ?_ | with_reducible refine kW.lt (fun _ => ?_) | with_reducible refine kW.bx ?_ (fun _ _ => ?_) (fun _ _ _ => ?_) | with_reducible refine kW.bd (fun _ _ => ?_) | with_reducible refine kW.lp (fun _ => ?_))
set_option maxHeartbeats 2000000 in
theorem kN_day_b10 {σ : zS} : kW nX (FX7_day_b10 σ) := by
  unfold FX7_day_b10
  repeat' (first | with_reducible exact kW.s0 | with_reducible exact kW.s1 | with_reducible exact kW.sl | with_reducible exact kW.sn (by assumption) | with_reducible refine kW.ite ?_ ?_ | with_reducible refine kW.gd ?_ | with_reducible refine kW.inn ?_ | with_reducible refine kW.nr ?_ | with_reducible refine kW.lt (fun _ => ?_) | with_reducible refine kW.bx ?_ (fun _ _ => ?_) (fun _ _ _ => ?_) | with_reducible refine kW.bd (fun _ _ => ?_) | with_reducible refine kW.lp (fun _ => ?_))
set_option maxHeartbeats 2000000 in
theorem kN_day {k0 : Nat} {x1 : Int32} {σ : zS} : kW nX (FX7_day k0 x1 σ) := by
  unfold FX7_day
  repeat' (first | with_reducible exact kW.s0 | with_reducible exact kW.s1 | with_reducible exact kW.sl | with_reducible exact kW.sn (by assumption) | with_reducible exact kN_day_b10 | with_reducible refine kW.ite ?_ ?_ | with_reducible refine kW.gd ?_ | with_reducible refine kW.inn ?_ | with_reducible refine kW.nr ?_ | with_reducible refine kW.lt (fun _ => ?_) | with_reducible refine kW.bx ?_ (fun _ _ => ?_) (fun _ _ _ => ?_) | with_reducible refine kW.bd (fun _ _ => ?_) | with_reducible refine kW.lp (fun _ => ?_))
set_option maxHeartbeats 2000000 in
theorem kN_where {k0 : Nat} {x1 : Int32} {x2 : Int32} {σ : zS} : kW nX (FX7_where k0 x1 x2 σ) := by
  unfold FX7_where
  repeat' (first | with_reducible exact kW.s0 | with_reducible exact kW.s1 | with_reducible exact kW.sl | with_reducible exact kW.sn (by assumption) | with_reducible exact kN_needMinute | with_reducible exact kN_needPerson | with_reducible refine kW.ite ?_ ?_ | with_reducible refine kW.gd ?_ | with_reducible refine kW.inn ?_ | with_reducible refine kW.nr ?_ | with_reducible refine kW.lt (fun _ => ?_) | with_reducible refine kW.bx ?_ (fun _ _ => ?_) (fun _ _ _ => ?_) | with_reducible refine kW.bd (fun _ _ => ?_) | with_reducible refine kW.lp (fun _ => ?_))
set_option maxHeartbeats 2000000 in
theorem kN_eyes {k0 : Nat} {x1 : Int32} {σ : zS} : kW nX (FX7_eyes k0 x1 σ) := by
  unfold FX7_eyes
  repeat' (first | with_reducible exact kW.s0 | with_reducible exact kW.s1 | with_reducible exact kW.sl | with_reducible exact kW.sn (by assumption) | with_reducible exact kN_needMinute | with_reducible refine kW.ite ?_ ?_ | with_reducible refine kW.gd ?_ | with_reducible refine kW.inn ?_ | with_reducible refine kW.nr ?_ | with_reducible refine kW.lt (fun _ => ?_) | with_reducible refine kW.bx ?_ (fun _ _ => ?_) (fun _ _ _ => ?_) | with_reducible refine kW.bd (fun _ _ => ?_) | with_reducible refine kW.lp (fun _ => ?_))
set_option maxHeartbeats 2000000 in
theorem kN_has {k0 : Nat} {x1 : Int32} {x2 : Int32} {σ : zS} : kW nX (FX7_has k0 x1 x2 σ) := by
  unfold FX7_has
  repeat' (first | with_reducible exact kW.s0 | with_reducible exact kW.s1 | with_reducible exact kW.sl | with_reducible exact kW.sn (by assumption) | with_reducible exact kN_needMinute | with_reducible exact kN_needPerson | with_reducible refine kW.ite ?_ ?_ | with_reducible refine kW.gd ?_ | with_reducible refine kW.inn ?_ | with_reducible refine kW.nr ?_ | with_reducible refine kW.lt (fun _ => ?_) | with_reducible refine kW.bx ?_ (fun _ _ => ?_) (fun _ _ _ => ?_) | with_reducible refine kW.bd (fun _ _ => ?_) | with_reducible refine kW.lp (fun _ => ?_))
set_option maxHeartbeats 2000000 in
theorem kN_best_b18 {σ : zS} : kW nX (FX7_best_b18 σ) := by
  unfold FX7_best_b18
  repeat' (first | with_reducible exact kW.s0 | with_reducible exact kW.s1 | with_reducible exact kW.sl | with_reducible exact kW.sn (by assumption) | with_reducible refine kW.ite ?_ ?_ | with_reducible refine kW.gd ?_ | with_reducible refine kW.inn ?_ | with_reducible refine kW.nr ?_ | with_reducible refine kW.lt (fun _ => ?_) | with_reducible refine kW.bx ?_ (fun _ _ => ?_) (fun _ _ _ => ?_) | with_reducible refine kW.bd (fun _ _ => ?_) | with_reducible refine kW.lp (fun _ => ?_))
set_option maxHeartbeats 2000000 in
theorem kN_best_b198 {y0 : Int32} {σ : zS} : kW nX (FX7_best_b198 y0 σ) := by
  unfold FX7_best_b198
  repeat' (first | with_reducible exact kW.s0 | with_reducible exact kW.s1 | with_reducible exact kW.sl | with_reducible exact kW.sn (by assumption) | with_reducible refine kW.ite ?_ ?_ | with_reducible refine kW.gd ?_ | with_reducible refine kW.inn ?_ | with_reducible refine kW.nr ?_ | with_reducible refine kW.lt (fun _ => ?_) | with_reducible refine kW.bx ?_ (fun _ _ => ?_) (fun _ _ _ => ?_) | with_reducible refine kW.bd (fun _ _ => ?_) | with_reducible refine kW.lp (fun _ => ?_))
set_option maxHeartbeats 2000000 in
theorem kN_best_b187 {x2 : Int32} {x5 : Int32} {x6 : Int32} {σ : zS} : kW nX (FX7_best_b187 x2 x5 x6 σ) := by
  unfold FX7_best_b187
  repeat' (first | with_reducible exact kW.s0 | with_reducible exact kW.s1 | with_reducible exact kW.sl | with_reducible exact kW.sn (by assumption) | with_reducible exact kN_best_b198 | with_reducible refine kW.ite ?_ ?_ | with_reducible refine kW.gd ?_ | with_reducible refine kW.inn ?_ | with_reducible refine kW.nr ?_ | with_reducible refine kW.lt (fun _ => ?_) | with_reducible refine kW.bx ?_ (fun _ _ => ?_) (fun _ _ _ => ?_) | with_reducible refine kW.bd (fun _ _ => ?_) | with_reducible refine kW.lp (fun _ => ?_))
set_option maxHeartbeats 2000000 in
theorem kN_best_b180 {x2 : Int32} {x7 : Int32} {σ : zS} : kW nX (FX7_best_b180 x2 x7 σ) := by
  unfold FX7_best_b180
  repeat' (first | with_reducible exact kW.s0 | with_reducible exact kW.s1 | with_reducible exact kW.sl | with_reducible exact kW.sn (by assumption) | with_reducible exact kN_best_b187 | with_reducible refine kW.ite ?_ ?_ | with_reducible refine kW.gd ?_ | with_reducible refine kW.inn ?_ | with_reducible refine kW.nr ?_ | with_reducible refine kW.lt (fun _ => ?_) | with_reducible refine kW.bx ?_ (fun _ _ => ?_) (fun _ _ _ => ?_) | with_reducible refine kW.bd (fun _ _ => ?_) | with_reducible refine kW.lp (fun _ => ?_))
set_option maxHeartbeats 2000000 in
theorem kN_best_b149 {k0 : Nat} {x2 : Int32} {x3 : Int32} {x5 : Int32} {x6 : Int32} {σ : zS} : kW nX (FX7_best_b149 k0 x2 x3 x5 x6 σ) := by
  unfold FX7_best_b149
  repeat' (first | with_reducible exact kW.s0 | with_reducible exact kW.s1 | with_reducible exact kW.sl | with_reducible exact kW.sn (by assumption) | with_reducible exact kN_best_b180 | with_reducible exact kN_best_b187 | with_reducible refine kW.ite ?_ ?_ | with_reducible refine kW.gd ?_ | with_reducible refine kW.inn ?_ | with_reducible refine kW.nr ?_ | with_reducible refine kW.lt (fun _ => ?_) | with_reducible refine kW.bx ?_ (fun _ _ => ?_) (fun _ _ _ => ?_) | with_reducible refine kW.bd (fun _ _ => ?_) | with_reducible refine kW.lp (fun _ => ?_))
set_option maxHeartbeats 2000000 in
theorem kN_best_b143 {k0 : Nat} {x2 : Int32} {x3 : Int32} {x4 : Int32} {x5 : Int32} {x6 : Int32} {x7 : Int32} {σ : zS} : kW (nR nX) (FX7_best_b143 k0 x2 x3 x4 x5 x6 x7 σ) := by
  unfold FX7_best_b143
  repeat' (first | with_reducible exact kW.s0 | with_reducible exact kW.s1 | with_reducible exact kW.sl | with_reducible exact kW.sn (by assumption) | with_reducible refine kW.ite ?_ ?_ | with_reducible refine kW.gd ?_ | with_reducible refine kW.inn ?_ | with_reducible refine kW.nr ?_ | with_reducible refine kW.lt (fun _ => ?_) | with_reducible refine kW.bx ?_ (fun _ _ => ?_) (fun _ _ _ => ?_) | with_reducible refine kW.bd (fun _ _ => ?_) | with_reducible refine kW.lp (fun _ => ?_))
set_option maxHeartbeats 2000000 in
theorem kN_best_b135 {k0 : Nat} {x2 : Int32} {x3 : Int32} {x4 : Int32} {x7 : Int32} {x8 : Int32} {σ : zS} : kW (nR nX) (FX7_best_b135 k0 x2 x3 x4 x7 x8 σ) := by
  unfold FX7_best_b135
  repeat' (first | with_reducible exact kW.s0 | with_reducible exact kW.s1 | with_reducible exact kW.sl | with_reducible exact kW.sn (by assumption) | with_reducible exact kN_best_b143 | with_reducible refine kW.ite ?_ ?_ | with_reducible refine kW.gd ?_ | with_reducible refine kW.inn ?_ | with_reducible refine kW.nr ?_ | with_reducible refine kW.lt (fun _ => ?_) | with_reducible refine kW.bx ?_ (fun _ _ => ?_) (fun _ _ _ => ?_) | with_reducible refine kW.bd (fun _ _ => ?_) | with_reducible refine kW.lp (fun _ => ?_))
set_option maxHeartbeats 2000000 in
theorem kN_best_L101 {k0 : Nat} {x2 : Int32} {x3 : Int32} {x4 : Int32} {x5 : Int32} {x6 : Int32} {x7 : Int32} {σ : zS} : kW (nR nX) (FX7_best_L101 k0 x2 x3 x4 x5 x6 x7 σ) := by
  unfold FX7_best_L101
  repeat' (first | with_reducible exact kW.s0 | with_reducible exact kW.s1 | with_reducible exact kW.sl | with_reducible exact kW.sn (by assumption) | with_reducible exact kN_best_b135 | with_reducible exact kN_best_b143 | with_reducible exact kN_best_b149 | with_reducible refine kW.ite ?_ ?_ | with_reducible refine kW.gd ?_ | with_reducible refine kW.inn ?_ | with_reducible refine kW.nr ?_ | with_reducible refine kW.lt (fun _ => ?_) | with_reducible refine kW.bx ?_ (fun _ _ => ?_) (fun _ _ _ => ?_) | with_reducible refine kW.bd (fun _ _ => ?_) | with_reducible refine kW.lp (fun _ => ?_))
set_option maxHeartbeats 2000000 in
theorem kN_best_b90 {k0 : Nat} {x2 : Int32} {x3 : Int32} {y0 : Int32} {σ : zS} : kW nX (FX7_best_b90 k0 x2 x3 y0 σ) := by
  unfold FX7_best_b90
  repeat' (first | with_reducible exact kW.s0 | with_reducible exact kW.s1 | with_reducible exact kW.sl | with_reducible exact kW.sn (by assumption) | with_reducible exact kN_best_L101 | with_reducible refine kW.ite ?_ ?_ | with_reducible refine kW.gd ?_ | with_reducible refine kW.inn ?_ | with_reducible refine kW.nr ?_ | with_reducible refine kW.lt (fun _ => ?_) | with_reducible refine kW.bx ?_ (fun _ _ => ?_) (fun _ _ _ => ?_) | with_reducible refine kW.bd (fun _ _ => ?_) | with_reducible refine kW.lp (fun _ => ?_))
set_option maxHeartbeats 2000000 in
theorem kN_best_b44 {k0 : Nat} {x1 : Int32} {x2 : Int32} {y0 : Int32} {σ : zS} : kW nX (FX7_best_b44 k0 x1 x2 y0 σ) := by
  unfold FX7_best_b44
  repeat' (first | with_reducible exact kW.s0 | with_reducible exact kW.s1 | with_reducible exact kW.sl | with_reducible exact kW.sn (by assumption) | with_reducible exact kN_best_b90 | with_reducible refine kW.ite ?_ ?_ | with_reducible refine kW.gd ?_ | with_reducible refine kW.inn ?_ | with_reducible refine kW.nr ?_ | with_reducible refine kW.lt (fun _ => ?_) | with_reducible refine kW.bx ?_ (fun _ _ => ?_) (fun _ _ _ => ?_) | with_reducible refine kW.bd (fun _ _ => ?_) | with_reducible refine kW.lp (fun _ => ?_))
set_option maxHeartbeats 2000000 in
theorem kN_best {k0 : Nat} {x1 : Int32} {x2 : Int32} {σ : zS} : kW nX (FX7_best k0 x1 x2 σ) := by
  unfold FX7_best
  repeat' (first | with_reducible exact kW.s0 | with_reducible exact kW.s1 | with_reducible exact kW.sl | with_reducible exact kW.sn (by assumption) | with_reducible exact kN_best_b18 | with_reducible exact kN_best_b44 | with_reducible refine kW.ite ?_ ?_ | with_reducible refine kW.gd ?_ | with_reducible refine kW.inn ?_ | with_reducible refine kW.nr ?_ | with_reducible refine kW.lt (fun _ => ?_) | with_reducible refine kW.bx ?_ (fun _ _ => ?_) (fun _ _ _ => ?_) | with_reducible refine kW.bd (fun _ _ => ?_) | with_reducible refine kW.lp (fun _ => ?_))
set_option maxHeartbeats 2000000 in
theorem kN_glass_b9 {σ : zS} : kW nX (FX7_glass_b9 σ) := by
  unfold FX7_glass_b9
  repeat' (first | with_reducible exact kW.s0 | with_reducible exact kW.s1 | with_reducible exact kW.sl | with_reducible exact kW.sn (by assumption) | with_reducible refine kW.ite ?_ ?_ | with_reducible refine kW.gd ?_ | with_reducible refine kW.inn ?_ | with_reducible refine kW.nr ?_ | with_reducible refine kW.lt (fun _ => ?_) | with_reducible refine kW.bx ?_ (fun _ _ => ?_) (fun _ _ _ => ?_) | with_reducible refine kW.bd (fun _ _ => ?_) | with_reducible refine kW.lp (fun _ => ?_))
set_option maxHeartbeats 2000000 in
theorem kN_glass_b158 {y0 : Int32} {σ : zS} : kW nX (FX7_glass_b158 y0 σ) := by
  unfold FX7_glass_b158
  repeat' (first | with_reducible exact kW.s0 | with_reducible exact kW.s1 | with_reducible exact kW.sl | with_reducible exact kW.sn (by assumption) | with_reducible refine kW.ite ?_ ?_ | with_reducible refine kW.gd ?_ | with_reducible refine kW.inn ?_ | with_reducible refine kW.nr ?_ | with_reducible refine kW.lt (fun _ => ?_) | with_reducible refine kW.bx ?_ (fun _ _ => ?_) (fun _ _ _ => ?_) | with_reducible refine kW.bd (fun _ _ => ?_) | with_reducible refine kW.lp (fun _ => ?_))
set_option maxHeartbeats 2000000 in
theorem kN_glass_b153 {x2 : Int32} {σ : zS} : kW nX (FX7_glass_b153 x2 σ) := by
  unfold FX7_glass_b153
  repeat' (first | with_reducible exact kW.s0 | with_reducible exact kW.s1 | with_reducible exact kW.sl | with_reducible exact kW.sn (by assumption) | with_reducible exact kN_glass_b158 | with_reducible refine kW.ite ?_ ?_ | with_reducible refine kW.gd ?_ | with_reducible refine kW.inn ?_ | with_reducible refine kW.nr ?_ | with_reducible refine kW.lt (fun _ => ?_) | with_reducible refine kW.bx ?_ (fun _ _ => ?_) (fun _ _ _ => ?_) | with_reducible refine kW.bd (fun _ _ => ?_) | with_reducible refine kW.lp (fun _ => ?_))
set_option maxHeartbeats 2000000 in
theorem kN_glass_b144 {x1 : Int32} {x2 : Int32} {x3 : Int32} {σ : zS} : kW nX (FX7_glass_b144 x1 x2 x3 σ) := by
  unfold FX7_glass_b144
  repeat' (first | with_reducible exact kW.s0 | with_reducible exact kW.s1 | with_reducible exact kW.sl | with_reducible exact kW.sn (by assumption) | with_reducible exact kN_glass_b153 | with_reducible exact kN_glass_b158 | with_reducible refine kW.ite ?_ ?_ | with_reducible refine kW.gd ?_ | with_reducible refine kW.inn ?_ | with_reducible refine kW.nr ?_ | with_reducible refine kW.lt (fun _ => ?_) | with_reducible refine kW.bx ?_ (fun _ _ => ?_) (fun _ _ _ => ?_) | with_reducible refine kW.bd (fun _ _ => ?_) | with_reducible refine kW.lp (fun _ => ?_))
set_option maxHeartbeats 2000000 in
theorem kN_glass_b138 {k0 : Nat} {x1 : Int32} {x2 : Int32} {x3 : Int32} {x4 : Int32} {σ : zS} : kW (nR nX) (FX7_glass_b138 k0 x1 x2 x3 x4 σ) := by
  unfold FX7_glass_b138
  repeat' (first | with_reducible exact kW.s0 | with_reducible exact kW.s1 | with_reducible exact kW.sl | with_reducible exact kW.sn (by assumption) | with_reducible refine kW.ite ?_ ?_ | with_reducible refine kW.gd ?_ | with_reducible refine kW.inn ?_ | with_reducible refine kW.nr ?_ | with_reducible refine kW.lt (fun _ => ?_) | with_reducible refine kW.bx ?_ (fun _ _ => ?_) (fun _ _ _ => ?_) | with_reducible refine kW.bd (fun _ _ => ?_) | with_reducible refine kW.lp (fun _ => ?_))
set_option maxHeartbeats 2000000 in
theorem kN_glass_b132 {k0 : Nat} {x1 : Int32} {x2 : Int32} {x3 : Int32} {x4 : Int32} {x5 : Int32} {σ : zS} : kW (nR (nR nX)) (FX7_glass_b132 k0 x1 x2 x3 x4 x5 σ) := by
  unfold FX7_glass_b132
  repeat' (first | with_reducible exact kW.s0 | with_reducible exact kW.s1 | with_reducible exact kW.sl | with_reducible exact kW.sn (by assumption) | with_reducible refine kW.ite ?_ ?_ | with_reducible refine kW.gd ?_ | with_reducible refine kW.inn ?_ | with_reducible refine kW.nr ?_ | with_reducible refine kW.lt (fun _ => ?_) | with_reducible refine kW.bx ?_ (fun _ _ => ?_) (fun _ _ _ => ?_) | with_reducible refine kW.bd (fun _ _ => ?_) | with_reducible refine kW.lp (fun _ => ?_))
set_option maxHeartbeats 2000000 in
theorem kN_glass_b112 {k0 : Nat} {x1 : Int32} {x2 : Int32} {x3 : Int32} {x4 : Int32} {x5 : Int32} {y0 : Int32} {σ : zS} : kW (nR (nR nX)) (FX7_glass_b112 k0 x1 x2 x3 x4 x5 y0 σ) := by
  unfold FX7_glass_b112
  repeat' (first | with_reducible exact kW.s0 | with_reducible exact kW.s1 | with_reducible exact kW.sl | with_reducible exact kW.sn (by assumption) | with_reducible exact kN_glass_b132 | with_reducible refine kW.ite ?_ ?_ | with_reducible refine kW.gd ?_ | with_reducible refine kW.inn ?_ | with_reducible refine kW.nr ?_ | with_reducible refine kW.lt (fun _ => ?_) | with_reducible refine kW.bx ?_ (fun _ _ => ?_) (fun _ _ _ => ?_) | with_reducible refine kW.bd (fun _ _ => ?_) | with_reducible refine kW.lp (fun _ => ?_))
set_option maxHeartbeats 2000000 in
theorem kN_glass_L70 {k0 : Nat} {x1 : Int32} {x4 : Int32} {x2 : Int32} {x3 : Int32} {x5 : Int32} {σ : zS} : kW (nR (nR nX)) (FX7_glass_L70 k0 x1 x4 x2 x3 x5 σ) := by
  unfold FX7_glass_L70
  repeat' (first | with_reducible exact kW.s0 | with_reducible exact kW.s1 | with_reducible exact kW.sl | with_reducible exact kW.sn (by assumption) | with_reducible exact kN_glass_b112 | with_reducible exact kN_glass_b138 | with_reducible refine kW.ite ?_ ?_ | with_reducible refine kW.gd ?_ | with_reducible refine kW.inn ?_ | with_reducible refine kW.nr ?_ | with_reducible refine kW.lt (fun _ => ?_) | with_reducible refine kW.bx ?_ (fun _ _ => ?_) (fun _ _ _ => ?_) | with_reducible refine kW.bd (fun _ _ => ?_) | with_reducible refine kW.lp (fun _ => ?_))
set_option maxHeartbeats 2000000 in
theorem kN_glass_L52 {k0 : Nat} {x1 : Int32} {x2 : Int32} {x3 : Int32} {x4 : Int32} {σ : zS} : kW (nR nX) (FX7_glass_L52 k0 x1 x2 x3 x4 σ) := by
  unfold FX7_glass_L52
  repeat' (first | with_reducible exact kW.s0 | with_reducible exact kW.s1 | with_reducible exact kW.sl | with_reducible exact kW.sn (by assumption) | with_reducible exact kN_glass_L70 | with_reducible exact kN_glass_b144 | with_reducible refine kW.ite ?_ ?_ | with_reducible refine kW.gd ?_ | with_reducible refine kW.inn ?_ | with_reducible refine kW.nr ?_ | with_reducible refine kW.lt (fun _ => ?_) | with_reducible refine kW.bx ?_ (fun _ _ => ?_) (fun _ _ _ => ?_) | with_reducible refine kW.bd (fun _ _ => ?_) | with_reducible refine kW.lp (fun _ => ?_))
set_option maxHeartbeats 2000000 in
theorem kN_glass {k0 : Nat} {x1 : Int32} {σ : zS} : kW nX (FX7_glass k0 x1 σ) := by
  unfold FX7_glass
  repeat' (first | with_reducible exact kW.s0 | with_reducible exact kW.s1 | with_reducible exact kW.sl | with_reducible exact kW.sn (by assumption) | with_reducible exact kN_glass_L52 | with_reducible exact kN_glass_b9 | with_reducible refine kW.ite ?_ ?_ | with_reducible refine kW.gd ?_ | with_reducible refine kW.inn ?_ | with_reducible refine kW.nr ?_ | with_reducible refine kW.lt (fun _ => ?_) | with_reducible refine kW.bx ?_ (fun _ _ => ?_) (fun _ _ _ => ?_) | with_reducible refine kW.bd (fun _ _ => ?_) | with_reducible refine kW.lp (fun _ => ?_))
set_option maxHeartbeats 2000000 in
theorem kN_laid {k0 : Nat} {x1 : Int32} {σ : zS} : kW nX (FX7_laid k0 x1 σ) := by
  unfold FX7_laid
  repeat' (first | with_reducible exact kW.s0 | with_reducible exact kW.s1 | with_reducible exact kW.sl | with_reducible exact kW.sn (by assumption) | with_reducible exact kN_needAisle | with_reducible refine kW.ite ?_ ?_ | with_reducible refine kW.gd ?_ | with_reducible refine kW.inn ?_ | with_reducible refine kW.nr ?_ | with_reducible refine kW.lt (fun _ => ?_) | with_reducible refine kW.bx ?_ (fun _ _ => ?_) (fun _ _ _ => ?_) | with_reducible refine kW.bd (fun _ _ => ?_) | with_reducible refine kW.lp (fun _ => ?_))
set_option maxHeartbeats 2000000 in
theorem kN_without {k0 : Nat} {x1 : Int32} {σ : zS} : kW nX (FX7_without k0 x1 σ) := by
  unfold FX7_without
  repeat' (first | with_reducible exact kW.s0 | with_reducible exact kW.s1 | with_reducible exact kW.sl | with_reducible exact kW.sn (by assumption) | with_reducible exact kN_needPerson | with_reducible refine kW.ite ?_ ?_ | with_reducible refine kW.gd ?_ | with_reducible refine kW.inn ?_ | with_reducible refine kW.nr ?_ | with_reducible refine kW.lt (fun _ => ?_) | with_reducible refine kW.bx ?_ (fun _ _ => ?_) (fun _ _ _ => ?_) | with_reducible refine kW.bd (fun _ _ => ?_) | with_reducible refine kW.lp (fun _ => ?_))
set_option maxHeartbeats 2000000 in
theorem kN_who_b16 {σ : zS} : kW nX (FX7_who_b16 σ) := by
  unfold FX7_who_b16
  repeat' (first | with_reducible exact kW.s0 | with_reducible exact kW.s1 | with_reducible exact kW.sl | with_reducible exact kW.sn (by assumption) | with_reducible refine kW.ite ?_ ?_ | with_reducible refine kW.gd ?_ | with_reducible refine kW.inn ?_ | with_reducible refine kW.nr ?_ | with_reducible refine kW.lt (fun _ => ?_) | with_reducible refine kW.bx ?_ (fun _ _ => ?_) (fun _ _ _ => ?_) | with_reducible refine kW.bd (fun _ _ => ?_) | with_reducible refine kW.lp (fun _ => ?_))
set_option maxHeartbeats 2000000 in
theorem kN_who_b41 {y0 : Int32} {σ : zS} : kW nX (FX7_who_b41 y0 σ) := by
  unfold FX7_who_b41
  repeat' (first | with_reducible exact kW.s0 | with_reducible exact kW.s1 | with_reducible exact kW.sl | with_reducible exact kW.sn (by assumption) | with_reducible refine kW.ite ?_ ?_ | with_reducible refine kW.gd ?_ | with_reducible refine kW.inn ?_ | with_reducible refine kW.nr ?_ | with_reducible refine kW.lt (fun _ => ?_) | with_reducible refine kW.bx ?_ (fun _ _ => ?_) (fun _ _ _ => ?_) | with_reducible refine kW.bd (fun _ _ => ?_) | with_reducible refine kW.lp (fun _ => ?_))
set_option maxHeartbeats 2000000 in
theorem kN_who {k0 : Nat} {x1 : Int32} {σ : zS} : kW nX (FX7_who k0 x1 σ) := by
  unfold FX7_who
  repeat' (first | with_reducible exact kW.s0 | with_reducible exact kW.s1 | with_reducible exact kW.sl | with_reducible exact kW.sn (by assumption) | with_reducible exact kN_who_b16 | with_reducible exact kN_who_b41 | with_reducible refine kW.ite ?_ ?_ | with_reducible refine kW.gd ?_ | with_reducible refine kW.inn ?_ | with_reducible refine kW.nr ?_ | with_reducible refine kW.lt (fun _ => ?_) | with_reducible refine kW.bx ?_ (fun _ _ => ?_) (fun _ _ _ => ?_) | with_reducible refine kW.bd (fun _ _ => ?_) | with_reducible refine kW.lp (fun _ => ?_))
set_option maxHeartbeats 2000000 in
theorem kN_game_b9 {σ : zS} : kW nX (FX7_game_b9 σ) := by
  unfold FX7_game_b9
  repeat' (first | with_reducible exact kW.s0 | with_reducible exact kW.s1 | with_reducible exact kW.sl | with_reducible exact kW.sn (by assumption) | with_reducible refine kW.ite ?_ ?_ | with_reducible refine kW.gd ?_ | with_reducible refine kW.inn ?_ | with_reducible refine kW.nr ?_ | with_reducible refine kW.lt (fun _ => ?_) | with_reducible refine kW.bx ?_ (fun _ _ => ?_) (fun _ _ _ => ?_) | with_reducible refine kW.bd (fun _ _ => ?_) | with_reducible refine kW.lp (fun _ => ?_))
set_option maxHeartbeats 2000000 in
theorem kN_game_b35 {y0 : Int32} {σ : zS} : kW nX (FX7_game_b35 y0 σ) := by
  unfold FX7_game_b35
  repeat' (first | with_reducible exact kW.s0 | with_reducible exact kW.s1 | with_reducible exact kW.sl | with_reducible exact kW.sn (by assumption) | with_reducible refine kW.ite ?_ ?_ | with_reducible refine kW.gd ?_ | with_reducible refine kW.inn ?_ | with_reducible refine kW.nr ?_ | with_reducible refine kW.lt (fun _ => ?_) | with_reducible refine kW.bx ?_ (fun _ _ => ?_) (fun _ _ _ => ?_) | with_reducible refine kW.bd (fun _ _ => ?_) | with_reducible refine kW.lp (fun _ => ?_))
set_option maxHeartbeats 2000000 in
theorem kN_game {k0 : Nat} {x1 : Int32} {σ : zS} : kW nX (FX7_game k0 x1 σ) := by
  unfold FX7_game
  repeat' (first | with_reducible exact kW.s0 | with_reducible exact kW.s1 | with_reducible exact kW.sl | with_reducible exact kW.sn (by assumption) | with_reducible exact kN_game_b35 | with_reducible exact kN_game_b9 | with_reducible refine kW.ite ?_ ?_ | with_reducible refine kW.gd ?_ | with_reducible refine kW.inn ?_ | with_reducible refine kW.nr ?_ | with_reducible refine kW.lt (fun _ => ?_) | with_reducible refine kW.bx ?_ (fun _ _ => ?_) (fun _ _ _ => ?_) | with_reducible refine kW.bd (fun _ _ => ?_) | with_reducible refine kW.lp (fun _ => ?_))
