def exq (f : Nat → Int32) (N : Nat) (x : Int32) : Bool := (List.range N).all (fun i => !decide (f i &&& x = 0))
theorem exq_f {f : Nat → Int32} {N i : Nat} {x : Int32} (hi : i < N) (h : f i &&& x = 0) : exq f N x = false := by
  unfold exq
  rw [List.all_eq_false]
  exact ⟨i, List.mem_range.mpr hi, by rw [decide_eq_true h]; decide⟩
theorem exq_t {f : Nat → Int32} {N : Nat} {x : Int32} (h : ∀ i, i < N → ¬ f i &&& x = 0) : exq f N x = true := by
  unfold exq
  rw [List.all_eq_true]
  exact fun i hi => by rw [decide_eq_false (h i (List.mem_range.mp hi))]; rfl
/-- the class: does it explain all? -/
theorem fex {σ : zS} {N : Nat} {x : Int32} (hN : N ≤ 8) (h : σ 6 13 = nI N) : FX7_explains 0 x σ = some (b01 (exq (σ 3) N x), σ) := by
  have key : ∀ k i, i + k = N → (∀ j, j < i → ¬ σ 3 j &&& x = 0) → zlp (fun z : Int32 × zS => FX7_explains_L2 0 x z.1 z.2) (nI i, σ) = some (b01 (exq (σ 3) N x), σ) := by
    intro k
    induction k with
    | zero =>
      intro i hi hj
      refine zlp_end ?_
      show FX7_explains_L2 0 x (nI i) σ = _
      unfold FX7_explains_L2 FX7_explains_b34
      rw [show (0 + 6 : Nat) = 6 from rfl, h, if_pos (nI_le (by omega) (by omega)), exq_t (fun j hj2 => hj j (by omega))]
      rfl
    | succ k ih =>
      intro i hi hj
      have st : FX7_explains_L2 0 x (nI i) σ = if σ 3 i &&& x = 0 then some (.inr (0, σ)) else some (.inl (nI (i + 1), σ)) := by
        unfold FX7_explains_L2 FX7_explains_b26
        rw [show (0 + 6 : Nat) = 6 from rfl, h, if_neg (nI_ge (by omega : i < N) (by omega)), show (0 + 3 : Nat) = 3 from rfl, fat', show ln 0 3 = 8 from rfl, rd_n (by omega : i < 8) (by decide), zbd_s, zlet_eq, nI_1]
        rfl
      by_cases c : σ 3 i &&& x = 0
      · rw [if_pos c] at st
        rw [exq_f (by omega : i < N) c]
        exact zlp_end st
      · rw [if_neg c] at st
        refine (zlp_step (a' := (nI (i + 1), σ)) st).trans (ih (i + 1) (by omega) (fun j hj2 => ?_))
        by_cases e : j = i
        · subst e; exact c
        · exact hj j (by omega)
  unfold FX7_explains
  rw [zlet_eq]
  exact key N 0 (Nat.zero_add N) (fun j hj => by omega)
/-- the reference's loop -/
theorem gex {t : zS} {N : Nat} {x2 x3 : Int32} (hN : N ≤ 8) (h : t 0 37 = nI N) (y : Bool) : FX8_who_b82 0 x2 x3 (b01 y) t = FX8_who_b126 0 x2 x3 (b01 (y && exq (t 33) N x3)) t := by
  have stop : ∀ i, zlp (fun z : Int32 × Int32 × zS => FX8_who_L87 0 x2 x3 z.1 z.2.1 z.2.2) (0, nI i, t) = FX8_who_b126 0 x2 x3 0 t := by
    intro i
    refine zlp_exit ?_
    show FX8_who_L87 0 x2 x3 0 (nI i) t = _
    unfold FX8_who_L87
    by_cases c : t 0 37 ≤ nI i
    · rw [if_pos c]
    · rw [if_neg c, if_pos rfl]
  have key : ∀ k i, i + k = N → (∀ j, j < i → ¬ t 33 j &&& x3 = 0) → zlp (fun z : Int32 × Int32 × zS => FX8_who_L87 0 x2 x3 z.1 z.2.1 z.2.2) (1, nI i, t) = FX8_who_b126 0 x2 x3 (b01 (exq (t 33) N x3)) t := by
    intro k
    induction k with
    | zero =>
      intro i hi hj
      rw [exq_t (fun j hj2 => hj j (by omega))]
      refine zlp_exit ?_
      show FX8_who_L87 0 x2 x3 1 (nI i) t = _
      unfold FX8_who_L87
      rw [h, if_pos (nI_le (by omega) (by omega))]
      rfl
    | succ k ih =>
      intro i hi hj
      have st : FX8_who_L87 0 x2 x3 1 (nI i) t = if t 33 i &&& x3 = 0 then some (.inl (0, nI (i + 1), t)) else some (.inl (1, nI (i + 1), t)) := by
        unfold FX8_who_L87 FX8_who_b118
        rw [h, if_neg (nI_ge (by omega : i < N) (by omega)), if_neg (by decide), show (0 + 33 : Nat) = 33 from rfl, show ln 1 33 = 8 from rfl, zin_n _ (by omega : i < 8) (by decide), nI_clamp (by omega : i < 2 ^ 31), nI_1]
        rfl
      by_cases c : t 33 i &&& x3 = 0
      · rw [if_pos c] at st
        rw [exq_f (by omega : i < N) c]
        exact (zlp_step (a' := (0, nI (i + 1), t)) st).trans (stop (i + 1))
      · rw [if_neg c] at st
        refine (zlp_step (a' := (1, nI (i + 1), t)) st).trans (ih (i + 1) (by omega) (fun j hj2 => ?_))
        by_cases e : j = i
        · subst e; exact c
        · exact hj j (by omega)
  unfold FX8_who_b82
  rw [zlet_eq, zlet_eq]
  cases y
  · exact stop 0
  · exact key N 0 (Nat.zero_add N) (fun j hj => by omega)
