/-! game: what both sides do with the same gains -/
def g7 (σ : zS) (na : Nat) (G : Nat → Nat → Int32) : Prop := ∀ a b, a < na → b < na → FX7_gain 0 (nI a) (nI b) σ = some (G a b, σ)
def g8 (t : zS) (na : Nat) (G : Nat → Nat → Int32) : Prop := ∀ a b, a < na → b < na → FX8_gain 0 (nI a) (nI b) t = some (G a b, t)
def rsq (G : Nat → Nat → Int32) (na a b : Nat) : Bool := (List.range na).all (fun k => decide (G k b ≤ G a b) && decide (G a b ≤ G a k))
theorem rsq_f {G : Nat → Nat → Int32} {na a b k : Nat} (hk : k < na) (h : ¬ (G k b ≤ G a b ∧ G a b ≤ G a k)) : rsq G na a b = false := by
  unfold rsq
  rw [List.all_eq_false]
  refine ⟨k, List.mem_range.mpr hk, ?_⟩
  rw [Bool.and_eq_true, decide_eq_true_iff, decide_eq_true_iff]
  exact h
theorem rsq_t {G : Nat → Nat → Int32} {na a b : Nat} (h : ∀ k, k < na → G k b ≤ G a b ∧ G a b ≤ G a k) : rsq G na a b = true := by
  unfold rsq
  rw [List.all_eq_true]
  intro k hk
  rw [Bool.and_eq_true, decide_eq_true_iff, decide_eq_true_iff]
  exact h k (List.mem_range.mp hk)
theorem frs {σ t : zS} {q na n nr a b : Nat} {G : Nat → Nat → Int32} (h : RQ σ t q na n nr) (hg : g7 σ na G) (ha : a < na) (hb : b < na) : FX7_rests 0 (nI a) (nI b) σ = some (b01 (rsq G na a b), σ) := by
  have h10 := h.2.2.1.1.1.1
  obtain ⟨c1, -, -⟩ := h.2.2.1.c
  have kq := h.2.1.q
  have key : ∀ k i, i + k = na → (∀ j, j < i → G j b ≤ G a b ∧ G a b ≤ G a j) → zlp (fun z : Int32 × zS => FX7_rests_L10 0 (nI a) (nI b) (G a b) z.1 z.2) (nI i, σ) = some (b01 (rsq G na a b), σ) := by
    intro k
    induction k with
    | zero =>
      intro i hi hj
      refine zlp_end ?_
      show FX7_rests_L10 0 (nI a) (nI b) (G a b) (nI i) σ = _
      unfold FX7_rests_L10 FX7_rests_b55
      rw [kq.1, kq.2, zgd_t, zlet_eq, c1, if_pos (nI_le (by omega) (by omega)), rsq_t (fun j hj2 => hj j (by omega))]
      rfl
    | succ k ih =>
      intro i hi hj
      have st : FX7_rests_L10 0 (nI a) (nI b) (G a b) (nI i) σ = if G a b < G i b then some (.inr (0, σ)) else if G a b ≤ G a i then some (.inl (nI (i + 1), σ)) else some (.inr (0, σ)) := by
        unfold FX7_rests_L10 FX7_rests_b47
        rw [kq.1, kq.2, zgd_t, zlet_eq, c1, if_neg (nI_ge (by omega) (by omega)), hg i b (by omega) hb, zbd_s, hg a i ha (by omega), zbd_s, zlet_eq, nI_1]
        rfl
      by_cases c : G a b < G i b
      · rw [if_pos c] at st
        rw [rsq_f (k := i) (by omega) (fun z => by have := z.1; rw [fa_le] at this; rw [fa_lt] at c; omega)]
        exact zlp_end st
      rw [if_neg c] at st
      by_cases e : G a b ≤ G a i
      · rw [if_pos e] at st
        refine (zlp_step (a' := (nI (i + 1), σ)) st).trans (ih (i + 1) (by omega) (fun j hj2 => ?_))
        by_cases f : j = i
        · subst f; exact ⟨fa_of_nlt c, e⟩
        · exact hj j (by omega)
      · rw [if_neg e] at st
        rw [rsq_f (k := i) (by omega) (fun z => e z.2)]
        exact zlp_end st
  unfold FX7_rests
  rw [hg a b ha hb, zbd_s, zlet_eq, zlet_eq]
  exact key na 0 (Nat.zero_add na) (fun j hj => by omega)
theorem grs {σ t : zS} {q na n nr a b : Nat} {G : Nat → Nat → Int32} (h : RQ σ t q na n nr) (hg : g8 t na G) (ha : a < na) (hb : b < na) : FX8_rests 0 (nI a) (nI b) t = some (b01 (rsq G na a b), t) := by
  have h10 := h.2.2.1.1.1.1
  have e0 : t 3 0 = nI na := h.2.2.1.1.1.2.2
  have key : ∀ k i, i + k = na → (∀ j, j < i → G j b ≤ G a b ∧ G a b ≤ G a j) → zlp (fun z : Int32 × zS => FX8_rests_L2 0 (nI a) (nI b) z.1 z.2) (nI i, t) = some (b01 (rsq G na a b), t) := by
    intro k
    induction k with
    | zero =>
      intro i hi hj
      refine zlp_end ?_
      show FX8_rests_L2 0 (nI a) (nI b) (nI i) t = _
      unfold FX8_rests_L2 FX8_rests_b50
      rw [show (0 + 3 : Nat) = 3 from rfl, show (0 : Int32).toNatClampNeg = 0 from rfl, e0, show ln 1 3 = 18 from rfl, show zin 18 0 _ = _ from zin_n (p := 0) _ (by decide : 0 < 18) (by decide), if_pos (nI_le (by omega) (by omega)), rsq_t (fun j hj2 => hj j (by omega))]
      rfl
    | succ k ih =>
      intro i hi hj
      have st : FX8_rests_L2 0 (nI a) (nI b) (nI i) t = if G a b < G i b then some (.inr (0, t)) else if G a b ≤ G a i then some (.inl (nI (i + 1), t)) else some (.inr (0, t)) := by
        unfold FX8_rests_L2 FX8_rests_b42
        rw [show (0 + 3 : Nat) = 3 from rfl, show (0 : Int32).toNatClampNeg = 0 from rfl, e0, show ln 1 3 = 18 from rfl, show zin 18 0 _ = _ from zin_n (p := 0) _ (by decide : 0 < 18) (by decide), if_neg (nI_ge (by omega) (by omega)), hg i b (by omega) hb, zbd_s, hg a b ha hb, zbd_s, hg a i ha (by omega), zbd_s, hg a b ha hb, zbd_s, zlet_eq, nI_1]
        rfl
      by_cases c : G a b < G i b
      · rw [if_pos c] at st
        rw [rsq_f (k := i) (by omega) (fun z => by have := z.1; rw [fa_le] at this; rw [fa_lt] at c; omega)]
        exact zlp_end st
      rw [if_neg c] at st
      by_cases e : G a b ≤ G a i
      · rw [if_pos e] at st
        refine (zlp_step (a' := (nI (i + 1), t)) st).trans (ih (i + 1) (by omega) (fun j hj2 => ?_))
        by_cases f : j = i
        · subst f; exact ⟨fa_of_nlt c, e⟩
        · exact hj j (by omega)
      · rw [if_neg e] at st
        rw [rsq_f (k := i) (by omega) (fun z => e z.2)]
        exact zlp_end st
  unfold FX8_rests
  rw [zlet_eq]
  exact key na 0 (Nat.zero_add na) (fun j hj => by omega)
