/-! a day in the class: its cells as a row of rows -/
def dH (k0 q : Nat) : Prop := (k0 = 24 ∨ k0 = 35) ∧ (q = 46 ∨ q = 64)
/-- the world with the day's cells (0 .. 10), the rules' stack (11) and its top (12 0) in d -/
def dE (k0 q : Nat) (σ d : zS) : zS := fun k j =>
  if k = k0 ∧ j = 0 then nI q else if k0 ≤ k ∧ k ≤ k0 + 10 then d (k - k0) j else if k = q + 17 then d 11 j else if k = q + 14 ∧ j = 5 then d 12 0 else σ k j
/-- a shop's rows, what is worked with aside -/
def ss (q : Nat) (σ : zS) : zS := fun i j => if 17 ≤ i ∨ (i = 14 ∧ j = 5) then 0 else σ (q + i) j
theorem ss_i {q i : Nat} {σ : zS} (h : i < 17) (h2 : i ≠ 14) : ss q σ i = σ (q + i) := by
  funext j
  unfold ss
  rw [if_neg (by omega)]
theorem ss_14 {q j : Nat} {σ : zS} (h : j ≠ 5) : ss q σ 14 j = σ (q + 14) j := by
  unfold ss
  rw [if_neg (by omega)]
theorem dE_ptr {k0 q : Nat} {σ d : zS} (h : dH k0 q) : (dE k0 q σ d k0 0).toNatClampNeg = q := by
  unfold dE
  rw [if_pos ⟨rfl, rfl⟩]
  rcases h.2 with rfl | rfl <;> rfl
theorem kd_q {k0 q : Nat} (h : dH k0 q) : (kd 0 q == 5) = true := by rcases h.2 with rfl | rfl <;> rfl
theorem dE_0 {k0 q j : Nat} {σ d : zS} (h : j ≠ 0) : dE k0 q σ d k0 j = d 0 j := by
  unfold dE
  rw [if_neg (by omega), if_pos (by omega), Nat.sub_self]
theorem dE_k {k0 q i : Nat} {σ d : zS} (h : 0 < i) (h2 : i ≤ 10) : dE k0 q σ d (k0 + i) = d i := by
  funext j
  unfold dE
  rw [if_neg (by omega), if_pos (by omega), Nat.add_sub_cancel_left]
theorem dE_q {k0 q i : Nat} {σ d : zS} (h : dH k0 q) (h2 : i < 17) (h3 : i ≠ 14) : dE k0 q σ d (q + i) = ss q σ i := by
  obtain ⟨h0, h1⟩ := h
  rw [ss_i (by omega) (by omega)]
  funext j
  unfold dE
  rw [if_neg (by omega), if_neg (by omega), if_neg (by omega), if_neg (by omega)]
theorem dE_q0 {k0 q : Nat} {σ d : zS} (h : dH k0 q) : dE k0 q σ d q = ss q σ 0 := dE_q (i := 0) h (by omega) (by omega)
theorem dE_14 {k0 q j : Nat} {σ d : zS} (h : dH k0 q) (h2 : j ≠ 5) : dE k0 q σ d (q + 14) j = ss q σ 14 j := by
  obtain ⟨h0, h1⟩ := h
  rw [ss_14 h2]
  unfold dE
  rw [if_neg (by omega), if_neg (by omega), if_neg (by omega), if_neg (by omega)]
theorem dE_t {k0 q : Nat} {σ d : zS} (h : dH k0 q) : dE k0 q σ d (q + 14) 5 = d 12 0 := by
  obtain ⟨h0, h1⟩ := h
  unfold dE
  rw [if_neg (by omega), if_neg (by omega), if_neg (by omega), if_pos (by omega)]
theorem dE_17 {k0 q : Nat} {σ d : zS} (h : dH k0 q) : dE k0 q σ d (q + 17) = d 11 := by
  obtain ⟨h0, h1⟩ := h
  funext j
  unfold dE
  rw [if_neg (by omega), if_neg (by omega), if_pos (by omega)]
theorem dE_ss {k0 q : Nat} {σ d : zS} (h : dH k0 q) : ss q (dE k0 q σ d) = ss q σ := by
  obtain ⟨h0, h1⟩ := h
  funext i j
  unfold ss
  by_cases hc : 17 ≤ i ∨ (i = 14 ∧ j = 5)
  · rw [if_pos hc, if_pos hc]
  · rw [if_neg hc, if_neg hc]
    unfold dE
    by_cases h9 : i = 0
    · subst h9
      rw [if_neg (by omega), if_neg (by omega), if_neg (by omega), if_neg (by omega)]
    · by_cases h8 : i ≤ 16
      · rw [if_neg (by omega), if_neg (by omega), if_neg (by omega), if_neg (by omega)]
      · rw [if_neg (by omega), if_neg (by omega), if_neg (by omega), if_neg (by omega)]
theorem dE_dE {k0 q : Nat} {σ d d' : zS} : dE k0 q (dE k0 q σ d) d' = dE k0 q σ d' := by
  funext k j
  unfold dE
  split
  · rfl
  · split
    · rfl
    · split
      · rfl
      · split
        · rfl
        · rfl
/-- writes -/
theorem dU_0 {k0 q j : Nat} {σ d : zS} {v : Int32} (hj : j ≠ 0) : zup (dE k0 q σ d) k0 j v = dE k0 q σ (zup d 0 j v) := by
  funext a i
  simp only [dE, zup_at]
  repeat' split
  all_goals first | rfl | (exfalso; omega) | simp_all
theorem dU_k {k0 q b j : Nat} {σ d : zS} {v : Int32} (h : 0 < b) (h2 : b ≤ 10) : zup (dE k0 q σ d) (k0 + b) j v = dE k0 q σ (zup d b j v) := by
  funext a i
  simp only [dE, zup_at]
  repeat' split
  all_goals first | rfl | (exfalso; omega) | simp_all
theorem dU_17 {k0 q j : Nat} {σ d : zS} {v : Int32} (h : dH k0 q) : zup (dE k0 q σ d) (q + 17) j v = dE k0 q σ (zup d 11 j v) := by
  obtain ⟨h0, h1⟩ := h
  funext a i
  simp only [dE, zup_at]
  repeat' split
  all_goals first | rfl | (exfalso; omega) | simp_all
theorem dU_t {k0 q : Nat} {σ d : zS} {v : Int32} (h : dH k0 q) : zup (dE k0 q σ d) (q + 14) 5 v = dE k0 q σ (zup d 12 0 v) := by
  obtain ⟨h0, h1⟩ := h
  funext a i
  simp only [dE, zup_at]
  repeat' split
  all_goals first | rfl | (exfalso; omega) | simp_all
