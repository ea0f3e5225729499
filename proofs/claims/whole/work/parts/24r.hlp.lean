/-! shop: the class's shop is cleared, measured; the reference takes over -/
theorem ffill {k n : Nat} {s : zS} (hl : ln 0 k = n) (hn : n < 2 ^ 31) : ∃ s', FX7_fillRow k 0 s = some (0, s') ∧ (∀ x, x ≠ k → s' x = s x) ∧ ∀ j, j < n → s' k j = 0 := by
  have key : ∀ m i u, i + m = n → (∀ x, x ≠ k → u x = s x) → (∀ j, j < i → u k j = 0) → ∃ s', zlp (fun q : Int32 × zS => FX7_fillRow_L2 k 0 q.1 q.2) (nI i, u) = some (0, s') ∧ (∀ x, x ≠ k → s' x = s x) ∧ ∀ j, j < n → s' k j = 0 := by
    intro m
    induction m with
    | zero =>
      intro i u hi h1 h2
      refine ⟨u, zlp_end ?_, h1, fun j hj => h2 j (by omega)⟩
      show FX7_fillRow_L2 k 0 (nI i) u = _
      unfold FX7_fillRow_L2 FX7_fillRow_b18
      rw [hl, if_pos (nI_le (by omega) (by omega))]
      rfl
    | succ m ih =>
      intro i u hi h1 h2
      have st : FX7_fillRow_L2 k 0 (nI i) u = some (.inl (nI (i + 1), zup u k i 0)) := by
        unfold FX7_fillRow_L2
        rw [hl, if_neg (nI_ge (by omega) hn), zin_n _ (by omega : i < n) hn, zlet_eq, zlet_eq, nI_1, nI_clamp (by omega : i < 2 ^ 31)]
      obtain ⟨s', e1, e2, e3⟩ := ih (i + 1) (zup u k i 0) (by omega) (fun x hx => (zup_n hx).trans (h1 x hx)) (fun j hj => by
        rw [zup_at]
        by_cases c : j = i
        · rw [if_pos ⟨rfl, c⟩]
        · rw [if_neg (fun z => c z.2)]; exact h2 j (by omega))
      exact ⟨s', (zlp_step (f := fun q : Int32 × zS => FX7_fillRow_L2 k 0 q.1 q.2) (a := (nI i, u)) st).trans e1, e2, e3⟩
  unfold FX7_fillRow
  rw [zlet_eq]
  exact key n 0 s (Nat.zero_add n) (fun _ _ => rfl) (fun j hj => by omega)
theorem fclr {qt : Nat} {s : zS} (hq : qt = 46 ∨ qt = 64) : ∃ s', FX5_clear qt s = some (0, s') ∧ (∀ k, ¬ (qt ≤ k ∧ k < qt + 18) → s' k = s k) ∧ s' (qt + 1) 0 = 0 ∧ s' (qt + 1) 1 = 0 ∧ s' (qt + 1) 2 = 0 ∧ s' (qt + 7) 0 = 0 ∧ s' (qt + 14) 0 = 0 ∧ s' (qt + 14) 1 = 0 ∧ s' qt 3 = 3 ∧ s' qt 4 = 400 ∧ s' qt 5 = 1 ∧ ∀ j, j < 10 → s' (qt + 4) j = 0 ∧ s' (qt + 5) j = 0 := by
  have l4 : ln 0 (qt + 4) = 10 := by rcases hq with rfl | rfl <;> rfl
  have l5 : ln 0 (qt + 5) = 10 := by rcases hq with rfl | rfl <;> rfl
  obtain ⟨a, a1, a2, a3⟩ := ffill (s := zup (zup (zup s (qt + 1) 0 0) (qt + 1) 1 0) (qt + 1) 2 0) l4 (by decide)
  obtain ⟨b, b1, b2, b3⟩ := ffill (s := a) l5 (by decide)
  have a1' : FX7_fillRow (qt + 1 + 3) 0 (zup (zup (zup s (qt + 1) 0 0) (qt + 1) 1 0) (qt + 1) 2 0) = some (0, a) := a1
  have b1' : FX7_fillRow (qt + 1 + 4) 0 a = some (0, b) := b1
  refine ⟨zup (zup (zup (zup (zup (zup b (qt + 7) 0 0) (qt + 14) 0 0) (qt + 14) 1 0) qt 3 3) qt 4 400) qt 5 1, ?_, ?_, ?_⟩
  · unfold FX5_clear FX1_clear FX4_clear
    simp only [zlet_eq, a1', b1', zbd_s]
  · intro k hk
    rw [zup_n (by omega), zup_n (by omega), zup_n (by omega), zup_n (by omega), zup_n (by omega), zup_n (by omega), b2 k (by omega), a2 k (by omega), zup_n (by omega), zup_n (by omega), zup_n (by omega)]
  · have c : ∀ k j, ¬ (k = qt + 7 ∧ j = 0) → ¬ (k = qt + 14 ∧ j ≤ 1) → ¬ (k = qt ∧ 3 ≤ j ∧ j ≤ 5) → zup (zup (zup (zup (zup (zup b (qt + 7) 0 0) (qt + 14) 0 0) (qt + 14) 1 0) qt 3 3) qt 4 400) qt 5 1 k j = b k j := fun k j h1 h2 h3 => by
      rw [zup_at, if_neg (by omega), zup_at, if_neg (by omega), zup_at, if_neg (by omega), zup_at, if_neg (by omega), zup_at, if_neg (by omega), zup_at, if_neg (by omega)]
    have e1 : ∀ j, j ≤ 2 → b (qt + 1) j = 0 := fun j hj => by
      rw [b2 (qt + 1) (by omega), a2 (qt + 1) (by omega), zup_at]
      by_cases c2 : j = 2
      · rw [if_pos ⟨rfl, c2⟩]
      rw [if_neg (by omega), zup_at]
      by_cases c1 : j = 1
      · rw [if_pos ⟨rfl, c1⟩]
      · rw [if_neg (by omega), zup_at, if_pos ⟨rfl, by omega⟩]
    refine ⟨?_, ?_, ?_, ?_, ?_, ?_, ?_, ?_, ?_, fun j hj => ⟨?_, ?_⟩⟩
    · rw [c _ _ (by omega) (by omega) (by omega)]; exact e1 0 (by decide)
    · rw [c _ _ (by omega) (by omega) (by omega)]; exact e1 1 (by decide)
    · rw [c _ _ (by omega) (by omega) (by omega)]; exact e1 2 (by decide)
    · rw [zup_at, if_neg (by omega), zup_at, if_neg (by omega), zup_at, if_neg (by omega), zup_at, if_neg (by omega), zup_at, if_neg (by omega), zup_at, if_pos ⟨rfl, rfl⟩]
    · rw [zup_at, if_neg (by omega), zup_at, if_neg (by omega), zup_at, if_neg (by omega), zup_at, if_neg (by omega), zup_at, if_pos ⟨rfl, rfl⟩]
    · rw [zup_at, if_neg (by omega), zup_at, if_neg (by omega), zup_at, if_neg (by omega), zup_at, if_pos ⟨rfl, rfl⟩]
    · rw [zup_at, if_neg (by omega), zup_at, if_neg (by omega), zup_at, if_pos ⟨rfl, rfl⟩]
    · rw [zup_at, if_neg (by omega), zup_at, if_pos ⟨rfl, rfl⟩]
    · rw [zup_at, if_pos ⟨rfl, rfl⟩]
    · rw [c _ _ (by omega) (by omega) (by omega), b2 (qt + 4) (by omega)]; exact a3 j hj
    · rw [c _ _ (by omega) (by omega) (by omega)]; exact b3 j hj
theorem gth {k h : Nat} {t : zS} (hl : ln 1 k = 2 * h) (hh : h < 2 ^ 20) : ∃ t', FX8_takeHalf k t = some (0, t') ∧ (∀ x, x ≠ k → t' x = t x) ∧ ∀ j, j < h → t' k j = t k (h + j) := by
  have zg : ∀ (β : Type) (r : Option β), zgd ((2 : Nat) != 0) r = r := fun β r => Eq.trans rfl rfl
  have hd : nI (2 * h) / 2 = nI h := by
    rw [show (2 : Int32) = nI 2 from rfl, pk_div (by omega) (by decide) (by decide), Nat.mul_div_cancel_left h (by decide)]
  have key : ∀ m i u, i + m = h → (∀ x, x ≠ k → u x = t x) → (∀ j, j < i → u k j = t k (h + j)) → (∀ j, h ≤ j → u k j = t k j) → ∃ t', zlp (fun q : Int32 × zS => FX8_takeHalf_L2 k q.1 q.2) (nI i, u) = some (0, t') ∧ (∀ x, x ≠ k → t' x = t x) ∧ ∀ j, j < h → t' k j = t k (h + j) := by
    intro m
    induction m with
    | zero =>
      intro i u hi h1 h2 h3
      refine ⟨u, zlp_end ?_, h1, fun j hj => h2 j (by omega)⟩
      show FX8_takeHalf_L2 k (nI i) u = _
      unfold FX8_takeHalf_L2 FX8_takeHalf_b27
      rw [hl, hd, zg, if_pos (nI_le (by omega) (by omega))]
      rfl
    | succ m ih =>
      intro i u hi h1 h2 h3
      have st : FX8_takeHalf_L2 k (nI i) u = some (.inl (nI (i + 1), zup u k i (u k (h + i)))) := by
        unfold FX8_takeHalf_L2
        rw [hl, hd, zg, if_neg (nI_ge (by omega) (by omega)), zg, nI_add, zin_n _ (by omega : h + i < 2 * h) (by omega), zin_n _ (by omega : i < 2 * h) (by omega), zlet_eq, zlet_eq, nI_1, nI_clamp (by omega : i < 2 ^ 31), nI_clamp (by omega : h + i < 2 ^ 31)]
      obtain ⟨t', e1, e2, e3⟩ := ih (i + 1) (zup u k i (u k (h + i))) (by omega) (fun x hx => (zup_n hx).trans (h1 x hx)) (fun j hj => by
        rw [zup_at]
        by_cases c : j = i
        · rw [if_pos ⟨rfl, c⟩, c]; exact h3 _ (by omega)
        · rw [if_neg (fun z => c z.2)]; exact h2 j (by omega)) (fun j hj => by rw [zup_at, if_neg (by omega)]; exact h3 j hj)
      exact ⟨t', (zlp_step (f := fun q : Int32 × zS => FX8_takeHalf_L2 k q.1 q.2) (a := (nI i, u)) st).trans e1, e2, e3⟩
  unfold FX8_takeHalf
  rw [zlet_eq]
  exact key h 0 t (Nat.zero_add h) (fun _ _ => rfl) (fun j hj => by omega) (fun _ _ => rfl)
/-! measured, whatever has been told -/
section
variable {qt : Nat}
theorem fbt' {s : zS} {x y : Int32} : ∃ r, FX1_between (qt + 1) x y s = some (r, s) := by
  unfold FX1_between
  rw [fat', zbd_s]
  exact ⟨_, rfl⟩
theorem fpt' {s : zS} {i x : Int32} : ∃ s', FX7_put (qt + 1 + 5) i x s = some (0, s') ∧ mK s s' qt := by
  rw [show qt + 1 + 5 = qt + 6 from rfl, fput']
  refine ⟨_, rfl, ?_⟩
  unfold pt
  split
  · exact fun _ _ => rfl
  split
  · exact fun _ _ => rfl
  · exact fun k hk => zup_n hk
theorem mK.tr {a b c : zS} (h : mK a b qt) (h2 : mK b c qt) : mK a c qt := fun k hk => (h2 k hk).trans (h k hk)
theorem fmT {s : zS} : ∃ s', FX1_measure (qt + 1) s = some (0, s') ∧ mK s s' qt := by
  by_cases c : s (qt + 1) 0 < 0
  · have c0 : s (qt + 1) 0 ≤ 0 := (fa_of_lt c).1
    refine ⟨s, ?_, fun _ _ => rfl⟩
    unfold FX1_measure
    rw [zlet_eq]
    refine (zlp_exit (x := FX1_measure_b69 (qt + 1) s) ?_).trans ?_
    · show FX1_measure_L2 (qt + 1) 0 s = _
      unfold FX1_measure_L2
      rw [if_pos c0]
    · unfold FX1_measure_b69
      rw [zlet_eq]
      refine zlp_end ?_
      show FX1_measure_L71 (qt + 1) 0 s = _
      unfold FX1_measure_L71 FX1_measure_b156
      rw [if_pos c0]
      rfl
  obtain ⟨N, hN, hx⟩ := nI_of c
  have kN : ∀ {u : zS}, mK s u qt → u (qt + 1) 0 = nI N := fun h => by rw [h (qt + 1) (by omega)]; exact hx
  have l91 : ∀ x1 x2 k i u, i + k = N → mK s u qt → ∃ u', zlp (fun q : Int32 × zS => FX1_measure_L91 (qt + 1) x1 x2 q.1 q.2) (nI i, u) = some (.inl (x2 + 1, u')) ∧ mK s u' qt := by
    intro x1 x2 k
    induction k with
    | zero =>
      intro i u hi hK
      refine ⟨u, zlp_end ?_, hK⟩
      show FX1_measure_L91 (qt + 1) x1 x2 (nI i) u = _
      unfold FX1_measure_L91 FX1_measure_b144
      rw [kN hK, if_pos (nI_le (by omega) (by omega)), zlet_eq]
      rfl
    | succ k ih =>
      intro i u hi hK
      obtain ⟨r1, e1⟩ := fbt' (qt := qt) (s := u) (x := x2) (y := x1)
      obtain ⟨r2, e2⟩ := fbt' (qt := qt) (s := u) (x := x1) (y := nI i)
      obtain ⟨r3, e3⟩ := fbt' (qt := qt) (s := u) (x := x2) (y := nI i)
      obtain ⟨u1, e4, e5⟩ := fpt' (qt := qt) (s := u) (i := x2 * 10 + nI i) (x := if r1 + r2 < r3 then r1 + r2 else r3)
      have st : FX1_measure_L91 (qt + 1) x1 x2 (nI i) u = some (.inl (nI (i + 1), u1)) := by
        unfold FX1_measure_L91
        rw [kN hK, if_neg (nI_ge (by omega) hN), e1, zbd_s, e2, zbd_s, zlet_eq, e3, zbd_s, e4, zbd_s, zlet_eq, nI_1]
      obtain ⟨u', g1, g2⟩ := ih (i + 1) u1 (by omega) (hK.tr e5)
      exact ⟨u', (zlp_step (f := fun q : Int32 × zS => FX1_measure_L91 (qt + 1) x1 x2 q.1 q.2) (a := (nI i, u)) st).trans g1, g2⟩
  have l81 : ∀ x1 k i u, i + k = N → mK s u qt → ∃ u', zlp (fun q : Int32 × zS => FX1_measure_L81 (qt + 1) x1 q.1 q.2) (nI i, u) = some (.inl (x1 + 1, u')) ∧ mK s u' qt := by
    intro x1 k
    induction k with
    | zero =>
      intro i u hi hK
      refine ⟨u, zlp_end ?_, hK⟩
      show FX1_measure_L81 (qt + 1) x1 (nI i) u = _
      unfold FX1_measure_L81 FX1_measure_b150
      rw [kN hK, if_pos (nI_le (by omega) (by omega)), zlet_eq]
      rfl
    | succ k ih =>
      intro i u hi hK
      obtain ⟨u1, e1, e2⟩ := l91 x1 (nI i) N 0 u (Nat.zero_add N) hK
      have st : FX1_measure_L81 (qt + 1) x1 (nI i) u = some (.inl (nI (i + 1), u1)) := by
        unfold FX1_measure_L81
        rw [kN hK, if_neg (nI_ge (by omega) hN), zlet_eq, ← nI_1]
        exact e1
      obtain ⟨u', g1, g2⟩ := ih (i + 1) u1 (by omega) e2
      exact ⟨u', (zlp_step (f := fun q : Int32 × zS => FX1_measure_L81 (qt + 1) x1 q.1 q.2) (a := (nI i, u)) st).trans g1, g2⟩
  have l71 : ∀ k i u, i + k = N → mK s u qt → ∃ u', zlp (fun q : Int32 × zS => FX1_measure_L71 (qt + 1) q.1 q.2) (nI i, u) = some (0, u') ∧ mK s u' qt := by
    intro k
    induction k with
    | zero =>
      intro i u hi hK
      refine ⟨u, zlp_end ?_, hK⟩
      show FX1_measure_L71 (qt + 1) (nI i) u = _
      unfold FX1_measure_L71 FX1_measure_b156
      rw [kN hK, if_pos (nI_le (by omega) (by omega))]
      rfl
    | succ k ih =>
      intro i u hi hK
      obtain ⟨u1, e1, e2⟩ := l81 (nI i) N 0 u (Nat.zero_add N) hK
      have st : FX1_measure_L71 (qt + 1) (nI i) u = some (.inl (nI (i + 1), u1)) := by
        unfold FX1_measure_L71
        rw [kN hK, if_neg (nI_ge (by omega) hN), zlet_eq, ← nI_1]
        exact e1
      obtain ⟨u', g1, g2⟩ := ih (i + 1) u1 (by omega) e2
      exact ⟨u', (zlp_step (f := fun q : Int32 × zS => FX1_measure_L71 (qt + 1) q.1 q.2) (a := (nI i, u)) st).trans g1, g2⟩
  have l12 : ∀ x1 k i u, i + k = N → mK s u qt → ∃ u', zlp (fun q : Int32 × zS => FX1_measure_L12 (qt + 1) x1 q.1 q.2) (nI i, u) = some (.inl (x1 + 1, u')) ∧ mK s u' qt := by
    intro x1 k
    induction k with
    | zero =>
      intro i u hi hK
      refine ⟨u, zlp_end ?_, hK⟩
      show FX1_measure_L12 (qt + 1) x1 (nI i) u = _
      unfold FX1_measure_L12 FX1_measure_b63
      rw [kN hK, if_pos (nI_le (by omega) (by omega)), zlet_eq]
      rfl
    | succ k ih =>
      intro i u hi hK
      have hp : ∀ y, ∃ u1, FX1_measure_b54 (qt + 1) x1 (nI i) (qt + 1 + 5) (x1 * 10 + nI i) y u = some (.inl (nI (i + 1), u1)) ∧ mK s u1 qt := fun y => by
        obtain ⟨u1, e4, e5⟩ := fpt' (qt := qt) (s := u) (i := x1 * 10 + nI i) (x := y)
        refine ⟨u1, ?_, hK.tr e5⟩
        unfold FX1_measure_b54
        rw [e4, zbd_s, zlet_eq, nI_1]
      have st : ∃ u1, FX1_measure_L12 (qt + 1) x1 (nI i) u = some (.inl (nI (i + 1), u1)) ∧ mK s u1 qt := by
        unfold FX1_measure_L12
        rw [kN hK, if_neg (nI_ge (by omega) hN), fjos, zbd_s]
        split
        · exact hp 0
        split
        · exact hp 99
        · exact hp 1
      obtain ⟨u1, st, e2⟩ := st
      obtain ⟨u', g1, g2⟩ := ih (i + 1) u1 (by omega) e2
      exact ⟨u', (zlp_step (f := fun q : Int32 × zS => FX1_measure_L12 (qt + 1) x1 q.1 q.2) (a := (nI i, u)) st).trans g1, g2⟩
  have l2 : ∀ k i u, i + k = N → mK s u qt → ∃ u', zlp (fun q : Int32 × zS => FX1_measure_L2 (qt + 1) q.1 q.2) (nI i, u) = some (0, u') ∧ mK s u' qt := by
    intro k
    induction k with
    | zero =>
      intro i u hi hK
      obtain ⟨u', g1, g2⟩ := l71 N 0 u (Nat.zero_add N) hK
      refine ⟨u', (zlp_exit (x := FX1_measure_b69 (qt + 1) u) ?_).trans ?_, g2⟩
      · show FX1_measure_L2 (qt + 1) (nI i) u = _
        unfold FX1_measure_L2
        rw [kN hK, if_pos (nI_le (by omega) (by omega))]
      · unfold FX1_measure_b69
        rw [zlet_eq]
        exact g1
    | succ k ih =>
      intro i u hi hK
      obtain ⟨u1, e1, e2⟩ := l12 (nI i) N 0 u (Nat.zero_add N) hK
      have st : FX1_measure_L2 (qt + 1) (nI i) u = some (.inl (nI (i + 1), u1)) := by
        unfold FX1_measure_L2
        rw [kN hK, if_neg (nI_ge (by omega) hN), zlet_eq, ← nI_1]
        exact e1
      obtain ⟨u', g1, g2⟩ := ih (i + 1) u1 (by omega) e2
      exact ⟨u', (zlp_step (f := fun q : Int32 × zS => FX1_measure_L2 (qt + 1) q.1 q.2) (a := (nI i, u)) st).trans g1, g2⟩
  unfold FX1_measure
  rw [zlet_eq]
  exact l2 N 0 s (Nat.zero_add N) (fun _ _ => rfl)
end
