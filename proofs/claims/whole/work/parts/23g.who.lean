theorem n1_i : ∀ N, N ≤ 8 → (nI N - 1).toInt = (N : Int) - 1 ∧ (nI N).toInt = N := by decide +kernel
theorem rel_who {σ τ : zS} (h : RR σ τ) (x : Int32) : relX (FX7_who 0 x σ) (FX8_who 0 x τ) := by
  obtain ⟨q, na, n, nr, h⟩ := h
  have h0 : RQ σ (zup τ 0 2 0) q na n nr := h.m (Fm.rf.up rfl)
  have t0 : zup τ 0 2 0 0 2 = 0 := by rw [zup_at, if_pos ⟨rfl, rfl⟩]
  unfold FX8_who
  rw [zlet_eq]
  generalize zup τ 0 2 0 = t at *
  have hR : RR σ t := ⟨q, na, n, nr, h0⟩
  obtain ⟨N, t', N8, n1, n2, g1, g2, g3⟩ := gTC h0
  rw [n2, gIn2 (a := -1) (b := Int32.toInt64 (nI N - 1)) (a' := -1) (b' := nI N - 1) (by decide) rfl, zbd_s]
  simp only [b01_eq0]
  unfold FX7_who FX7_who_b16 FX7_who_b41
  rw [show (0 + 6 : Nat) = 6 from rfl, n1]
  obtain ⟨i1, i2⟩ := n1_i N N8
  by_cases y1 : x < -1
  · rw [if_pos y1, decide_eq_true y1]; simp only [Bool.not_true, Bool.false_and, if_true]; exact relX_1 hR
  rw [if_neg y1, decide_eq_false y1]
  by_cases y2 : ¬ x < nI N
  · have : nI N - 1 < x := by rw [fa_lt] at *; omega
    rw [if_neg y2, decide_eq_true this]; simp only [Bool.not_true, Bool.and_false, if_true]; exact relX_1 hR
  have y2 := Decidable.not_not.mp y2
  have y3 : ¬ nI N - 1 < x := fun z => by rw [fa_lt] at *; omega
  rw [if_pos y2, decide_eq_false y3, if_neg (show ¬ (!false && !false) = false from by decide), g1, zbd_s]
  have hm : Fm t t' := fun k j hk => by rw [g2 k (fun z => by subst z; cases hk)]
  have h' := h0.m hm
  have f2 : t' 0 2 = 0 := by rw [g2 0 (by decide)]; exact t0
  by_cases x0 : x = -1
  · rw [if_pos x0, if_pos x0, zlet_eq, zlet_eq]
    -- the class asks for each once more
    have hs : ∀ (i : Nat) (z : Int32 × zS), i < N → (z.1 = nI i ∧ (∀ k, k ≠ 3 → z.2 k = σ k) ∧ ∀ j, j < i → z.2 3 j = t' 33 j) → ∃ z', FX7_fewest_L2 0 z.1 z.2 = some (.inl z') ∧ (z'.1 = nI (i + 1) ∧ (∀ k, k ≠ 3 → z'.2 k = σ k) ∧ ∀ j, j < i + 1 → z'.2 3 j = t' 33 j) := by
      intro i z hi ⟨q1, q2, q3⟩
      obtain ⟨y, s⟩ := z
      simp only at q1 q2 q3
      subst q1
      have fs : Fx σ s := fun k j hk => by rw [q2 k (fun z => by subst z; cases hk)]
      obtain ⟨N', t'', N8', m1, -, e1, -, e3⟩ := gTC (h0.x fs)
      rw [q2 6 (by decide), n1] at m1
      have hNN : N = N' := (nI_eq (by omega) (by omega)).mp m1
      subst hNN
      have ett : t' = t'' := by rw [g1] at e1; exact congrArg Prod.snd (Option.some.inj e1)
      obtain ⟨v, v1, v2, v3⟩ := e3 i hi
      refine ⟨(nI (i + 1), zup s 3 i (t' 33 i)), ?_, rfl, fun k hk => (zup_n hk).trans (q2 k hk), fun j hj => ?_⟩
      · show FX7_fewest_L2 0 (nI i) s = _
        unfold FX7_fewest_L2
        rw [show (0 + 6 : Nat) = 6 from rfl, q2 6 (by decide), n1, if_neg (nI_ge hi (by omega)), v3, zbd_s, show (0 + 3 : Nat) = 3 from rfl, fput', show ln 0 3 = 8 from rfl, pt_n (by omega : i < 8) (by decide), zbd_s, zlet_eq, nI_1, ett, v2]
      · show zup s 3 i (t' 33 i) 3 j = t' 33 j
        rw [zup_at]
        by_cases e : j = i
        · rw [if_pos ⟨rfl, e⟩, e]
        · rw [if_neg (fun z => e z.2)]; exact q3 j (by omega)
    obtain ⟨⟨y, s⟩, j1, j2, j3, j4⟩ := zlp_ex (f := fun z : Int32 × zS => FX7_fewest_L2 0 z.1 z.2) (fun i z => z.1 = nI i ∧ (∀ k, k ≠ 3 → z.2 k = σ k) ∧ ∀ j, j < i → z.2 3 j = t' 33 j) (n := N) (a := (0, σ)) ⟨rfl, fun _ _ => rfl, fun j hj => by omega⟩ hs
    simp only at j2 j3 j4
    subst j2
    have fs : Fx σ s := fun k j hk => by rw [j3 k (fun z => by subst z; cases hk)]
    have hq := h'.x fs
    obtain ⟨r, l1, l2⟩ := fwl hq N8 (by rw [j3 6 (by decide)]; exact n1) (by rw [g2 0 (by decide)]; exact n2) j4 (2 ^ n) 0 (-1) 9 (Nat.zero_add _) (Or.inl ⟨rfl, rfl⟩)
    have hc : FX7_fewest 0 σ = some (r, s) := by
      unfold FX7_fewest
      rw [zlet_eq, j1]
      refine (zlp_exit (x := FX7_fewest_b32 0 s) ?_).trans ?_
      · show FX7_fewest_L2 0 (nI N) s = _
        unfold FX7_fewest_L2
        rw [show (0 + 6 : Nat) = 6 from rfl, j3 6 (by decide), n1, if_pos (nI_le (Nat.le_refl N) (by omega))]
      · unfold FX7_fewest_b32
        rw [zlet_eq, zlet_eq, zlet_eq]
        exact l1
    rw [hc, zbd_s]
    have l2' : zlp (fun z : Int32 × Int32 × zS => FX8_who_L49 0 z.1 z.2.1 z.2.2) (-1, 0, t') = some (r, t') := l2
    rw [l2']
    exact relX_0 ⟨q, na, n, nr, hq⟩ f2
  · rw [if_neg x0, if_neg x0]
    have nn : ¬ x < 0 := fun z => by
      have e1 : ¬ x.toInt = (-1 : Int32).toInt := fun w => x0 ((fa_eq _ _).mpr w)
      rw [fa_lt] at *
      have q0 : (0 : Int32).toInt = 0 := rfl
      have q1 : (-1 : Int32).toInt = -1 := rfl
      omega
    obtain ⟨X, hX, rfl⟩ := nI_of nn
    have hXN : X < N := (nI_ltI hX (by omega)).mp y2
    obtain ⟨v, v1, v2, v3⟩ := g3 X hXN
    rw [v3, zbd_s, show (0 + 33 : Nat) = 33 from rfl, show ln 1 33 = 8 from rfl, zin_n _ (by omega : X < 8) (by decide), nI_clamp hX, v2]
    exact relX_0 ⟨q, na, n, nr, h'⟩ f2
