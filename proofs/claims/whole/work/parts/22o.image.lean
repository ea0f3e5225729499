/-! the image of what is now -/
theorem zrow_s {σ : zS} {k : Nat} {f : Nat → Int32} : zrow σ k f k = f := by rw [zrow_at, if_pos rfl]
theorem zrow_n {σ : zS} {k a : Nat} {f : Nat → Int32} (h : a ≠ k) : zrow σ k f a = σ a := by rw [zrow_at, if_neg h]
theorem kR.cp {na n nr k k' : Nat} {σ σ' : zS} {v sn st v' sn' st' : Nat → Int32} {ac ac' : Int32} {pa pa' : Nat → Int32} {ns ns' : Int32} {gc gh gc' gh' : Nat → Int32} {nm nm' : Int32} {ma mm rf ma' mm' rf' : Nat → Int32} (h : kR na n nr σ k v sn st ac pa ns gc gh nm ma mm rf) (hna : na ≤ 10) (h0 : ∀ j, (j < 6 ∨ j = 8 ∨ j = 10 ∨ j = 13) → σ' k' j = σ k j) (h1 : ∀ j, j < 10 → σ' (k' + 1) j = σ (k + 1) j) (h2 : ∀ j, j < 10 → σ' (k' + 2) j = σ (k + 2) j) (h3 : ∀ j, j < 1040 → σ' (k' + 3) j = σ (k + 3) j) (h4 : ∀ j, j < 12 → σ' (k' + 4) j = σ (k + 4) j) (h5 : ∀ j, j < 12 → σ' (k' + 5) j = σ (k + 5) j) (h6 : ∀ j, j < 8 → σ' (k' + 6) j = σ (k + 6) j) (h7 : ∀ j, j < 8 → σ' (k' + 7) j = σ (k + 7) j) (h8 : ∀ j, j < 3 → σ' (k' + 8) j = σ (k + 8) j)
    (e0 : ∀ i, i < 6 → v' i = v i) (e1 : ∀ a, a < 10 → sn' a = sn a) (e2 : ∀ a, a < 10 → st' a = st a) (e3 : ac' = ac) (e4 : ∀ j, j < 1040 → pa' j = pa j) (e5 : ns' = ns) (e6 : ∀ j, j < 12 → gc' j = gc j) (e7 : ∀ j, j < 12 → gh' j = gh j) (e8 : nm' = nm) (e9 : ∀ j, j < 8 → ma' j = ma j) (e10 : ∀ j, j < 8 → mm' j = mm j) (e11 : ∀ j, j < 3 → rf' j = rf j) : kR na n nr σ' k' v' sn' st' ac' pa' ns' gc' gh' nm' ma' mm' rf' := by
  subst e3 e5 e8
  obtain ⟨k1, ⟨A, A1, A2, A3, A4⟩, ⟨N, N1, N2, N3, N4⟩, ⟨M, M1, M2, M3, M4⟩, k5⟩ := h
  refine ⟨k1.c (fun i hi => h0 i (by omega)) (fun a ha => h1 a (by omega)) (fun a ha => h2 a (by omega)) e0 (fun a ha => e1 a (by omega)) (fun a ha => e2 a (by omega)), ⟨A, A1, by rw [h0 8 (by omega)]; exact A2, A3, fun t ht => ?_⟩, ⟨N, N1, by rw [h0 10 (by omega)]; exact N2, N3, fun i hi => ?_⟩, ⟨M, M1, by rw [h0 13 (by omega)]; exact M2, M3, fun i hi => ?_⟩, fun i hi => ?_⟩
  · exact (A4 t ht).c (fun i hi => h3 _ (by omega)) (fun a ha => h3 _ (by omega)) (fun a ha => h3 _ (by omega)) (fun i hi => e4 _ (by omega)) (fun a ha => e4 _ (by omega)) (fun a ha => e4 _ (by omega))
  · rw [h4 i (by omega), h5 i (by omega), e6 i (by omega), e7 i (by omega)]; exact N4 i hi
  · rw [h6 i (by omega), h7 i (by omega), e9 i (by omega), e10 i (by omega)]; exact M4 i hi
  · rw [h8 i hi, e11 i hi]; exact k5 i hi
/-- a row, copied (reference) -/
theorem gbe {τ : zS} {a b L : Nat} (ha : ln 1 a = L) (hb : ln 1 b = L) (hL : L < 2 ^ 31) (hab : b ≠ a) : ∃ τ', FX8_be a b τ = some (0, τ') ∧ (∀ k, k ≠ a → τ' k = τ k) ∧ ∀ j, j < L → τ' a j = τ b j := by
  have hs : ∀ (i : Nat) (w : Int32 × zS), i < L → (w.1 = nI i ∧ (∀ k, k ≠ a → w.2 k = τ k) ∧ ∀ j, j < i → w.2 a j = τ b j) → ∃ w', FX8_be_L2 a b w.1 w.2 = some (.inl w') ∧ (w'.1 = nI (i + 1) ∧ (∀ k, k ≠ a → w'.2 k = τ k) ∧ ∀ j, j < i + 1 → w'.2 a j = τ b j) := by
    intro i w hi ⟨q1, q2, q3⟩
    obtain ⟨x, t⟩ := w
    simp only at q1 q2 q3
    subst q1
    refine ⟨(nI (i + 1), zup t a i (τ b i)), ?_, rfl, fun k k1 => (zup_n k1).trans (q2 k k1), fun j hj => ?_⟩
    · show FX8_be_L2 a b (nI i) t = _
      unfold FX8_be_L2
      simp only [ha, hb, if_neg (show ¬ nI L ≤ nI i from nI_ge hi hL), zin_n _ hi hL, nI_clamp (by omega : i < 2 ^ 31), q2 b hab, zlet_eq, nI_1]
    · show zup t a i (τ b i) a j = τ b j
      rw [zup_at]
      by_cases c : j = i
      · rw [if_pos ⟨rfl, c⟩, c]
      · rw [if_neg (fun z => c z.2)]; exact q3 j (by omega)
  obtain ⟨⟨x, t⟩, g1, g2, g3, g4⟩ := zlp_ex (f := fun w : Int32 × zS => FX8_be_L2 a b w.1 w.2) (fun i w => w.1 = nI i ∧ (∀ k, k ≠ a → w.2 k = τ k) ∧ ∀ j, j < i → w.2 a j = τ b j) (n := L) (a := (0, τ)) ⟨rfl, fun _ _ => rfl, fun j hj => by omega⟩ hs
  simp only at g2 g3 g4
  subst g2
  refine ⟨t, ?_, g3, g4⟩
  unfold FX8_be
  rw [zlet_eq, g1]
  refine zlp_end ?_
  show FX8_be_L2 a b (nI L) t = _
  unfold FX8_be_L2 FX8_be_b20
  rw [ha, if_pos (nI_le (Nat.le_refl L) hL)]
  rfl
/-- all that is now, copied (class) -/
theorem fc6 {σ : zS} {a b : Nat} (hab : (a = 15 ∧ b = 6) ∨ (a = 6 ∧ b = 15)) : ∃ σ', FX6_copy a b σ = some (0, σ') ∧ (∀ k, (k < a ∨ a + 8 < k) → σ' k = σ k) ∧ (∀ j, (j < 6 ∨ j = 8 ∨ j = 10 ∨ j = 13) → σ' a j = σ b j) ∧ (∀ j, j < 10 → σ' (a + 1) j = σ (b + 1) j) ∧ (∀ j, j < 10 → σ' (a + 2) j = σ (b + 2) j) ∧ (∀ j, j < 1040 → σ' (a + 3) j = σ (b + 3) j) ∧ (∀ j, j < 12 → σ' (a + 4) j = σ (b + 4) j) ∧ (∀ j, j < 12 → σ' (a + 5) j = σ (b + 5) j) ∧ (∀ j, j < 8 → σ' (a + 6) j = σ (b + 6) j) ∧ (∀ j, j < 8 → σ' (a + 7) j = σ (b + 7) j) ∧ ∀ j, j < 3 → σ' (a + 8) j = σ (b + 8) j := by
  have l1 : ln 0 (b + 1) = 10 ∧ ln 0 (a + 1) = 10 := by rcases hab with ⟨rfl, rfl⟩ | ⟨rfl, rfl⟩ <;> exact ⟨rfl, rfl⟩
  have l2 : ln 0 (b + 2) = 10 ∧ ln 0 (a + 2) = 10 := by rcases hab with ⟨rfl, rfl⟩ | ⟨rfl, rfl⟩ <;> exact ⟨rfl, rfl⟩
  have l3 : ln 0 (b + 3) = 1040 ∧ ln 0 (a + 3) = 1040 := by rcases hab with ⟨rfl, rfl⟩ | ⟨rfl, rfl⟩ <;> exact ⟨rfl, rfl⟩
  have l4 : ln 0 (b + 4) = 12 ∧ ln 0 (a + 4) = 12 := by rcases hab with ⟨rfl, rfl⟩ | ⟨rfl, rfl⟩ <;> exact ⟨rfl, rfl⟩
  have l5 : ln 0 (b + 5) = 12 ∧ ln 0 (a + 5) = 12 := by rcases hab with ⟨rfl, rfl⟩ | ⟨rfl, rfl⟩ <;> exact ⟨rfl, rfl⟩
  have l6 : ln 0 (b + 6) = 8 ∧ ln 0 (a + 6) = 8 := by rcases hab with ⟨rfl, rfl⟩ | ⟨rfl, rfl⟩ <;> exact ⟨rfl, rfl⟩
  have l7 : ln 0 (b + 7) = 8 ∧ ln 0 (a + 7) = 8 := by rcases hab with ⟨rfl, rfl⟩ | ⟨rfl, rfl⟩ <;> exact ⟨rfl, rfl⟩
  have l8 : ln 0 (b + 8) = 3 ∧ ln 0 (a + 8) = 3 := by rcases hab with ⟨rfl, rfl⟩ | ⟨rfl, rfl⟩ <;> exact ⟨rfl, rfl⟩
  have far : ∀ i j, i ≤ 8 → j ≤ 8 → b + i ≠ a + j := fun i j _ _ => by omega
  unfold FX6_copy
  -- the fields
  have s0 : ∃ s : zS, (zup (zup (zup (zup (zup (zup σ a 0 (σ b 0)) a 1 (σ b 1)) a 2 (σ b 2)) a 3 (σ b 3)) a 4 (σ b 4)) a 5 (σ b 5)) = s := ⟨_, rfl⟩
  obtain ⟨s, hs⟩ := s0
  have nb : b ≠ a := far 0 0 (by decide) (by decide)
  simp only [zlet_eq, zup_n nb, hs]
  have hk : ∀ k, k ≠ a → s k = σ k := fun k hk => by rw [← hs, zup_n hk, zup_n hk, zup_n hk, zup_n hk, zup_n hk, zup_n hk]
  have h6 : ∀ j, j < 6 → s a j = σ b j := by
    intro i hi
    rw [← hs]
    rcases (by omega : i = 0 ∨ i = 1 ∨ i = 2 ∨ i = 3 ∨ i = 4 ∨ i = 5) with z | z | z | z | z | z <;> subst z <;> simp [zup_at]
  clear hs
  have step : ∀ {t : zS} (i L : Nat), ln 0 (b + i) = L → ln 0 (a + i) = L → L < 2 ^ 31 → ∃ t', FX7_copyRow (b + i) (a + i) t = some (0, t') ∧ (∀ k, k ≠ a + i → t' k = t k) ∧ ∀ j, j < L → t' (a + i) j = t (b + i) j := by
    intro t i L e1 e2 e3
    exact ⟨_, fcpy e1 e2 e3, fun k hk => zrow_n hk, fun j hj => by rw [zrow_s, sb_cpy0 hj]⟩
  obtain ⟨t1, a1, b1, c1⟩ := step (t := s) 1 10 l1.1 l1.2 (by decide)
  rw [a1, zbd_s]
  obtain ⟨t2, a2, b2, c2⟩ := step (t := t1) 2 10 l2.1 l2.2 (by decide)
  rw [a2, zbd_s]
  generalize hu3 : zup t2 a 8 (t2 b 8) = u3
  obtain ⟨t3, a3, b3, c3⟩ := step (t := u3) 3 1040 l3.1 l3.2 (by decide)
  rw [a3, zbd_s]
  generalize hu4 : zup t3 a 10 (t3 b 10) = u4
  obtain ⟨t4, a4, b4, c4⟩ := step (t := u4) 4 12 l4.1 l4.2 (by decide)
  rw [a4, zbd_s]
  obtain ⟨t5, a5, b5, c5⟩ := step (t := t4) 5 12 l5.1 l5.2 (by decide)
  rw [a5, zbd_s]
  generalize hu6 : zup t5 a 13 (t5 b 13) = u6
  obtain ⟨t6, a6, b6, c6⟩ := step (t := u6) 6 8 l6.1 l6.2 (by decide)
  rw [a6, zbd_s]
  obtain ⟨t7, a7, b7, c7⟩ := step (t := t6) 7 8 l7.1 l7.2 (by decide)
  rw [a7, zbd_s]
  obtain ⟨t8, a8, b8, c8⟩ := step (t := t7) 8 3 l8.1 l8.2 (by decide)
  rw [a8, zbd_s]
  have d3 : ∀ k, k ≠ a → u3 k = t2 k := fun k hk => by rw [← hu3, zup_n hk]
  have d4 : ∀ k, k ≠ a → u4 k = t3 k := fun k hk => by rw [← hu4, zup_n hk]
  have d6 : ∀ k, k ≠ a → u6 k = t5 k := fun k hk => by rw [← hu6, zup_n hk]
  have bb : ∀ i, i ≤ 8 → t1 (b + i) = σ (b + i) ∧ t2 (b + i) = σ (b + i) ∧ u3 (b + i) = σ (b + i) ∧ t3 (b + i) = σ (b + i) ∧ u4 (b + i) = σ (b + i) ∧ t4 (b + i) = σ (b + i) ∧ t5 (b + i) = σ (b + i) ∧ u6 (b + i) = σ (b + i) ∧ t6 (b + i) = σ (b + i) ∧ t7 (b + i) = σ (b + i) := by
    intro i hi
    have f := far i
    have x0 := hk (b + i) (f 0 hi (by decide))
    have x1 := (b1 (b + i) (f 1 hi (by decide))).trans x0
    have x2 := (b2 (b + i) (f 2 hi (by decide))).trans x1
    have y3 := (d3 (b + i) (f 0 hi (by decide))).trans x2
    have x3 := (b3 (b + i) (f 3 hi (by decide))).trans y3
    have y4 := (d4 (b + i) (f 0 hi (by decide))).trans x3
    have x4 := (b4 (b + i) (f 4 hi (by decide))).trans y4
    have x5 := (b5 (b + i) (f 5 hi (by decide))).trans x4
    have y6 := (d6 (b + i) (f 0 hi (by decide))).trans x5
    have x6 := (b6 (b + i) (f 6 hi (by decide))).trans y6
    have x7 := (b7 (b + i) (f 7 hi (by decide))).trans x6
    exact ⟨x1, x2, y3, x3, y4, x4, x5, y6, x6, x7⟩
  refine ⟨t8, rfl, fun k hk' => ?_, fun j hj => ?_, fun j hj => ?_, fun j hj => ?_, fun j hj => ?_, fun j hj => ?_, fun j hj => ?_, fun j hj => ?_, fun j hj => ?_, fun j hj => ?_⟩
  · rw [b8 k (by omega), b7 k (by omega), b6 k (by omega), d6 k (by omega), b5 k (by omega), b4 k (by omega), d4 k (by omega), b3 k (by omega), d3 k (by omega), b2 k (by omega), b1 k (by omega), hk k (by omega)]
  · rw [b8 a (by omega), b7 a (by omega), b6 a (by omega), ← hu6]
    have y8 : u3 a 8 = σ b 8 := by rw [← hu3, zup_at, if_pos ⟨rfl, rfl⟩]; exact congrFun (bb 0 (by decide)).2.1 8
    have y10 : u4 a 10 = σ b 10 := by rw [← hu4, zup_at, if_pos ⟨rfl, rfl⟩]; exact congrFun (bb 0 (by decide)).2.2.2.1 10
    rw [zup_at]
    by_cases c : j = 13
    · subst c
      rw [if_pos ⟨rfl, rfl⟩]; exact congrFun (bb 0 (by decide)).2.2.2.2.2.2.1 13
    rw [if_neg (by omega), b5 a (by omega), b4 a (by omega)]
    by_cases c10 : j = 10
    · subst c10; exact y10
    rw [← hu4, zup_at, if_neg (by omega), b3 a (by omega)]
    by_cases c8 : j = 8
    · subst c8; exact y8
    rw [← hu3, zup_at, if_neg (by omega), b2 a (by omega), b1 a (by omega)]
    exact h6 j (by omega)
  · rw [b8 _ (by omega), b7 _ (by omega), b6 _ (by omega), d6 _ (by omega), b5 _ (by omega), b4 _ (by omega), d4 _ (by omega), b3 _ (by omega), d3 _ (by omega), b2 _ (by omega), c1 j hj, hk _ (far 1 0 (by decide) (by decide))]
  · rw [b8 _ (by omega), b7 _ (by omega), b6 _ (by omega), d6 _ (by omega), b5 _ (by omega), b4 _ (by omega), d4 _ (by omega), b3 _ (by omega), d3 _ (by omega), c2 j hj, (bb 2 (by decide)).1]
  · rw [b8 _ (by omega), b7 _ (by omega), b6 _ (by omega), d6 _ (by omega), b5 _ (by omega), b4 _ (by omega), d4 _ (by omega), c3 j hj, (bb 3 (by decide)).2.2.1]
  · rw [b8 _ (by omega), b7 _ (by omega), b6 _ (by omega), d6 _ (by omega), b5 _ (by omega), c4 j hj, (bb 4 (by decide)).2.2.2.2.1]
  · rw [b8 _ (by omega), b7 _ (by omega), b6 _ (by omega), d6 _ (by omega), c5 j hj, (bb 5 (by decide)).2.2.2.2.2.1]
  · rw [b8 _ (by omega), b7 _ (by omega), c6 j hj, (bb 6 (by decide)).2.2.2.2.2.2.2.1]
  · rw [b8 _ (by omega), c7 j hj, (bb 7 (by decide)).2.2.2.2.2.2.2.2.1]
  · rw [c8 j hj, (bb 8 (by decide)).2.2.2.2.2.2.2.2.2]
/-- the frame of an image -/
theorem RQ.pi {σ σ' τ τ' : zS} {q na n nr : Nat} (h : RQ σ τ q na n nr) (f : ∀ k j, (k < 15 ∨ 23 < k) → ¬ (k = 0 ∧ j = 6) → σ' k j = σ k j) (g : ∀ k j, (k < 34 ∨ 40 < k) → ¬ (k = 0 ∧ (j = 2 ∨ (72 ≤ j ∧ j ≤ 75))) → τ' k j = τ k j) (hP : rPi σ' τ' na n nr) : RQ σ' τ' q na n nr := by
  obtain ⟨h1, h2, h3, h4, -, h6, h7⟩ := h
  have f0 : ∀ j, j ≠ 6 → σ' 0 j = σ 0 j := fun j hj => f 0 j (by omega) (by omega)
  have fr : ∀ k, k ≠ 0 → (k < 15 ∨ 23 < k) → σ' k = σ k := fun k h0 hk => funext fun j => f k j hk (by omega)
  have hq := h2.1
  have fs : ss q σ' = ss q σ := by
    funext i j
    unfold ss
    split
    · rfl
    · exact f _ _ (by omega) (by omega)
  have g0 : ∀ j, (j ≠ 2 ∧ ¬ (72 ≤ j ∧ j ≤ 75)) → τ' 0 j = τ 0 j := fun j hj => g 0 j (by omega) (by omega)
  have gr : ∀ k, k ≠ 0 → (k < 34 ∨ 40 < k) → τ' k = τ k := fun k k0 k1 => funext fun j => g k j k1 (by omega)
  refine ⟨?_, ?_, ?_, ?_, hP, ?_, ?_⟩
  · unfold rTp at *
    rw [f0 0 (by decide), f0 1 (by decide), fr 5 (by decide) (by decide), g0 18 (by decide), g0 27 (by decide), gr 17 (by decide) (by decide)]
    exact h1
  · unfold rPt at *
    rw [f0 2 (by decide), fr 4 (by decide) (by decide)]
    exact h2
  · rw [fs]
    unfold rSh rS rP rF rR at *
    rw [gr 3 (by decide) (by decide), gr 4 (by decide) (by decide), gr 6 (by decide) (by decide), gr 8 (by decide) (by decide), gr 9 (by decide) (by decide), gr 10 (by decide) (by decide), gr 11 (by decide) (by decide), gr 12 (by decide) (by decide), gr 13 (by decide) (by decide), gr 14 (by decide) (by decide), gr 15 (by decide) (by decide), gr 18 (by decide) (by decide)]
    exact h3
  · unfold rNw at *
    have hh := h4.x (σ' := σ') (fun i hi => fr _ (by omega) (by omega))
    have e0 : ∀ j, 29 ≤ j → j ≤ 37 → τ' 0 j = τ 0 j := fun j a b => g0 j (by omega)
    exact hh.cp h3.1.1.1 (fun _ _ => rfl) (fun _ _ => rfl) (fun _ _ => rfl) (fun _ _ => rfl) (fun _ _ => rfl) (fun _ _ => rfl) (fun _ _ => rfl) (fun _ _ => rfl) (fun _ _ => rfl) (fun i hi => e0 _ (by omega) (by omega)) (fun a _ => by rw [gr 7 (by decide) (by decide)]) (fun a _ => by rw [gr 5 (by decide) (by decide)]) (e0 35 (by decide) (by decide)) (fun a _ => by rw [gr 19 (by decide) (by decide)]) (e0 36 (by decide) (by decide)) (fun a _ => by rw [gr 29 (by decide) (by decide)]) (fun a _ => by rw [gr 30 (by decide) (by decide)]) (e0 37 (by decide) (by decide)) (fun a _ => by rw [gr 31 (by decide) (by decide)]) (fun a _ => by rw [gr 32 (by decide) (by decide)]) (fun a _ => by rw [gr 16 (by decide) (by decide)])
  · exact h6.x hq (f0 9 (by decide)) fs (fun j hj => by rw [fr 6 (by decide) (by decide)]) (fr 7 (by decide) (by decide)) (fr 8 (by decide) (by decide)) (fun k k1 k2 => fr _ (by omega) (by omega))
  · unfold rLd at *
    rw [f0 12 (by decide), fr 2 (by decide) (by decide), g0 65 (by decide), gr 28 (by decide) (by decide)]
    exact h7
theorem rel_image {σ τ : zS} (h : RR σ τ) : relI (FX7_image 0 σ) (FX8_image 0 τ) := by
  have h0 := h.code 0
  obtain ⟨q, na, n, nr, h⟩ := h0
  unfold FX7_image FX8_image
  rw [zlet_eq]
  generalize zup τ 0 2 0 = t at *
  obtain ⟨s, u1, u2, u3, u4, u5, u6, u7, u8, u9, u10, u11⟩ := fc6 (σ := σ) (a := 15) (b := 6) (Or.inl ⟨rfl, rfl⟩)
  rw [show (0 + 15 : Nat) = 15 from rfl, show (0 + 6 : Nat) = 6 from rfl, u1, zbd_s, zlet_eq]
  rw [zlet_eq, zlet_eq, zlet_eq, zlet_eq]
  generalize e : zup (zup (zup (zup t 0 72 1) 0 73 (zup t 0 72 1 0 35)) 0 74 (zup (zup t 0 72 1) 0 73 (zup t 0 72 1 0 35) 0 36)) 0 75 (zup (zup (zup t 0 72 1) 0 73 (zup t 0 72 1 0 35)) 0 74 (zup (zup t 0 72 1) 0 73 (zup t 0 72 1 0 35) 0 36) 0 37) = w
  have w0 : ∀ k, k ≠ 0 → w k = t k := fun k hk => by rw [← e, zup_n hk, zup_n hk, zup_n hk, zup_n hk]
  have w1 : ∀ j, ¬ (72 ≤ j ∧ j ≤ 75) → w 0 j = t 0 j := fun j hj => by rw [← e, zup_at, if_neg (by omega), zup_at, if_neg (by omega), zup_at, if_neg (by omega), zup_at, if_neg (by omega)]
  have w2 : w 0 72 = 1 ∧ w 0 73 = t 0 35 ∧ w 0 74 = t 0 36 ∧ w 0 75 = t 0 37 := by
    rw [← e]; refine ⟨?_, ?_, ?_, ?_⟩ <;> simp [zup_at]
  clear e
  obtain ⟨v1, p1, p2, p3, p4, -⟩ := gpk (τ := w) (k1 := 34) (b := 0) (L := 26) rfl (by decide) (by decide) (by decide)
  rw [show (0 + 34 : Nat) = 34 from rfl, show (0 : Int32) = nI 0 from rfl, p1, zbd_s]
  obtain ⟨v2, b1, c1, d1⟩ := gbe (τ := v1) (a := 35) (b := 19) (L := 1040) rfl rfl (by decide) (by decide)
  rw [show (0 + 35 : Nat) = 35 from rfl, show (0 + 19 : Nat) = 19 from rfl, b1, zbd_s]
  obtain ⟨v3, b2, c2, d2⟩ := gbe (τ := v2) (a := 36) (b := 29) (L := 12) rfl rfl (by decide) (by decide)
  rw [show (0 + 36 : Nat) = 36 from rfl, show (0 + 29 : Nat) = 29 from rfl, b2, zbd_s]
  obtain ⟨v4, b3, c3, d3⟩ := gbe (τ := v3) (a := 37) (b := 30) (L := 12) rfl rfl (by decide) (by decide)
  rw [show (0 + 37 : Nat) = 37 from rfl, show (0 + 30 : Nat) = 30 from rfl, b3, zbd_s]
  obtain ⟨v5, b4, c4, d4⟩ := gbe (τ := v4) (a := 38) (b := 31) (L := 8) rfl rfl (by decide) (by decide)
  rw [show (0 + 38 : Nat) = 38 from rfl, show (0 + 31 : Nat) = 31 from rfl, b4, zbd_s]
  obtain ⟨v6, b5, c5, d5⟩ := gbe (τ := v5) (a := 39) (b := 32) (L := 8) rfl rfl (by decide) (by decide)
  rw [show (0 + 39 : Nat) = 39 from rfl, show (0 + 32 : Nat) = 32 from rfl, b5, zbd_s]
  obtain ⟨v7, b6, c6, d6⟩ := gbe (τ := v6) (a := 40) (b := 16) (L := 3) rfl rfl (by decide) (by decide)
  rw [show (0 + 40 : Nat) = 40 from rfl, show (0 + 16 : Nat) = 16 from rfl, b6, zbd_s]
  have k7 : ∀ k, (k < 34 ∨ 40 < k) → v7 k = w k := fun k hk => by rw [c6 k (by omega), c5 k (by omega), c4 k (by omega), c3 k (by omega), c2 k (by omega), c1 k (by omega), p2 k (by omega)]
  refine ⟨nI 0, _, _, rfl, rfl, q, na, n, nr, h.pi (fun k j k1 k2 => ?_) (fun k j k1 k2 => ?_) (Or.inr ⟨by rw [zup_at, if_pos ⟨rfl, rfl⟩], by rw [k7 0 (by decide)]; exact w2.1, ?_⟩)⟩
  · rw [zup_at, if_neg (by omega), u2 k (by omega)]
  · rw [k7 k k1]
    by_cases c : k = 0
    · subst c; exact w1 j (by omega)
    · rw [w0 k c]
  · have e0 : ∀ k, k ≠ 0 → zup s 0 6 1 k = s k := fun k hk => zup_n hk
    have g34 : v7 34 = v1 34 := by rw [c6 _ (by decide), c5 _ (by decide), c4 _ (by decide), c3 _ (by decide), c2 _ (by decide), c1 _ (by decide)]
    refine h.2.2.2.1.cp h.2.2.1.1.1.1 (fun j hj => by rw [e0 15 (by decide)]; exact u3 j hj) (fun j hj => by rw [e0 (15 + 1) (by decide)]; exact u4 j hj) (fun j hj => by rw [e0 (15 + 2) (by decide)]; exact u5 j hj) (fun j hj => by rw [e0 (15 + 3) (by decide)]; exact u6 j hj) (fun j hj => by rw [e0 (15 + 4) (by decide)]; exact u7 j hj) (fun j hj => by rw [e0 (15 + 5) (by decide)]; exact u8 j hj) (fun j hj => by rw [e0 (15 + 6) (by decide)]; exact u9 j hj) (fun j hj => by rw [e0 (15 + 7) (by decide)]; exact u10 j hj) (fun j hj => by rw [e0 (15 + 8) (by decide)]; exact u11 j hj) (fun i hi => ?_) (fun a ha => ?_) (fun a ha => ?_) (by rw [k7 0 (by decide)]; exact w2.2.1) (fun j hj => ?_) (by rw [k7 0 (by decide)]; exact w2.2.2.1) (fun j hj => ?_) (fun j hj => ?_) (by rw [k7 0 (by decide)]; exact w2.2.2.2) (fun j hj => ?_) (fun j hj => ?_) (fun j hj => ?_)
    · rw [g34, show i = 0 + i from by omega, p3 i hi, w1 _ (by omega), Nat.zero_add]
    · rw [g34, show 6 + a = 0 + 6 + a from by omega, (p4 a ha).1, w0 7 (by decide)]
    · rw [g34, show 16 + a = 0 + 16 + a from by omega, (p4 a ha).2, w0 5 (by decide)]
    · rw [c6 _ (by decide), c5 _ (by decide), c4 _ (by decide), c3 _ (by decide), c2 _ (by decide), d1 j hj, p2 _ (by decide), w0 _ (by decide)]
    · rw [c6 _ (by decide), c5 _ (by decide), c4 _ (by decide), c3 _ (by decide), d2 j hj, c1 _ (by decide), p2 _ (by decide), w0 _ (by decide)]
    · rw [c6 _ (by decide), c5 _ (by decide), c4 _ (by decide), d3 j hj, c2 _ (by decide), c1 _ (by decide), p2 _ (by decide), w0 _ (by decide)]
    · rw [c6 _ (by decide), c5 _ (by decide), d4 j hj, c3 _ (by decide), c2 _ (by decide), c1 _ (by decide), p2 _ (by decide), w0 _ (by decide)]
    · rw [c6 _ (by decide), d5 j hj, c4 _ (by decide), c3 _ (by decide), c2 _ (by decide), c1 _ (by decide), p2 _ (by decide), w0 _ (by decide)]
    · rw [d6 j hj, c5 _ (by decide), c4 _ (by decide), c3 _ (by decide), c2 _ (by decide), c1 _ (by decide), p2 _ (by decide), w0 _ (by decide)]
theorem rel_restore {σ τ : zS} (h : RR σ τ) : relI (FX7_restore 0 σ) (FX8_restore 0 τ) := by
  have h0 := h.code 0
  obtain ⟨q, na, n, nr, h⟩ := h0
  unfold FX7_restore FX8_restore
  rw [zlet_eq]
  generalize zup τ 0 2 0 = t at *
  rcases id h.2.2.2.2.1 with ⟨i1, i2⟩ | ⟨i1, i2, i3⟩
  · rw [if_pos i1, if_pos i2]
    exact ⟨0, _, _, rfl, rfl, q, na, n, nr, h⟩
  rw [if_neg (by rw [i1]; decide), if_neg (by rw [i2]; decide)]
  obtain ⟨s, u1, u2, u3, u4, u5, u6, u7, u8, u9, u10, u11⟩ := fc6 (σ := σ) (a := 6) (b := 15) (Or.inr ⟨rfl, rfl⟩)
  rw [show (0 + 15 : Nat) = 15 from rfl, show (0 + 6 : Nat) = 6 from rfl, u1, zbd_s, zlet_eq]
  rw [zlet_eq, zlet_eq, zlet_eq]
  generalize e : zup (zup (zup t 0 35 (t 0 73)) 0 36 (zup t 0 35 (t 0 73) 0 74)) 0 37 (zup (zup t 0 35 (t 0 73)) 0 36 (zup t 0 35 (t 0 73) 0 74) 0 75) = w
  have w0 : ∀ k, k ≠ 0 → w k = t k := fun k hk => by rw [← e, zup_n hk, zup_n hk, zup_n hk]
  have w1 : ∀ j, ¬ (35 ≤ j ∧ j ≤ 37) → w 0 j = t 0 j := fun j hj => by rw [← e, zup_at, if_neg (by omega), zup_at, if_neg (by omega), zup_at, if_neg (by omega)]
  have w2 : w 0 35 = t 0 73 ∧ w 0 36 = t 0 74 ∧ w 0 37 = t 0 75 := by
    rw [← e]; refine ⟨?_, ?_, ?_⟩ <;> simp [zup_at]
  clear e
  obtain ⟨v1, p1, p2, p3, p5, p4⟩ := gup (τ := w) (k1 := 34) (b := 0) (L := 26) rfl (by decide) (by decide) (by decide)
  rw [show (0 + 34 : Nat) = 34 from rfl, show FX8_unpack 0 34 0 w = some (0, v1) from p1, zbd_s]
  obtain ⟨v2, b1, c1, d1⟩ := gbe (τ := v1) (a := 19) (b := 35) (L := 1040) rfl rfl (by decide) (by decide)
  rw [show (0 + 35 : Nat) = 35 from rfl, show (0 + 19 : Nat) = 19 from rfl, b1, zbd_s]
  obtain ⟨v3, b2, c2, d2⟩ := gbe (τ := v2) (a := 29) (b := 36) (L := 12) rfl rfl (by decide) (by decide)
  rw [show (0 + 36 : Nat) = 36 from rfl, show (0 + 29 : Nat) = 29 from rfl, b2, zbd_s]
  obtain ⟨v4, b3, c3, d3⟩ := gbe (τ := v3) (a := 30) (b := 37) (L := 12) rfl rfl (by decide) (by decide)
  rw [show (0 + 37 : Nat) = 37 from rfl, show (0 + 30 : Nat) = 30 from rfl, b3, zbd_s]
  obtain ⟨v5, b4, c4, d4⟩ := gbe (τ := v4) (a := 31) (b := 38) (L := 8) rfl rfl (by decide) (by decide)
  rw [show (0 + 38 : Nat) = 38 from rfl, show (0 + 31 : Nat) = 31 from rfl, b4, zbd_s]
  obtain ⟨v6, b5, c5, d5⟩ := gbe (τ := v5) (a := 32) (b := 39) (L := 8) rfl rfl (by decide) (by decide)
  rw [show (0 + 39 : Nat) = 39 from rfl, show (0 + 32 : Nat) = 32 from rfl, b5, zbd_s]
  obtain ⟨v7, b6, c6, d6⟩ := gbe (τ := v6) (a := 16) (b := 40) (L := 3) rfl rfl (by decide) (by decide)
  rw [show (0 + 40 : Nat) = 40 from rfl, show (0 + 16 : Nat) = 16 from rfl, b6, zbd_s]
  have k7 : ∀ k, k ≠ 19 → k ≠ 29 → k ≠ 30 → k ≠ 31 → k ≠ 32 → k ≠ 16 → v7 k = v1 k := fun k _ _ _ _ _ _ => by rw [c6 k (by omega), c5 k (by omega), c4 k (by omega), c3 k (by omega), c2 k (by omega), c1 k (by omega)]
  have z7 : v7 0 = v1 0 := k7 0 (by decide) (by decide) (by decide) (by decide) (by decide) (by decide)
  have hf : Fn σ (zup s 0 9 0) := fun k j k1 k2 => by rw [zup_at, if_neg (by omega), u2 k (by omega)]
  have hg : Gn t v7 := by
    intro k j k1 k2 k3
    rw [k7 k (by omega) (by omega) (by omega) (by omega) (by omega) (by omega)]
    by_cases c : k = 0
    · subst c; rw [p5 j (by omega), w1 j (by omega)]
    · rw [p2 k c (by omega) (by omega), w0 k c]
  refine ⟨1, _, _, rfl, rfl, q, na, n, nr, h.now hf hg ?_ (rTd.z (by rw [zup_at, if_pos ⟨rfl, rfl⟩]))⟩
  have e0 : ∀ k, k ≠ 0 → zup s 0 9 0 k = s k := fun k hk => zup_n hk
  refine i3.cp (k := 15) (k' := 6) h.2.2.1.1.1.1 (fun j hj => by rw [e0 6 (by decide)]; exact u3 j hj) (fun j hj => by rw [e0 (6 + 1) (by decide)]; exact u4 j hj) (fun j hj => by rw [e0 (6 + 2) (by decide)]; exact u5 j hj) (fun j hj => by rw [e0 (6 + 3) (by decide)]; exact u6 j hj) (fun j hj => by rw [e0 (6 + 4) (by decide)]; exact u7 j hj) (fun j hj => by rw [e0 (6 + 5) (by decide)]; exact u8 j hj) (fun j hj => by rw [e0 (6 + 6) (by decide)]; exact u9 j hj) (fun j hj => by rw [e0 (6 + 7) (by decide)]; exact u10 j hj) (fun j hj => by rw [e0 (6 + 8) (by decide)]; exact u11 j hj) (fun i hi => ?_) (fun a ha => ?_) (fun a ha => ?_) (by rw [z7, p5 35 (by decide)]; exact w2.1) (fun j hj => ?_) (by rw [z7, p5 36 (by decide)]; exact w2.2.1) (fun j hj => ?_) (fun j hj => ?_) (by rw [z7, p5 37 (by decide)]; exact w2.2.2) (fun j hj => ?_) (fun j hj => ?_) (fun j hj => ?_)
  · rw [z7, p3 i hi, w0 34 (by decide), Nat.zero_add]
  · rw [k7 7 (by decide) (by decide) (by decide) (by decide) (by decide) (by decide), (p4 a ha).1, w0 34 (by decide), Nat.zero_add]
  · rw [k7 5 (by decide) (by decide) (by decide) (by decide) (by decide) (by decide), (p4 a ha).2, w0 34 (by decide), Nat.zero_add]
  · rw [c6 _ (by decide), c5 _ (by decide), c4 _ (by decide), c3 _ (by decide), c2 _ (by decide), d1 j hj, p2 _ (by decide) (by decide) (by decide), w0 _ (by decide)]
  · rw [c6 _ (by decide), c5 _ (by decide), c4 _ (by decide), c3 _ (by decide), d2 j hj, c1 _ (by decide), p2 _ (by decide) (by decide) (by decide), w0 _ (by decide)]
  · rw [c6 _ (by decide), c5 _ (by decide), c4 _ (by decide), d3 j hj, c2 _ (by decide), c1 _ (by decide), p2 _ (by decide) (by decide) (by decide), w0 _ (by decide)]
  · rw [c6 _ (by decide), c5 _ (by decide), d4 j hj, c3 _ (by decide), c2 _ (by decide), c1 _ (by decide), p2 _ (by decide) (by decide) (by decide), w0 _ (by decide)]
  · rw [c6 _ (by decide), d5 j hj, c4 _ (by decide), c3 _ (by decide), c2 _ (by decide), c1 _ (by decide), p2 _ (by decide) (by decide) (by decide), w0 _ (by decide)]
  · rw [d6 j hj, c5 _ (by decide), c4 _ (by decide), c3 _ (by decide), c2 _ (by decide), c1 _ (by decide), p2 _ (by decide) (by decide) (by decide), w0 _ (by decide)]
