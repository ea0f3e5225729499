/-! shop -/
/-- the answer of shop: the class's IllegalArgumentException (2) is the reference's 1 -/
def relS (c : Option zT3) (m : Option (Int32 × zS)) : Prop := ∃ k r σ' b τ', c = some (k, r, σ') ∧ m = some (b, τ') ∧ RR σ' τ' ∧ ((k = 0 ∧ τ' 0 2 = 0 ∧ r = b) ∨ (k = 2 ∧ τ' 0 2 = 1))
theorem mB_n {S : zS} {r b : Nat} (h : S 15 r = nI b) (hb : b < 2 ^ 31) : mB S r = b := by unfold mB; rw [h, nI_clamp hb]
/-- a shop that has been told whole -/
theorem shNew {f : Nat → Int32} {N qt : Nat} {s0 t0 s t S T : zS} {v : Nat → Nat} {d : Int32} {p ns : Nat} (he : en f N qt s0 t0) (hA : sA f N qt s0 t0 v d p ns s t) (hS : ∀ k, qt ≤ k → k < qt + 18 → k ≠ qt + 6 → S k = s k) (hM : mM S qt (v 0) (dst (fun x y => bt (s (qt + 4) x) y) (v 0))) (y3 : ∀ j, j < 9 → T 3 j = t 3 (9 + j)) (y4 : ∀ k j, 4 ≤ k → k ≤ 7 → j < 10 → T k j = t k (10 + j)) (y8 : ∀ k j, 8 ≤ k → k ≤ 12 → j < 8 → T k j = t k (8 + j)) (y13 : ∀ j, j < 96 → T 13 j = t 13 (96 + j)) (y14 : ∀ j, j < 4 → T 14 j = t 14 (4 + j)) (y15 : ∀ j, j < 700 → T 15 j = t 15 (700 + j)) (y18 : ∀ a b, a < v 0 → b < v 0 → T 18 (10 * a + b) = if dst (fun x y => bt (s (qt + 4) x) y) (v 0) a b = 99 then -1 else nI (dst (fun x y => bt (s (qt + 4) x) y) (v 0) a b)) : rSh T (ss qt S) (v 0) (v 3) (v 4) := by
  obtain ⟨n7, hq, -⟩ := he
  obtain ⟨h1, h2, h3, h4, h5, h6, h7⟩ := hA
  have hb := tB_b (f := f) h1.2.2.2.1
  obtain ⟨⟨b1, ⟨c1, c2, c3, c4, c5, c6⟩, d1, d2, d3, d4, d5, d6⟩, ⟨g1, g2, g3, g4, g5⟩, ⟨a1, a2⟩, hP, ⟨q1, q2⟩, -⟩ := h6
  have sr : ∀ i, i < 17 → i ≠ 14 → i ≠ 6 → ss qt S i = s (qt + i) := fun i hi h14 h66 => by rw [ss_i hi h14]; exact hS _ (by omega) (by omega) (by omega)
  have s14 : ∀ j, j ≠ 5 → ss qt S 14 j = s (qt + 14) j := fun j hj => by rw [ss_14 hj, hS _ (by omega) (by omega) (by omega)]
  have s6 : ss qt S 6 = S (qt + 6) := ss_i (by decide) (by decide)
  have s0' : ss qt S 0 = s qt := sr 0 (by decide) (by decide) (by decide)
  refine ⟨⟨⟨b1.1, ?_, ?_⟩, ⟨b1.2.2.2.1, ?_, ?_⟩, ⟨b1.2.2.2.2, ?_, ?_⟩, ⟨?_, ?_, ?_, ?_, ?_⟩, fun a ha => ⟨?_, ?_⟩, fun p hp => ?_, ⟨dst (fun x y => bt (s (qt + 4) x) y) (v 0), fun a b ha hb => ?_⟩, fun r hr => ?_⟩, ?_, ?_, fun a ha => ?_⟩
  · rw [sr 1 (by decide) (by decide) (by decide)]; exact c1
  · rw [y3 0 (by decide)]; exact d1
  · rw [sr 7 (by decide) (by decide) (by decide)]; exact c4
  · rw [y3 3 (by decide)]; exact d4
  · rw [s14 0 (by decide)]; exact c5
  · rw [y3 4 (by decide)]; exact d5
  · rw [y3 5 (by decide), s0']; exact g2.symm
  · rw [y3 6 (by decide), s0']; exact g4.symm
  · rw [y3 7 (by decide), s0']; exact g5.symm
  · rw [y3 1 (by decide), sr 1 (by decide) (by decide) (by decide)]; exact d2.trans c2.symm
  · rw [y3 2 (by decide), sr 1 (by decide) (by decide) (by decide)]; exact d3.trans c3.symm
  · rw [y4 4 a (by decide) (by decide) (by omega), sr 2 (by decide) (by decide) (by decide)]; exact (a1 a ha).1.symm
  · rw [y4 6 a (by decide) (by decide) (by omega), sr 4 (by decide) (by decide) (by decide)]; exact (a1 a ha).2.2.2.2.1.symm
  · obtain ⟨c, k, l, ⟨e1, e2, e3, e4, e5⟩, ⟨e6, e7, e8⟩, ⟨e9, e10, e11, e12, e13⟩, e14⟩ := hP p hp
    refine ⟨c, k, l, ?_, ?_, ?_, ?_, ?_, ?_, ?_, ?_, e9, e10, e11, e12, e13, fun i hi => ?_⟩
    · rw [y8 8 p (by decide) (by decide) (by omega), sr 8 (by decide) (by decide) (by decide)]; exact e1.symm
    · rw [y8 9 p (by decide) (by decide) (by omega), sr 9 (by decide) (by decide) (by decide)]; exact e2.symm
    · rw [y8 10 p (by decide) (by decide) (by omega), sr 10 (by decide) (by decide) (by decide)]; exact e3.symm
    · rw [y8 11 p (by decide) (by decide) (by omega), sr 11 (by decide) (by decide) (by decide)]; exact e4.symm
    · rw [y8 12 p (by decide) (by decide) (by omega), sr 12 (by decide) (by decide) (by decide)]; exact e5.symm
    · rw [sr 9 (by decide) (by decide) (by decide)]; exact e6
    · rw [sr 10 (by decide) (by decide) (by decide)]; exact e7
    · rw [sr 12 (by decide) (by decide) (by decide)]; exact e8
    · rw [y13 _ (by omega), sr 13 (by decide) (by decide) (by decide)]; exact e14 i hi
  · refine ⟨by rw [s6]; exact hM a b ha hb, y18 a b ha hb, ?_, fun g hg hE => ?_⟩
    · rcases dst_9 (E := fun x y => bt (s (qt + 4) x) y) ha hb with z | z
      · exact Or.inl (by omega)
      · exact Or.inr z
    · rw [sr 4 (by decide) (by decide) (by decide)] at hE
      exact dst_n (E := fun x y => bt (s (qt + 4) x) y) hb hE
  · obtain ⟨a, b, r1, r2, r3, r4, r5, r6, hh, r7⟩ := q2 r hr
    have e15 := sr 15 (by decide) (by decide) (by decide)
    have e16 := sr 16 (by decide) (by decide) (by decide)
    have hB : mB (ss qt S) r = b := mB_n (by rw [e15]; exact r5) (by omega)
    have hAA : mA (ss qt S) r = a := by
      unfold mA
      by_cases c : r = 0
      · rw [if_pos c]; exact (r3 c).symm
      · rw [if_neg c, e15, (r4 (by omega)).1, nI_clamp (by omega)]
    refine ⟨⟨by omega, fun h0 => ?_, ?_, ?_, ?_⟩, ?_, fun h0 => ?_, fun i hi1 hi2 => ?_, hh, ?_⟩
    · rw [hAA, e15]; exact (r4 h0).1
    · rw [hB, e15]; exact r5
    · rw [hB, hAA]; exact r1
    · rw [hB]; omega
    · rw [y14 r (by omega), e15, r6, r5]
    · rw [y14 _ (by omega), e15, (r4 h0).1]; exact (r4 h0).2
    · rw [hB] at hi2
      rw [e16, y15 i (by omega)]
      exact q1 i (by omega)
    · rw [hB, hAA, e16]; exact r7
  · rw [s0']; exact g1
  · rw [s0']; exact g3
  · rw [sr 2 (by decide) (by decide) (by decide)]; exact (a1 a ha).2.1
theorem rel_shop {σ τ : zS} (h : RR σ τ) (x : Int32) : relS (FX7_shop 0 x σ) (FX8_shop 0 x τ) := by
  obtain ⟨q, na, n, nr, h⟩ := h
  have h0 : RQ σ (zup τ 0 2 0) q na n nr := h.m (Fm.rf.up rfl)
  have t2 : zup τ 0 2 0 0 2 = 0 := by rw [zup_at, if_pos ⟨rfl, rfl⟩]
  unfold FX8_shop
  rw [zlet_eq]
  generalize zup τ 0 2 0 = t at *
  have hR : RR σ t := ⟨q, na, n, nr, h0⟩
  obtain ⟨⟨F, F7, f1, f2⟩, f3, f5⟩ := id h0.1
  have exc : relS (some (2, 0, σ)) (FX8_shop_b17 0 t) := ⟨2, 0, σ, 0, zup t 0 2 1, rfl, rfl, hR.code 1, Or.inr ⟨rfl, by rw [zup_at, if_pos ⟨rfl, rfl⟩]⟩⟩
  unfold FX7_shop FX7_shop_b12
  rw [f1, f2]
  by_cases c1 : x < 0
  · rw [if_pos c1, if_pos c1]; exact exc
  rw [if_neg c1, if_neg c1]
  by_cases c2 : x ≤ nI F
  rotate_left
  · rw [if_neg c2, if_neg c2]; exact exc
  rw [if_pos c2, if_pos c2]
  obtain ⟨N, hN, rfl⟩ := nI_of c1
  have hNF : N ≤ F := (nI_leI hN (by omega)).mp c2
  obtain ⟨hq0, p1, p2⟩ := id h0.2.1
  obtain ⟨qt, hqt⟩ : ∃ qt, qt = 110 - q := ⟨_, rfl⟩
  have hq : qt = 46 ∨ qt = 64 := by omega
  rw [← hqt] at p2
  -- the class begins
  obtain ⟨s1, a1, a2, a3, a4, a5, a6, a7, a8, a9, a10, a11, a12⟩ := fclr (s := σ) hq
  generalize hw : zup (zup (zup (zup (zup s1 4 2 (nI N)) 4 5 0) 4 7 0) 4 8 0) 4 9 (-1) = w
  have wo : ∀ k, k ≠ 4 → w k = s1 k := fun k hk => by rw [← hw]; simp only [zup_n hk]
  have w4 : ∀ j, (j < 2 ∨ j = 3 ∨ j = 4 ∨ j = 6) → w 4 j = s1 4 j := fun j hj => by
    rw [← hw]; simp only [zup_at]
    rw [if_neg (by omega), if_neg (by omega), if_neg (by omega), if_neg (by omega), if_neg (by omega)]
  have s14 : ∀ j, s1 4 j = σ 4 j := fun j => by rw [a2 4 (by omega)]
  obtain ⟨s2, k1, k2, k3, k4, k5, k6⟩ := fTk (s := w) (f := σ 5) (n := N) (p := 0) (by omega) (Nat.zero_le N) (by rw [← hw]; simp [zup_at]) (by rw [← hw]; simp [zup_at]; rfl) (fun j hj => by rw [wo 5 (by decide), a2 5 (by omega)])
  have hRd : FX3_read 4 (nI N) σ = zlp (fun q : Int32 × zS => FX3_read_L38 4 (nI N) q.1 q.2) (0, s2) := by
    unfold FX3_read
    rw [p2, nI_clamp (by omega), kdq hq, zgd_t, zlet_eq, a1, zbd_s, zlet_eq, zlet_eq, zlet_eq, zlet_eq, zlet_eq, hw, k1, zbd_s, zlet_eq]
  -- the reference begins
  generalize hu0 : zup (zup t 0 18 0) 0 27 (-1) = u0
  generalize hu1 : zup (zup (zup (zup (zup t 0 18 0) 0 20 (nI N)) 0 19 0) 0 25 0) 0 27 (-1) = u1
  have u1o : ∀ k j, ¬ (k = 0 ∧ (j = 19 ∨ j = 20 ∨ j = 25)) → u1 k j = u0 k j := fun k j hkj => by
    rw [← hu1, ← hu0]; simp only [zup_at]
    by_cases c27 : k = 0 ∧ j = 27
    · rw [if_pos c27, if_pos c27]
    · rw [if_neg c27, if_neg (by omega), if_neg (by omega), if_neg (by omega), if_neg c27]
  have u0o : ∀ k j, ¬ (k = 0 ∧ (j = 18 ∨ j = 27)) → u0 k j = t k j := fun k j hkj => by
    rw [← hu0]; simp only [zup_at]
    rw [if_neg (by omega), if_neg (by omega)]
  obtain ⟨u2, g1, g2, g3⟩ := gL50 (t := u1)
  have u17 : ∀ j, u2 17 j = t 17 j := fun j => by rw [g2 17 j (by omega), u1o 17 j (by omega), u0o 17 j (by omega)]
  have hf : ∀ j, j < 700 → σ 5 j = σ 5 j ∧ t 17 j = σ 5 j ∧ ¬ σ 5 j = -1 := fun j hj => ⟨rfl, (f5 j hj).1.symm, (f5 j hj).2⟩
  obtain ⟨u3, j1, j2, j3, j4, j5, j6, j7⟩ := gTkn (t := u2) (f := σ 5) (n := N) (p := 0) (by omega) (Nat.zero_le N) (by rw [g2 0 20 (by omega), ← hu1]; simp [zup_at]) (by rw [g2 0 19 (by omega), ← hu1]; simp [zup_at]; rfl) (fun j hj => by rw [u17]; exact (hf j hj).2.1) (fun j hj => (hf j hj).2.2)
  have he : en (σ 5) N qt σ u0 := ⟨by omega, hq, fun j hj => ⟨rfl, by rw [u0o 17 j (by omega)]; exact (hf j hj).2.1, (hf j hj).2.2⟩⟩
  have hRm : (zlet (zup t 0 18 0) fun σ_16 => zlet (zup σ_16 0 20 (nI N)) fun σ_17 => zlet (zup σ_17 0 19 0) fun σ_18 => zlet (zup σ_18 0 25 0) fun σ_19 => zlet (zup σ_19 0 27 (-1)) fun σ_20 => zlet 0 fun x2_21 => zlp (fun q : Int32 × zS => FX8_shop_L50 0 q.1 q.2) (x2_21, σ_20)) = zlp (fun q : Int32 × zS => FX8_shop_L109 0 q.1 q.2) (0, u3) := by
    rw [zlet_eq, zlet_eq, zlet_eq, zlet_eq, zlet_eq, zlet_eq, hu1, g1]
    unfold FX8_shop_b103
    rw [j1, zbd_s, zlet_eq]
  rw [hRm]
  have hS2 : ∀ k, k ≠ 4 → s2 k = s1 k := fun k hk => by
    rw [← wo k hk]; exact funext fun j => k2 k j (by omega)
  have hA : sA (σ 5) N qt σ u0 (fun _ => 0) 0 0 0 s2 u3 := by
    refine ⟨⟨fun k j hk hk2 => by rw [hS2 k hk, a2 k hk2], ?_, ?_, Nat.zero_le N, k3, k4, k5, k6⟩, ⟨fun k j hk => ?_, ?_, Nat.zero_le N, j3, j4, j5, j6, j7⟩, ?_, ?_, ?_, ⟨⟨by decide, ⟨?_, ?_, ?_, ?_, ?_, ?_⟩, ?_, ?_, ?_, ?_, ?_, ?_⟩, ⟨?_, ?_, ⟨400, by decide, ?_⟩, ?_, ?_⟩, ⟨fun a ha => absurd ha (Nat.not_lt_zero a), fun a _ ha => ?_⟩, fun p hp => absurd hp (Nat.not_lt_zero p), ⟨fun i hi => absurd hi (Nat.not_lt_zero i), fun r hr => absurd hr (Nat.not_lt_zero r)⟩, fun _ => rfl, fun z => absurd z (Nat.lt_irrefl 0)⟩, Nat.zero_le _⟩
    · rw [k2 4 1 (by omega), w4 1 (by omega), s14]; exact p2
    · rw [k2 4 2 (by omega), ← hw]; simp [zup_at]
    · have hk' : ¬ (k = 0 ∧ (j = 19 ∨ (21 ≤ j ∧ j ≤ 24))) ∧ ¬ (k = 3 ∧ 9 ≤ j) ∧ ¬ (k = 0 ∧ (j = 19 ∨ j = 20 ∨ j = 25)) := by
        unfold mfr at hk
        simp at hk
        omega
      rw [j2 k j hk'.1, g2 k j hk'.2.1, u1o k j hk'.2.2]
    · rw [j2 0 20 (by omega), g2 0 20 (by omega), ← hu1]; simp [zup_at]
    · rw [k2 4 8 (by omega), ← hw]; simp [zup_at]
    · rw [j2 0 25 (by omega), g2 0 25 (by omega), ← hu1]; simp [zup_at]
    · rw [k2 4 7 (by omega), ← hw]; simp [zup_at]
    · rw [hS2 _ (by omega)]; exact a3
    · rw [hS2 _ (by omega)]; exact a4
    · rw [hS2 _ (by omega)]; exact a5
    · rw [hS2 _ (by omega)]; exact a6
    · rw [hS2 _ (by omega)]; exact a7
    · rw [hS2 _ (by omega)]; exact a8
    · rw [j2 3 9 (by omega)]; exact g3 0 (by decide)
    · rw [j2 3 10 (by omega)]; exact g3 1 (by decide)
    · rw [j2 3 11 (by omega)]; exact g3 2 (by decide)
    · rw [j2 3 12 (by omega)]; exact g3 3 (by decide)
    · rw [j2 3 13 (by omega)]; exact g3 4 (by decide)
    · rw [j2 3 17 (by omega)]; exact g3 8 (by decide)
    · rw [hS2 _ (by omega), a9]; decide
    · rw [hS2 _ (by omega), a9, j2 3 14 (by omega)]; exact (g3 5 (by decide)).symm
    · rw [hS2 _ (by omega), a10]; rfl
    · rw [hS2 _ (by omega), a10, j2 3 15 (by omega)]; exact (g3 6 (by decide)).symm
    · rw [hS2 _ (by omega), a11, j2 3 16 (by omega)]; exact (g3 7 (by decide)).symm
    · rw [hS2 _ (by omega), hS2 _ (by omega)]; exact a12 a ha
  obtain ⟨s3, t3, e1, e2, hE⟩ := e_Lines he N (fun _ => 0) 0 0 0 s2 u3 0 (by omega) hA rfl (Nat.zero_le _)
  rw [show (0 + 4 : Nat) = 4 from rfl, hRd, show zlp (fun q : Int32 × zS => FX3_read_L38 4 (nI N) q.1 q.2) (0, s2) = _ from e1, show zlp (fun q : Int32 × zS => FX8_shop_L109 0 q.1 q.2) (0, u3) = _ from e2]
  -- what the reference's reader leaves as it was
  have gk : ∀ {u : zS}, mF u0 u → ∀ k j, mfr k j = false → ¬ (k = 0 ∧ (j = 2 ∨ j = 18 ∨ j = 27)) → u k j = t k j := fun hu k j hk hkj => by rw [hu k j hk, u0o k j (by omega)]
  rcases hE with ⟨v, d, p, ns, A, v5⟩ | B
  rotate_left
  · -- a FAULT
    obtain ⟨s4, m1, m2⟩ := fmT (qt := qt) (s := s3)
    obtain ⟨⟨p3, C3⟩, mT, b8, b9, b10⟩ := id B
    have s4k : ∀ k, k ≠ qt + 6 → s4 k = s3 k := m2
    unfold FX3_read_b67 FX8_shop_b132
    rw [C3.ptr hq, m1, zbd_s, zbd_s, zlet_eq, zlet_eq, s4k 4 (by omega), if_neg b8, if_neg B.b, zlet_eq, zlet_eq, zup_n (by decide : 4 ≠ 0), s4k 4 (by omega), b10, b9]
    generalize hsf : zup (zup s4 0 0 0) 0 1 (t3 0 26) = sf
    generalize htf : zup t3 0 27 (t3 0 26) = tf
    have hQ : RQ sf tf q na n nr := by
      refine h0.told (fun k j h1 h2 h3 => ?_) (fun k j h1 h2 => ?_) ⟨⟨0, Nat.zero_le _, ?_, ?_⟩, ?_, fun j hj => ?_⟩
      · rw [← hqt] at h3
        rw [← hsf, zup_at, if_neg (by omega), zup_at, if_neg (by omega), s4k k (by omega)]
        by_cases c4 : k = 4
        · have : j = 1 := by omega
          subst c4; subst this
          rw [C3.2.1, p2]
        · exact C3.1 k j c4 h3
      · rw [← htf, zup_at, if_neg (by omega)]
        exact gk mT k j h1 h2
      · rw [← hsf]; simp [zup_at]; rfl
      · rw [← htf, zup_at, if_neg (by omega), mT 0 18 rfl, ← hu0]; simp [zup_at]; rfl
      · rw [← hsf, ← htf, zup_at, if_pos ⟨rfl, rfl⟩, zup_at, if_pos ⟨rfl, rfl⟩]
      · rw [← hsf, ← htf, zup_n (by decide), zup_n (by decide), zup_n (by decide), s4k 5 (by omega), C3.1 5 j (by decide) (by omega), mT 17 j (by unfold mfr; simp), u0o 17 j (by omega)]
        exact f5 j hj
    have tf2 : tf 0 2 = 0 := by rw [← htf, zup_at, if_neg (by omega), mT 0 2 rfl, u0o 0 2 (by omega)]; exact t2
    have tf25 : tf 0 25 = t3 0 25 := by rw [← htf, zup_at, if_neg (by omega)]
    obtain ⟨r1, -, r3⟩ := rRef hQ (k := 0) (by decide)
    rw [show (0 + 6 : Nat) = 6 from rfl, show FX6_refuse 6 0 sf = _ from r1, zbd_s]
    have zz : ∀ (β : Type) (r : Option β), zin (ln 1 (0 + 16)) 0 r = r := fun β r => zin_n (p := 0) r (by decide : 0 < 3) (by decide)
    rw [zz, zz, zlet_eq, show (0 + 16 : Nat) = 16 from rfl, show (0 : Int32).toNatClampNeg = 0 from rfl, zup_n (by decide : 0 ≠ 16), tf25]
    exact ⟨0, t3 0 25, _, t3 0 25, _, rfl, rfl, ⟨q, na, n, nr, r3⟩, Or.inl ⟨rfl, by rw [zup_n (by decide)]; exact tf2, rfl⟩⟩
  · -- a shop
    obtain ⟨C3, M3, A3, A4, A5, A6, A7⟩ := id A
    obtain ⟨⟨b1, ⟨c1', c2', c3, c4, c5, c6⟩, d1, d2, d3, d4, d5, d6⟩, ⟨x1, x2, x3, x4, x5⟩, ⟨y1, y2⟩, -⟩ := id A6
    obtain ⟨s4, m1, m2, m3⟩ := fMs (s := s3) (na := v 0) (J := s3 (qt + 4)) hq b1.1 c1' (fun _ _ => rfl)
    have s4k : ∀ k, k ≠ qt + 6 → s4 k = s3 k := m2
    obtain ⟨tf, n1, n2, n3, n29, n30, n31, n32, n33, n34, n35, n36, n37, n65, n72, z3, z4, z8, z13, z14, z15, z18⟩ := gto (t := t3) (na := v 0) (nr := v 4) (J := s3 (qt + 4)) (E := fun x y => bt (s3 (qt + 4) x) y) b1.1 b1.2.2.2.2 d1 d5 (fun i hi => (y1 i hi).2.2.2.2.1.symm) (fun _ _ => rfl)
    unfold FX3_read_b67 FX8_shop_b132
    have s30 : ∀ j, s3 0 j = σ 0 j := fun j => C3.1 0 j (by decide) (by omega)
    rw [C3.ptr hq, m1, zbd_s, zbd_s, zlet_eq, zlet_eq, s4k 4 (by omega), A3, if_pos rfl, if_pos A4, n1, zbd_s, zlet_eq]
    generalize hS1 : zup (zup s4 0 0 0) 0 1 (-1) = S1
    have S1o : ∀ k, k ≠ 0 → S1 k = s4 k := fun k hk => by rw [← hS1, zup_n hk, zup_n hk]
    have S12 : S1 0 2 = nI q := by rw [← hS1]; simp [zup_at]; rw [s4k 0 (by omega), s30]; exact p1
    have S141 : S1 4 1 = nI qt := by rw [S1o 4 (by decide), s4k 4 (by omega)]; exact C3.2.1
    rw [S12, nI_clamp (by omega : q < 2 ^ 31), show (kd 0 q == 5) = true from by rcases hq0 with rfl | rfl <;> rfl, zgd_t, zlet_eq]
    unfold FX3_changeFor
    rw [S141, nI_clamp (by omega : qt < 2 ^ 31), kdq hq, zgd_t, zlet_eq, zlet_eq, zbd_s, nI_clamp (by omega : qt < 2 ^ 31), kdq hq, zgd_t, zlet_eq, zlet_eq]
    have S32 : zup (zup S1 4 1 (nI q)) 0 2 (nI qt) 0 2 = nI qt := by rw [zup_at, if_pos ⟨rfl, rfl⟩]
    rw [S32, nI_clamp (by omega : qt < 2 ^ 31), kdq hq, zgd_t, zlet_eq]
    generalize hS3 : zup (zup S1 4 1 (nI q)) 0 2 (nI qt) = S3 at S32
    have S3o : ∀ k, k ≠ 0 → k ≠ 4 → S3 k = s4 k := fun k hk hk4 => by rw [← hS3, zup_n hk, zup_n hk4, S1o k hk]
    have S3q : ∀ i, i < 18 → i ≠ 6 → S3 (qt + i) = s3 (qt + i) := fun i hi h6 => by rw [S3o _ (by omega) (by omega), s4k _ (by omega)]
    obtain ⟨S4, o1, o2, o3, o4, o5, o6, o7, o8, o9, o10, o11, o12⟩ := fbg (s := S3) (nr := v 4) hq (by rw [S3q 14 (by decide) (by decide)]; exact c5) b1.2.2.2.2
    rw [show (0 + 6 : Nat) = 6 from rfl, o1, zbd_s, zlet_eq, zlet_eq, zlet_eq]
    generalize hS5 : zup (zup (zup S4 0 6 0) 0 12 0) 0 9 0 = S5
    have S5o : ∀ k, k ≠ 0 → S5 k = S4 k := fun k hk => by rw [← hS5, zup_n hk, zup_n hk, zup_n hk]
    have S5r : ∀ k, k ≠ 0 → k ≠ 4 → k ≠ 6 → k ≠ 7 → k ≠ 8 → S5 k = s4 k := fun k k0 k4 k6 k7 k8 => by rw [S5o k k0, o2 k k6 k7 k8, S3o k k0 k4]
    have S5q : ∀ k, qt ≤ k → k < qt + 18 → k ≠ qt + 6 → S5 k = s3 k := fun k k0 k1 k6 => by rw [S5r k (by omega) (by omega) (by omega) (by omega) (by omega), s4k k k6]
    have S50 : ∀ j, j ≠ 6 → j ≠ 9 → j ≠ 12 → S5 0 j = S3 0 j := fun j h6 h9 h12 => by
      rw [← hS5, zup_at, if_neg (by omega), zup_at, if_neg (by omega), zup_at, if_neg (by omega), o2 0 (by decide) (by decide) (by decide)]
    have S30 : ∀ j, j ≠ 2 → S3 0 j = S1 0 j := fun j hj => by rw [← hS3, zup_at, if_neg (by omega), zup_n (by decide)]
    have hSh : rSh tf (ss qt S5) (v 0) (v 3) (v 4) := shNew he A S5q (fun a b ha hb => by rw [S5r (qt + 6) (by omega) (by omega) (by omega) (by omega) (by omega)]; exact m3 a b ha hb) z3 z4 z8 z13 z14 z15 z18
    have hQ : RQ S5 tf qt (v 0) (v 3) (v 4) := by
      refine ⟨⟨⟨0, Nat.zero_le _, ?_, ?_⟩, ?_, fun j hj => ?_⟩, ⟨hq, ?_, ?_⟩, hSh, ⟨⟨fun i hi => ?_, ?_, ?_, ⟨v 2, b1.2.2.1, ?_⟩, fun a ha => ?_⟩, ⟨0, by decide, ?_, n35, fun z hz => absurd hz (Nat.not_lt_zero z)⟩, ⟨0, by decide, ?_, n36, fun z hz => absurd hz (Nat.not_lt_zero z)⟩, ⟨0, by decide, ?_, n37, fun z hz => absurd hz (Nat.not_lt_zero z)⟩, fun i hi => ?_⟩, Or.inl ⟨?_, n72⟩, Or.inl ?_, Or.inl ⟨?_, n65⟩⟩
      · rw [S50 0 (by decide) (by decide) (by decide), S30 0 (by decide), ← hS1]; simp [zup_at]; rfl
      · rw [n3 18 (by decide), M3.1 0 18 rfl, ← hu0]; simp [zup_at]; rfl
      · rw [S50 1 (by decide) (by decide) (by decide), S30 1 (by decide), ← hS1, n3 27 (by decide), M3.1 0 27 rfl, ← hu0]; simp [zup_at]
      · rw [S5r 5 (by decide) (by decide) (by decide) (by decide) (by decide), s4k 5 (by omega), C3.1 5 j (by decide) (by omega), n2 17 (by decide) (by decide), M3.1 17 j (by unfold mfr; simp), u0o 17 j (by omega)]
        exact f5 j hj
      · rw [S50 2 (by decide) (by decide) (by decide)]; exact S32
      · rw [S5o 4 (by decide), o2 4 (by decide) (by decide) (by decide), ← hS3, zup_n (by decide), zup_at, if_pos ⟨rfl, rfl⟩, show 110 - qt = q from by omega]
      · rw [S5o 6 (by decide)]
        have : i = 0 ∨ i = 1 ∨ i = 2 ∨ i = 3 ∨ i = 4 ∨ i = 5 := by omega
        rcases this with rfl | rfl | rfl | rfl | rfl | rfl
        · exact o3.trans n29.symm
        · exact o4.trans n30.symm
        · exact o5.trans n31.symm
        · refine o6.trans (Eq.trans ?_ n32.symm)
          rw [show S3 qt = s3 qt from S3q 0 (by decide) (by decide)]; exact x5
        · refine o7.trans (Eq.trans ?_ n33.symm)
          rw [S3q 1 (by decide) (by decide)]; exact c3.trans d3.symm
        · exact o8.trans n34.symm
      · rw [S5o 6 (by decide), o3, o4]
        by_cases c : v 4 = 0
        · rw [if_pos c]; exact Or.inl rfl
        · rw [if_neg c]; exact Or.inr (Or.inl ⟨rfl, 0, by omega, rfl⟩)
      · rw [S5o 6 (by decide)]; exact Or.inl o5
      · rw [S5o 6 (by decide), o7, S3q 1 (by decide) (by decide)]; exact c3
      · obtain ⟨w1, w2, w3, w4', w5, w6⟩ := y1 a ha
        have h10 := b1.1
        obtain ⟨q7, q8⟩ := o12 a (by omega)
        rw [show (6 + 1 : Nat) = 7 from rfl, show (6 + 2 : Nat) = 8 from rfl, S5o 7 (by decide), S5o 8 (by decide), q7, q8, S3q 5 (by decide) (by decide), S3q 3 (by decide) (by decide), z4 7 a (by decide) (by decide) (by omega), z4 5 a (by decide) (by decide) (by omega)]
        exact ⟨w6, w3, w4'⟩
      · rw [S5o 6 (by decide)]; exact o9
      · rw [S5o 6 (by decide)]; exact o10
      · rw [S5o 6 (by decide)]; exact o11
      · rw [show (6 + 8 : Nat) = 14 from rfl, S5r 14 (by decide) (by decide) (by decide) (by decide) (by decide), s4k 14 (by omega), C3.1 14 i (by decide) (by omega), n2 16 (by decide) (by decide), M3.1 16 i (by unfold mfr; simp), u0o 16 i (by omega)]
        exact h0.2.2.2.1.2.2.2.2 i hi
      · rw [← hS5]; simp [zup_at]
      · rw [← hS5]; simp [zup_at]
      · rw [← hS5]; simp [zup_at]
    refine ⟨0, 0, S5, 0, tf, rfl, rfl, ⟨qt, v 0, v 3, v 4, hQ⟩, Or.inl ⟨rfl, ?_, rfl⟩⟩
    rw [n3 2 (by decide), M3.1 0 2 rfl, u0o 0 2 (by omega)]
    exact t2
