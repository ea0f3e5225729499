/-! both read a NUMBER, an AISLE; both put a sign -/
section
variable {f : Nat → Int32} {n qt : Nat} {s0 t0 : zS} {v : Nat → Nat} {d : Int32} {p ns : Nat} {s t : zS}
theorem sA.num (he : en f n qt s0 t0) (h : sA f n qt s0 t0 v d p ns s t) {lo hi : Nat} (hl : lo ≤ 9999) (hh : hi ≤ 9999) : (∃ x s' t', lo ≤ x ∧ x ≤ hi ∧ FX3_readNumber 4 (nI lo) (nI hi) s = some (nI x, s') ∧ FX8_readNumber 0 (nI lo) (nI hi) t = some (nI x, t') ∧ tK f n p ≠ 0 ∧ sA f n qt s0 t0 v d (tE f n p) ns s' t' ∧ (∀ x j, ¬ (x = 4 ∧ 3 ≤ j ∧ j ≤ 6) → s' x j = s x j) ∧ ∀ x j, ¬ (x = 0 ∧ (j = 19 ∨ (21 ≤ j ∧ j ≤ 24))) → t' x j = t x j) ∨ ∃ x s' t', FX3_readNumber 4 (nI lo) (nI hi) s = some (x, s') ∧ FX8_readNumber 0 (nI lo) (nI hi) t = some (0, t') ∧ sB f n qt s0 t0 s' t' := by
  have hp := h.1.2.2.2.1
  have hv : tK f n p = 2 → s 4 6 = nI (tvv f (tB f n p) (tE f n p - tB f n p)) := fun e => by rw [h.1.2.2.2.2.2.2.2]; unfold tV; rw [if_pos e]
  have bad : ∀ (k : Int32) (t1 : zS), ¬ k = 0 → FX8_wrong 0 k t = some (0, t1) → FX8_numberNow 0 (nI lo) (nI hi) t = some (0, t1) → (∃ s', FX3_fail 4 k s = some (0, s') ∧ sB f n qt s0 t0 s' t1) ∧ FX8_readNumber 0 (nI lo) (nI hi) t = some (0, t1) := by
    intro k t1 hk e1 e2
    obtain ⟨s', t', a, b, c⟩ := h.fail hk
    rw [e1] at b
    have b2 : t1 = t' := congrArg Prod.snd (Option.some.inj b)
    subst b2
    refine ⟨⟨s', a, c⟩, ?_⟩
    unfold FX8_readNumber FX8_readNumber_b18
    rw [e2, zbd_s, zlet_eq, if_neg c.b]
  rcases h.numM he hl hh with ⟨e, g1, g2, g3⟩ | ⟨e, g1, t1, g2, g3⟩ | ⟨e, t1, g2, g3⟩
  · left
    obtain ⟨s', t', a1, a2, a3, a4, a5⟩ := h.tok he
    refine ⟨_, s', t', g1, g2, ?_, ?_, by omega, a3, a4, a5⟩
    · unfold FX3_readNumber FX3_readNumber_b43
      rw [zlet_eq, hv e, if_pos (show s 4 3 = 2 from (h.k3 2 (by decide)).mpr e), if_neg (nI_nlt g1 (by omega)), if_pos (nI_le g2 (by omega)), a1, zbd_s]
    · unfold FX8_readNumber FX8_readNumber_b18
      rw [g3, zbd_s, zlet_eq, if_pos h.2.2.2.1, a2, zbd_s]
  · right
    obtain ⟨⟨s', a1, a2⟩, a3⟩ := bad 2 t1 (by decide) g2 g3
    obtain ⟨v1, -, -⟩ := tvv_le hp e
    refine ⟨nI (tvv f (tB f n p) (tE f n p - tB f n p)), s', t1, ?_, a3, a2⟩
    unfold FX3_readNumber FX3_readNumber_b31 FX3_readNumber_b43
    rw [zlet_eq, hv e, if_pos (show s 4 3 = 2 from (h.k3 2 (by decide)).mpr e)]
    rcases g1 with g1 | g1
    · rw [if_pos (nI_lt g1 (by omega)), a1, zbd_s]
    · by_cases c : tvv f (tB f n p) (tE f n p - tB f n p) < lo
      · rw [if_pos (nI_lt c (by omega)), a1, zbd_s]
      · rw [if_neg (nI_nlt (by omega) (by omega)), if_neg (nI_ge g1 (by omega)), a1, zbd_s]
  · right
    obtain ⟨⟨s', a1, a2⟩, a3⟩ := bad 1 t1 (by decide) g2 g3
    refine ⟨s 4 6, s', t1, ?_, a3, a2⟩
    unfold FX3_readNumber FX3_readNumber_b43
    rw [zlet_eq, if_neg (show ¬ s 4 3 = 2 from fun z => e ((h.k3 2 (by decide)).mp z)), a1, zbd_s]
theorem sA.here (he : en f n qt s0 t0) (h : sA f n qt s0 t0 v d p ns s t) : (∃ a, a < v 0 ∧ FX3_aisleHere 4 s = some (nI a, s) ∧ FX8_aisleNow 0 t = some (nI a, t) ∧ tK f n p = 2) ∨ ∃ x s' t', FX3_aisleHere 4 s = some (x, s') ∧ FX8_aisleNow 0 t = some (0, t') ∧ sB f n qt s0 t0 s' t' := by
  have hp := h.1.2.2.2.1
  obtain ⟨-, hq, -⟩ := id he
  have hv : tK f n p = 2 → s 4 6 = nI (tvv f (tB f n p) (tE f n p - tB f n p)) := fun e => by rw [h.1.2.2.2.2.2.2.2]; unfold tV; rw [if_pos e]
  obtain ⟨⟨⟨v10, -⟩, ⟨n1, -⟩, ⟨m1, -⟩⟩, -⟩ := h.2.2.2.2.2.1
  have bad : ∀ (k : Int32) (t1 : zS), ¬ k = 0 → FX8_wrong 0 k t = some (0, t1) → ∃ s', FX3_fail 4 k s = some (0, s') ∧ sB f n qt s0 t0 s' t1 := by
    intro k t1 hk e1
    obtain ⟨s', t', a, b, c⟩ := h.fail hk
    rw [e1] at b
    have b2 : t1 = t' := congrArg Prod.snd (Option.some.inj b)
    subst b2
    exact ⟨s', a, c⟩
  have mb : ∀ (x : Int32) (t1 : zS), FX8_numberNow 0 0 9999 t = some (0, t1) → ¬ t1 0 25 = 0 → FX8_aisleNow 0 t = some (0, t1) := by
    intro x t1 e1 e2
    unfold FX8_aisleNow FX8_aisleNow_b32 FX8_aisleNow_b44
    rw [e1, zbd_s, zlet_eq, if_neg e2, if_neg e2]
  unfold FX3_aisleHere FX3_aisleHere_b56
  rcases h.numM he (lo := 0) (hi := 9999) (by decide) (by decide) with ⟨e, g1, g2, g3⟩ | ⟨e, g1, t1, g2, g3⟩ | ⟨e, t1, g2, g3⟩
  · rw [if_pos (show s 4 3 = 2 from (h.k3 2 (by decide)).mpr e), hv e, show (9999 : Int32) = nI 9999 from rfl, if_pos (nI_le g2 (by decide)), h.1.ptr hq, fha2, n1, zbd_s]
    generalize tvv f (tB f n p) (tE f n p - tB f n p) = x at *
    by_cases c : x < v 0
    · left
      refine ⟨x, c, ?_, ?_, e⟩
      · rw [decide_eq_false (nI_pos (by omega)), decide_eq_false (nI_ge c (by omega)), if_neg (by decide), hv e]
      · unfold FX8_aisleNow FX8_aisleNow_b32 FX8_aisleNow_b44
        rw [show FX8_numberNow 0 0 9999 t = _ from g3, zbd_s, zlet_eq, if_pos h.2.2.2.1, show (0 + 3 : Nat) = 3 from rfl, show (9 : Int32) = nI 9 from rfl, show ln 1 3 = 18 from rfl, zin_n _ (by decide : 9 < 18) (by decide), nI_clamp (by decide : 9 < 2 ^ 31), m1, if_pos (nI_lt c (by omega)), if_pos h.2.2.2.1]
    · right
      obtain ⟨s', t', a, b, c2⟩ := h.fail (k := 3) (by decide)
      refine ⟨s' 4 6, s', t', ?_, ?_, c2⟩
      · rw [decide_eq_true (nI_le (by omega) (by omega) : nI (v 0) ≤ nI x), if_pos (by cases decide (nI x < 0) <;> rfl), a, zbd_s]
      · unfold FX8_aisleNow FX8_aisleNow_b32 FX8_aisleNow_b44
        rw [show FX8_numberNow 0 0 9999 t = _ from g3, zbd_s, zlet_eq, if_pos h.2.2.2.1, show (0 + 3 : Nat) = 3 from rfl, show (9 : Int32) = nI 9 from rfl, show ln 1 3 = 18 from rfl, zin_n _ (by decide : 9 < 18) (by decide), nI_clamp (by decide : 9 < 2 ^ 31), m1, if_neg (nI_nlt (by omega) (by omega)), b, zbd_s, if_neg c2.b]
  · right
    obtain ⟨s', a1, a2⟩ := bad 2 t1 (by decide) g2
    refine ⟨s' 4 6, s', t1, ?_, mb 0 t1 g3 a2.b, a2⟩
    rw [if_pos (show s 4 3 = 2 from (h.k3 2 (by decide)).mpr e), hv e, show (9999 : Int32) = nI 9999 from rfl, if_neg (nI_ge (by omega) (by have := (tvv_le hp e).1; omega)), a1, zbd_s]
  · right
    obtain ⟨s', a1, a2⟩ := bad 1 t1 (by decide) g2
    exact ⟨s' 4 6, s', t1, by rw [if_neg (show ¬ s 4 3 = 2 from fun z => e ((h.k3 2 (by decide)).mp z)), a1, zbd_s], mb 0 t1 g3 a2.b, a2⟩
theorem hw.cg {F G : Nat → Int32} {m : Nat} {h : Nat → Nat} (hh : hw F m h) (e : ∀ i, i < m → F i = G i) : hw G m h := ⟨hh.1, hh.2.1, fun i hi => by rw [← e i hi]; exact hh.2.2 i hi⟩
/-- a sign on both sides -/
theorem sA0.add (he : en f n qt s0 t0) (h : sA0 f n qt s0 t0 v d p ns s t) {x y : Int32} (hs : sg x y) (n8 : ns < 700) : ∃ s' t', FX4_add (qt + 14) x s = some (0, s') ∧ FX8_putSign 0 y t = some (0, t') ∧ sA0 f n qt s0 t0 v d p (ns + 1) s' t' ∧ (s' (qt + 16) = upd (s (qt + 16)) ns x) ∧ s' 4 = s 4 ∧ t' 0 = t 0 := by
  obtain ⟨n7, hq, -⟩ := id he
  obtain ⟨h1, h2, h3, h4, h5, hN, hG, hA, hP, hQ, hL⟩ := id h
  obtain ⟨b1, ⟨c1, c2, c3, c4, c5, c6⟩, d1, d2, d3, d4, d5, d6⟩ := hN
  have l16 : ln 0 (qt + 16) = 700 := by rcases hq with rfl | rfl <;> rfl
  refine ⟨zup (zup s (qt + 16) ns x) (qt + 14) 1 (nI (ns + 1)), zup (zup t 15 (700 + ns) y) 3 17 (nI (ns + 1)), ?_, ?_, ⟨(h1.up hq (by omega)).up hq (by omega), ?_, ?_, ?_, ?_, ?_⟩, ?_, ?_, ?_⟩
  · unfold FX4_add
    rw [c6, show qt + 14 + 2 = qt + 16 from rfl, fput', l16, pt_n n8 (by decide), zbd_s, zlet_eq, zup_n (by omega : qt + 14 ≠ qt + 16), c6, nI_1]
  · unfold FX8_putSign
    rw [if_pos h4, show (0 + 3 : Nat) = 3 from rfl, show (0 + 15 : Nat) = 15 from rfl, show (17 : Int32) = nI 17 from rfl, show (700 : Int32) = nI 700 from rfl, show ln 1 3 = 18 from rfl, show ln 1 15 = 1400 from rfl, zin_n _ (by decide : 17 < 18) (by decide), nI_clamp (by decide : 17 < 2 ^ 31), d6, nI_add, zin_n _ (by omega : 700 + ns < 1400) (by decide), zlet_eq, zin_n _ (by decide : 17 < 18) (by decide), zin_n _ (by decide : 17 < 18) (by decide), zlet_eq, nI_clamp (by omega : 700 + ns < 2 ^ 31), zup_n (by decide : 3 ≠ 15), d6, nI_1]
  · refine ⟨(h2.1.up (by unfold mfr; simp)).up (by unfold mfr; simp), ?_⟩
    rw [zup_n (by decide : 0 ≠ 3), zup_n (by decide : 0 ≠ 15)]
    exact h2.2
  · rw [zup_n (by omega), zup_n (by omega)]; exact h3
  · rw [zup_n (by decide), zup_n (by decide)]; exact h4
  · rw [zup_n (by omega), zup_n (by omega)]; exact h5
  · have e16 : ∀ i, i < ns → zup (zup s (qt + 16) ns x) (qt + 14) 1 (nI (ns + 1)) (qt + 16) i = s (qt + 16) i := fun i hi => by
      rw [zup_n (by omega), zup_at, if_neg (by omega)]
    have e15 : zup (zup s (qt + 16) ns x) (qt + 14) 1 (nI (ns + 1)) (qt + 15) = s (qt + 15) := by rw [zup_n (by omega), zup_n (by omega)]
    have f14 : zup (zup t 15 (700 + ns) y) 3 17 (nI (ns + 1)) 14 = t 14 := by rw [zup_n (by decide), zup_n (by decide)]
    have es : ∀ k, k ≠ qt + 14 → k ≠ qt + 16 → zup (zup s (qt + 16) ns x) (qt + 14) 1 (nI (ns + 1)) k = s k := fun k k1 k2 => by rw [zup_n k1, zup_n k2]
    have et : ∀ k, k ≠ 3 → k ≠ 15 → zup (zup t 15 (700 + ns) y) 3 17 (nI (ns + 1)) k = t k := fun k k1 k2 => by rw [zup_n k1, zup_n k2]
    refine ⟨⟨b1, ⟨?_, ?_, ?_, ?_, ?_, ?_⟩, ?_, ?_, ?_, ?_, ?_, ?_⟩, ?_, ?_, ?_, ⟨fun i hi => ?_, fun r hr => ?_⟩, ?_⟩
    · rw [zup_n (by omega), zup_n (by omega)]; exact c1
    · rw [zup_n (by omega), zup_n (by omega)]; exact c2
    · rw [zup_n (by omega), zup_n (by omega)]; exact c3
    · rw [zup_n (by omega), zup_n (by omega)]; exact c4
    · rw [zup_at, if_neg (by omega), zup_n (by omega)]; exact c5
    · rw [zup_at, if_pos ⟨rfl, rfl⟩]
    · rw [zup_at, if_neg (by omega), zup_n (by decide)]; exact d1
    · rw [zup_at, if_neg (by omega), zup_n (by decide)]; exact d2
    · rw [zup_at, if_neg (by omega), zup_n (by decide)]; exact d3
    · rw [zup_at, if_neg (by omega), zup_n (by decide)]; exact d4
    · rw [zup_at, if_neg (by omega), zup_n (by decide)]; exact d5
    · rw [zup_at, if_pos ⟨rfl, rfl⟩]
    · unfold tG at *
      rw [zup_n (by omega), zup_n (by omega)]
      simpa [zup_at] using hG
    · unfold tA at *
      rw [es (qt + 2) (by omega) (by omega), es (qt + 3) (by omega) (by omega), es (qt + 4) (by omega) (by omega), es (qt + 5) (by omega) (by omega), et 4 (by decide) (by decide), et 5 (by decide) (by decide), et 6 (by decide) (by decide), et 7 (by decide) (by decide)]
      exact hA
    · unfold tP tP1 at *
      rw [es (qt + 8) (by omega) (by omega), es (qt + 9) (by omega) (by omega), es (qt + 10) (by omega) (by omega), es (qt + 11) (by omega) (by omega), es (qt + 12) (by omega) (by omega), es (qt + 13) (by omega) (by omega), et 8 (by decide) (by decide), et 9 (by decide) (by decide), et 10 (by decide) (by decide), et 11 (by decide) (by decide), et 12 (by decide) (by decide), et 13 (by decide) (by decide)]
      exact hP
    · by_cases c : i = ns
      · subst c
        rw [zup_n (by omega), zup_at, if_pos ⟨rfl, rfl⟩, zup_n (by decide), zup_at, if_pos ⟨rfl, rfl⟩]
        exact hs
      · rw [e16 i (by omega), zup_n (by decide), zup_at, if_neg (by omega)]
        exact hQ.1 i (by omega)
    · obtain ⟨a, b, q1, q2, q3, q4, q5, q6, hh, q7⟩ := hQ.2 r hr
      unfold tQ1
      rw [e15, f14]
      exact ⟨a, b, q1, by omega, q3, q4, q5, q6, hh, q7.cg (fun i hi => (e16 (a + i) (by omega)).symm)⟩
    · unfold tL at *
      rw [e15, f14]
      exact hL
  · rw [zup_n (by omega), zup_s]
  · rw [zup_n (by omega), zup_n (by omega)]
  · rw [zup_n (by decide), zup_n (by decide)]
theorem sA.add (he : en f n qt s0 t0) (h : sA f n qt s0 t0 v d p ns s t) {x y : Int32} (hs : sg x y) (hn : ns + 1 ≤ tB f n p) : ∃ s' t', FX4_add (qt + 14) x s = some (0, s') ∧ FX8_putSign 0 y t = some (0, t') ∧ sA f n qt s0 t0 v d p (ns + 1) s' t' ∧ (s' (qt + 16) = upd (s (qt + 16)) ns x) ∧ s' 4 = s 4 ∧ t' 0 = t 0 := by
  have hb := tB_b (f := f) h.1.2.2.2.1
  have := he.1
  obtain ⟨s', t', a1, a2, a3, a4⟩ := h.z.add he hs (by omega)
  exact ⟨s', t', a1, a2, a3.a hn, a4⟩
/-! signs of a part: an EXPR's own stack -/
def seg (F : Nat → Int32) (a b D : Nat) : Prop := ∃ h : Nat → Nat, h a = 0 ∧ h b = 1 ∧ a < b ∧ ∀ i, a ≤ i → i < b → h i ≤ D ∧ (if -8 < F i then h (i + 1) = h i + 1 else if F i = -12 then 1 ≤ h i ∧ h (i + 1) = h i else 2 ≤ h i ∧ h (i + 1) + 1 = h i)
theorem seg.cg {F G : Nat → Int32} {a b D : Nat} (h : seg F a b D) (e : ∀ i, a ≤ i → i < b → F i = G i) : seg G a b D := by
  obtain ⟨h, h1, h2, h3, h4⟩ := h
  exact ⟨h, h1, h2, h3, fun i hi hb => by rw [← e i hi hb]; exact h4 i hi hb⟩
theorem seg.up {F : Nat → Int32} {a b D D' : Nat} (h : seg F a b D) (hD : D ≤ D') : seg F a b D' := by
  obtain ⟨h, h1, h2, h3, h4⟩ := h
  exact ⟨h, h1, h2, h3, fun i hi hb => ⟨Nat.le_trans (h4 i hi hb).1 hD, (h4 i hi hb).2⟩⟩
theorem seg.one {F : Nat → Int32} {a D : Nat} (h : -8 < F a) : seg F a (a + 1) D := by
  refine ⟨fun i => i - a, Nat.sub_self a, Nat.add_sub_cancel_left a 1, Nat.lt_succ_self a, fun i hi hb => ?_⟩
  have e : i = a := by omega
  subst e
  show i - i ≤ D ∧ (if -8 < F i then i + 1 - i = i - i + 1 else if F i = -12 then 1 ≤ i - i ∧ i + 1 - i = i - i else 2 ≤ i - i ∧ i + 1 - i + 1 = i - i)
  rw [if_pos h]
  omega
theorem seg.not {F : Nat → Int32} {a b D : Nat} (h : seg F a b D) (hb : F b = -12) (hD : 1 ≤ D) : seg F a (b + 1) D := by
  obtain ⟨h, h1, h2, h3, h4⟩ := h
  refine ⟨fun i => if i ≤ b then h i else 1, ?_, ?_, by omega, fun i hi hib => ?_⟩
  · show (if a ≤ b then h a else 1) = 0
    rw [if_pos (by omega)]; exact h1
  · show (if b + 1 ≤ b then h (b + 1) else 1) = 1
    rw [if_neg (by omega)]
  · show (if i ≤ b then h i else 1) ≤ D ∧ (if -8 < F i then (if i + 1 ≤ b then h (i + 1) else 1) = (if i ≤ b then h i else 1) + 1 else if F i = -12 then 1 ≤ (if i ≤ b then h i else 1) ∧ (if i + 1 ≤ b then h (i + 1) else 1) = (if i ≤ b then h i else 1) else 2 ≤ (if i ≤ b then h i else 1) ∧ (if i + 1 ≤ b then h (i + 1) else 1) + 1 = (if i ≤ b then h i else 1))
    rw [if_pos (by omega : i ≤ b)]
    by_cases c : i = b
    · subst c
      rw [if_neg (by omega : ¬ i + 1 ≤ i), h2, hb, if_neg (by decide), if_pos rfl]
      omega
    · rw [if_pos (by omega : i + 1 ≤ b)]
      exact h4 i hi (by omega)
theorem seg.bin {F : Nat → Int32} {a b c D1 D2 D : Nat} (h : seg F a b D1) (g : seg F b c D2) (h8 : ¬ -8 < F c) (h12 : ¬ F c = -12) (d1 : D1 ≤ D) (d2 : D2 + 1 ≤ D) (d3 : 2 ≤ D) : seg F a (c + 1) D := by
  obtain ⟨h, h1, h2, h3, h4⟩ := h
  obtain ⟨g, g1, g2, g3, g4⟩ := g
  have e : ∀ i, (fun i => if i ≤ b then h i else if i ≤ c then g i + 1 else 1) i = if i ≤ b then h i else if i ≤ c then g i + 1 else 1 := fun _ => rfl
  generalize (fun i => if i ≤ b then h i else if i ≤ c then g i + 1 else 1) = k at e
  refine ⟨k, ?_, ?_, by omega, fun i hi hib => ?_⟩
  · rw [e, if_pos (by omega)]; exact h1
  · rw [e, if_neg (by omega), if_neg (by omega)]
  by_cases c1 : i < b
  · rw [e, e, if_pos (by omega : i ≤ b), if_pos (by omega : i + 1 ≤ b)]
    obtain ⟨q1, q2⟩ := h4 i hi c1
    exact ⟨by omega, q2⟩
  have ki : i ≤ c → k i = g i + 1 := by
    intro hc
    rw [e]
    by_cases c2 : i ≤ b
    · have : i = b := by omega
      subst this
      rw [if_pos c2, h2, g1]
    · rw [if_neg c2, if_pos hc]
  by_cases c3 : i < c
  · rw [ki (by omega), e, if_neg (by omega : ¬ i + 1 ≤ b), if_pos (by omega : i + 1 ≤ c)]
    obtain ⟨q1, q2⟩ := g4 i (by omega) c3
    refine ⟨by omega, ?_⟩
    by_cases f1 : -8 < F i
    · rw [if_pos f1] at q2 ⊢; omega
    · rw [if_neg f1] at q2 ⊢
      by_cases f2 : F i = -12
      · rw [if_pos f2] at q2 ⊢; omega
      · rw [if_neg f2] at q2 ⊢; omega
  · have : i = c := by omega
    subst this
    rw [ki (by omega), g2, e, if_neg (by omega : ¬ i + 1 ≤ b), if_neg (by omega : ¬ i + 1 ≤ i), if_neg h8, if_neg h12]
    omega
theorem seg.hw {F : Nat → Int32} {a b D : Nat} (h : seg F a b D) (hD : D ≤ 35) : ∃ k, hw (fun i => F (a + i)) (b - a) k := by
  obtain ⟨h, h1, h2, h3, h4⟩ := h
  refine ⟨fun i => h (a + i), h1, ?_, fun i hi => ?_⟩
  · show h (a + (b - a)) = 1
    rw [Nat.add_sub_cancel' (by omega)]; exact h2
  · obtain ⟨q1, q2⟩ := h4 (a + i) (by omega) (by omega)
    exact ⟨by show h (a + i) ≤ 35; omega, q2⟩
end
