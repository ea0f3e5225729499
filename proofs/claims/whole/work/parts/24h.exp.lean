/-! an EXPR on both sides: operators from the left -/
def eQ (f : Nat → Int32) (n qt : Nat) (s0 t0 : zS) (D : Nat) (v : Nat → Nat) (d : Int32) (p ns : Nat) (s s' t' : zS) : Prop := ∃ p' ns', sA f n qt s0 t0 v d p' ns' s' t' ∧ ns' + tB f n p ≤ ns + tB f n p' ∧ tB f n p < tB f n p' ∧ seg (s' (qt + 16)) ns ns' D ∧ ∀ i, i < ns → s' (qt + 16) i = s (qt + 16) i
theorem tK_0 {f : Nat → Int32} {n p : Nat} (h : n ≤ tB f n p) : tK f n p = 0 := by unfold tK; rw [if_pos h]
theorem tS_k {f : Nat → Int32} {n p : Nat} {c : Int32} (h : tS f n p c = true) : tK f n p = 3 := by
  unfold tS at h
  rw [Bool.and_eq_true, decide_eq_true_iff] at h
  exact h.1
theorem tW_k {f : Nat → Int32} {n p k : Nat} (h : tW f n p k = true) : tK f n p = 1 := by
  unfold tW at h
  rw [Bool.and_eq_true, decide_eq_true_iff] at h
  exact h.1
theorem tS_f {f : Nat → Int32} {n p : Nat} {c : Int32} (h : tK f n p ≠ 3) : tS f n p c = false := Bool.eq_false_iff.mpr (fun z => h (tS_k z))
theorem tW_f {f : Nat → Int32} {n p k : Nat} (h : tK f n p ≠ 1) : tW f n p k = false := Bool.eq_false_iff.mpr (fun z => h (tW_k z))
section
variable {f : Nat → Int32} {n qt : Nat} {s0 t0 : zS}
theorem lpR (he : en f n qt s0 t0) {Lc : Int32 × zS → Option ((Int32 × zS) ⊕ (Int32 × zS))} {Lm : zS → Option (zS ⊕ (Int32 × zS))} {G H : zS → Option (Int32 × zS)} {D O : Nat} (hG : eR f n qt s0 t0 O G H) (hD : O + 1 ≤ D) (hD2 : 2 ≤ D)
    (hc0 : ∀ x s, ¬ s 4 8 = 0 → Lc (x, s) = some (.inr (0, s))) (hm0 : ∀ t, ¬ t 0 25 = 0 → Lm t = some (.inr (0, t)))
    (hstep : ∀ v d p ns s t i, sA f n qt s0 t0 v d p ns s t → i ≤ tB f n p → (Lc (nI i, s) = some (.inr (0, s)) ∧ Lm t = some (.inr (0, t))) ∨ (tK f n p ≠ 0 ∧ ∃ x y, sg x y ∧ ¬ -8 < x ∧ ¬ x = -12 ∧ Lc (nI i, s) = zbd (FX3_readToken 4 s) (fun _ s1 => zbd (G s1) (fun _ s2 => zgd (kd 0 (s2 4 1).toNatClampNeg == 5) (zlet (s2 4 1).toNatClampNeg (fun q => zbd (FX4_add (q + 14) x s2) (fun _ s3 => zlet (nI i + 1) (fun x2 => some (.inl (x2, s3)))))))) ∧ Lm t = zbd (FX8_stepOn 0 t) (fun _ t1 => zbd (H t1) (fun _ t2 => zbd (FX8_putSign 0 y t2) (fun _ t3 => some (.inl t3)))))) :
    ∀ k v d p ns a s t i, n ≤ k + tB f n p → sA f n qt s0 t0 v d p ns s t → i ≤ tB f n p → seg (s (qt + 16)) a ns D → ∃ s' t', zlp Lc (nI i, s) = some (0, s') ∧ zlp Lm t = some (0, t') ∧ ((∃ p' ns', sA f n qt s0 t0 v d p' ns' s' t' ∧ ns' + tB f n p ≤ ns + tB f n p' ∧ tB f n p ≤ tB f n p' ∧ seg (s' (qt + 16)) a ns' D ∧ ∀ i, i < ns → s' (qt + 16) i = s (qt + 16) i) ∨ sB f n qt s0 t0 s' t') := by
  obtain ⟨n7, hq, -⟩ := id he
  intro k
  induction k with
  | zero =>
    intro v d p ns a s t i hk h hi hsg
    rcases hstep v d p ns s t i h hi with ⟨c1, c2⟩ | ⟨c1, -⟩
    · exact ⟨s, t, zlp_end c1, zlp_end c2, Or.inl ⟨p, ns, h, Nat.le_refl _, Nat.le_refl _, hsg, fun _ _ => rfl⟩⟩
    · have := (tK_b (f := f) h.1.2.2.2.1 c1).1
      omega
  | succ k ih =>
    intro v d p ns a s t i hk h hi hsg
    rcases hstep v d p ns s t i h hi with ⟨c1, c2⟩ | ⟨c1, x, y, c2, c3, c4, c5, c6⟩
    · exact ⟨s, t, zlp_end c1, zlp_end c2, Or.inl ⟨p, ns, h, Nat.le_refl _, Nat.le_refl _, hsg, fun _ _ => rfl⟩⟩
    have hp := h.1.2.2.2.1
    have hB := tK_b (f := f) hp c1
    have hE := tEB (f := f) hp
    have hE2 := hE.2 c1
    have h7 := h.2.2.2.2.2.2
    obtain ⟨s1, t1, g1, g2, A1, g4, g5⟩ := h.tok he
    obtain ⟨r2, s2, b2, t2, e1, e2, hP⟩ := hG v d _ ns s1 t1 A1
    rw [g1, zbd_s, e1, zbd_s] at c5
    rw [g2, zbd_s, e2, zbd_s] at c6
    rcases hP with ⟨p2, ns2, A2, q1, q2, q3, q4⟩ | B2
    · obtain ⟨s3, t3, j1, j2, A3, j4, j5, j6⟩ := A2.add he c2 (by omega)
      rw [A2.1.ptr hq, j1, zbd_s, zlet_eq, nI_1] at c5
      rw [j2, zbd_s] at c6
      have o1 : ∀ i, i < ns → s3 (qt + 16) i = s (qt + 16) i := fun i hi => by
        have := q3
        obtain ⟨-, -, -, hlt, -⟩ := this
        rw [j4, upd_o (by omega), q4 i hi, g4 (qt + 16) i (by omega)]
      have o2 : ∀ i, i < ns2 → s3 (qt + 16) i = s2 (qt + 16) i := fun i hi => by rw [j4, upd_o (by omega)]
      have sg3 : seg (s3 (qt + 16)) a (ns2 + 1) D := by
        refine seg.bin (b := ns) (hsg.cg (fun i _ hi => (o1 i hi).symm)) (q3.cg (fun i _ hi => (o2 i hi).symm)) ?_ ?_ (Nat.le_refl D) hD hD2
        · rw [j4, upd_i]; exact c3
        · rw [j4, upd_i]; exact c4
      obtain ⟨s', t', w1, w2, w3⟩ := ih v d p2 (ns2 + 1) a s3 t3 (i + 1) (by omega) A3 (by omega) sg3
      refine ⟨s', t', (zlp_step c5).trans w1, (zlp_step c6).trans w2, w3.imp ?_ id⟩
      rintro ⟨p', ns', z1, z2, z3, z4, z5⟩
      obtain ⟨-, -, -, hlt, -⟩ := q3
      exact ⟨p', ns', z1, by omega, by omega, z4, fun i hi => by rw [z5 i (by omega)]; exact o1 i hi⟩
    · obtain ⟨⟨p2, C2⟩, -⟩ := id B2
      obtain ⟨r3, s3, j1, B3⟩ := B2.go (k_add he (x := fun _ => x))
      rw [C2.ptr hq, show FX4_add (qt + 14) x s2 = _ from j1, zbd_s, zlet_eq] at c5
      rw [gPs0 B2.b, zbd_s] at c6
      exact ⟨s3, t2, (zlp_step c5).trans (zlp_end (hc0 _ s3 B3.2.2.1)), (zlp_step c6).trans (zlp_end (hm0 t2 B2.b)), Or.inr B3⟩
theorem e_Prod (he : en f n qt s0 t0) {w a b D : Nat} (ih : eR f n qt s0 t0 D (fun s => FGX a 6 4 (nI w) 0 s) (fun t => FGY b 5 0 (nI w) 0 t)) (hD : 1 ≤ D) : eR f n qt s0 t0 (D + 1) (fun s => FGX (a + 1) 5 4 (nI w) 0 s) (fun t => FGY (b + 1) 4 0 (nI w) 0 t) := by
  obtain ⟨n7, hq, -⟩ := id he
  have hc0 : ∀ x s, ¬ s 4 8 = 0 → (fun q : Int32 × zS => FX3_readProduct_L7 (FGX a) 4 (nI w) q.1 q.2) (x, s) = some (.inr (0, s)) := by
    intro x s h
    show FX3_readProduct_L7 (FGX a) 4 (nI w) x s = _
    unfold FX3_readProduct_L7 FX3_readProduct_b82
    rw [if_neg h]
    split <;> rfl
  have hm0 : ∀ t, ¬ t 0 25 = 0 → (fun q : zS => FX8_readProduct_L5 (FGY b) 0 (nI w) q) t = some (.inr (0, t)) := by
    intro t h
    show FX8_readProduct_L5 (FGY b) 0 (nI w) t = _
    unfold FX8_readProduct_L5 FX8_readProduct_b57
    rw [gSg0 h, zbd_s, if_pos rfl, gSg0 h, zbd_s, if_pos rfl]
    rfl
  intro v d p ns s t h
  show ∃ r s' b' t', FX3_readProduct (FGX a) 4 (nI w) s = some (r, s') ∧ FX8_readProduct (FGY b) 0 (nI w) t = some (b', t') ∧ eP f n qt s0 t0 (D + 1) v d p ns s s' t'
  unfold FX3_readProduct FX8_readProduct
  obtain ⟨r1, s1, b1, t1, e1, e2, hP⟩ := ih v d p ns s t h
  rw [show FGX a 6 4 (nI w) 0 s = _ from e1, show FGY b 5 0 (nI w) 0 t = _ from e2, zbd_s, zbd_s, zlet_eq]
  rcases hP with ⟨p1, ns1, A1, q1, q2, q3, q4⟩ | B1
  · obtain ⟨s', t', w1, w2, w3⟩ := lpR he (Lc := fun q => FX3_readProduct_L7 (FGX a) 4 (nI w) q.1 q.2) (Lm := fun q => FX8_readProduct_L5 (FGY b) 0 (nI w) q) (D := D + 1) ih (Nat.le_refl _) (by omega) hc0 hm0 (by
      intro v d p ns s t i h hi
      have hK : 700 ≤ i → tK f n p = 0 := fun c => tK_0 (by omega)
      have hp := tB_b (f := f) h.1.2.2.2.1
      show (FX3_readProduct_L7 (FGX a) 4 (nI w) (nI i) s = _ ∧ FX8_readProduct_L5 (FGY b) 0 (nI w) t = _) ∨ (_ ∧ ∃ x y, _ ∧ _ ∧ _ ∧ FX3_readProduct_L7 (FGX a) 4 (nI w) (nI i) s = _ ∧ FX8_readProduct_L5 (FGY b) 0 (nI w) t = _)
      unfold FX3_readProduct_L7 FX3_readProduct_b39 FX3_readProduct_b55 FX3_readProduct_b82 FX8_readProduct_L5 FX8_readProduct_b57 FX8_readProduct_b23 FX8_readProduct_b39
      have m1 := gSg (c := 42) he h.2.1 h.2.2.2.1 (by decide)
      have m2 := gSg (c := 47) he h.2.1 h.2.2.2.1 (by decide)
      simp only [fSg h.1, m1, m2, zbd_s, if_pos h.2.2.1, zlet_eq]
      by_cases c7 : 700 ≤ i
      · left
        rw [if_pos (show (700 : Int32) ≤ nI i from nI_le (a := 700) c7 (by omega)), tS_f (c := 42) (by rw [hK c7]; decide), tS_f (c := 47) (by rw [hK c7]; decide), b01_f, if_pos rfl, if_pos rfl]
        exact ⟨rfl, rfl⟩
      rw [if_neg (show ¬ (700 : Int32) ≤ nI i from nI_ge (b := 700) (by omega) (by decide))]
      cases c1 : tS f n p 42
      · cases c2 : tS f n p 47
        · left
          simp only [b01_f, if_true]
          exact ⟨rfl, rfl⟩
        · right
          refine ⟨by rw [tS_k c2]; decide, -18, -23, by unfold sg; decide, by decide, by decide, ?_, ?_⟩
          · simp only [b01_f, b01_t, if_true, if_false, li_1_0]
          · simp only [b01_f, b01_t, if_true, if_false, li_1_0]
      · right
        refine ⟨by rw [tS_k c1]; decide, -17, -22, by unfold sg; decide, by decide, by decide, ?_, ?_⟩
        · simp only [b01_t, if_false, li_1_0]
        · simp only [b01_t, if_false, li_1_0]) n v d p1 ns1 ns s1 t1 0 (by omega) A1 (by omega) (q3.up (by omega))
    refine ⟨0, s', 0, t', w1, w2, w3.imp ?_ id⟩
    rintro ⟨p', ns', z1, z2, z3, z4, z5⟩
    obtain ⟨-, -, -, hlt, -⟩ := q3
    exact ⟨p', ns', z1, by omega, by omega, z4, fun i hi => by rw [z5 i (by omega)]; exact q4 i hi⟩
  · exact ⟨0, s1, 0, t1, zlp_end (hc0 0 s1 B1.2.2.1), zlp_end (hm0 t1 B1.b), Or.inr B1⟩
theorem e_Sum (he : en f n qt s0 t0) {w a b D : Nat} (ih : eR f n qt s0 t0 D (fun s => FGX a 5 4 (nI w) 0 s) (fun t => FGY b 4 0 (nI w) 0 t)) (hD : 1 ≤ D) : eR f n qt s0 t0 (D + 1) (fun s => FGX (a + 1) 4 4 (nI w) 0 s) (fun t => FGY (b + 1) 3 0 (nI w) 0 t) := by
  obtain ⟨n7, hq, -⟩ := id he
  have hc0 : ∀ x s, ¬ s 4 8 = 0 → (fun q : Int32 × zS => FX3_readSum_L7 (FGX a) 4 (nI w) q.1 q.2) (x, s) = some (.inr (0, s)) := by
    intro x s h
    show FX3_readSum_L7 (FGX a) 4 (nI w) x s = _
    unfold FX3_readSum_L7 FX3_readSum_b82
    rw [if_neg h]
    split <;> rfl
  have hm0 : ∀ t, ¬ t 0 25 = 0 → (fun q : zS => FX8_readSum_L5 (FGY b) 0 (nI w) q) t = some (.inr (0, t)) := by
    intro t h
    show FX8_readSum_L5 (FGY b) 0 (nI w) t = _
    unfold FX8_readSum_L5 FX8_readSum_b57
    rw [gSg0 h, zbd_s, if_pos rfl, gSg0 h, zbd_s, if_pos rfl]
    rfl
  intro v d p ns s t h
  show ∃ r s' b' t', FX3_readSum (FGX a) 4 (nI w) s = some (r, s') ∧ FX8_readSum (FGY b) 0 (nI w) t = some (b', t') ∧ eP f n qt s0 t0 (D + 1) v d p ns s s' t'
  unfold FX3_readSum FX8_readSum
  obtain ⟨r1, s1, b1, t1, e1, e2, hP⟩ := ih v d p ns s t h
  rw [show FGX a 5 4 (nI w) 0 s = _ from e1, show FGY b 4 0 (nI w) 0 t = _ from e2, zbd_s, zbd_s, zlet_eq]
  rcases hP with ⟨p1, ns1, A1, q1, q2, q3, q4⟩ | B1
  · obtain ⟨s', t', w1, w2, w3⟩ := lpR he (Lc := fun q => FX3_readSum_L7 (FGX a) 4 (nI w) q.1 q.2) (Lm := fun q => FX8_readSum_L5 (FGY b) 0 (nI w) q) (D := D + 1) ih (Nat.le_refl _) (by omega) hc0 hm0 (by
      intro v d p ns s t i h hi
      have hK : 700 ≤ i → tK f n p = 0 := fun c => tK_0 (by omega)
      have hp := tB_b (f := f) h.1.2.2.2.1
      show (FX3_readSum_L7 (FGX a) 4 (nI w) (nI i) s = _ ∧ FX8_readSum_L5 (FGY b) 0 (nI w) t = _) ∨ (_ ∧ ∃ x y, _ ∧ _ ∧ _ ∧ FX3_readSum_L7 (FGX a) 4 (nI w) (nI i) s = _ ∧ FX8_readSum_L5 (FGY b) 0 (nI w) t = _)
      unfold FX3_readSum_L7 FX3_readSum_b39 FX3_readSum_b55 FX3_readSum_b82 FX8_readSum_L5 FX8_readSum_b57 FX8_readSum_b23 FX8_readSum_b39
      have m1 := gSg (c := 43) he h.2.1 h.2.2.2.1 (by decide)
      have m2 := gSg (c := 45) he h.2.1 h.2.2.2.1 (by decide)
      simp only [fSg h.1, m1, m2, zbd_s, if_pos h.2.2.1, zlet_eq]
      by_cases c7 : 700 ≤ i
      · left
        rw [if_pos (show (700 : Int32) ≤ nI i from nI_le (a := 700) c7 (by omega)), tS_f (c := 43) (by rw [hK c7]; decide), tS_f (c := 45) (by rw [hK c7]; decide), b01_f, if_pos rfl, if_pos rfl]
        exact ⟨rfl, rfl⟩
      rw [if_neg (show ¬ (700 : Int32) ≤ nI i from nI_ge (b := 700) (by omega) (by decide))]
      cases c1 : tS f n p 43
      · cases c2 : tS f n p 45
        · left
          simp only [b01_f, if_true]
          exact ⟨rfl, rfl⟩
        · right
          refine ⟨by rw [tS_k c2]; decide, -16, -21, by unfold sg; decide, by decide, by decide, ?_, ?_⟩
          · simp only [b01_f, b01_t, if_true, if_false, li_1_0]
          · simp only [b01_f, b01_t, if_true, if_false, li_1_0]
      · right
        refine ⟨by rw [tS_k c1]; decide, -15, -20, by unfold sg; decide, by decide, by decide, ?_, ?_⟩
        · simp only [b01_t, if_false, li_1_0]
        · simp only [b01_t, if_false, li_1_0]) n v d p1 ns1 ns s1 t1 0 (by omega) A1 (by omega) (q3.up (by omega))
    refine ⟨0, s', 0, t', w1, w2, w3.imp ?_ id⟩
    rintro ⟨p', ns', z1, z2, z3, z4, z5⟩
    obtain ⟨-, -, -, hlt, -⟩ := q3
    exact ⟨p', ns', z1, by omega, by omega, z4, fun i hi => by rw [z5 i (by omega)]; exact q4 i hi⟩
  · exact ⟨0, s1, 0, t1, zlp_end (hc0 0 s1 B1.2.2.1), zlp_end (hm0 t1 B1.b), Or.inr B1⟩
theorem e_Test (he : en f n qt s0 t0) {w a b D : Nat} (ih : eR f n qt s0 t0 D (fun s => FGX a 4 4 (nI w) 0 s) (fun t => FGY b 3 0 (nI w) 0 t)) (hD : 1 ≤ D) (v : Nat → Nat) (d : Int32) (p ns : Nat) (s t : zS) (x2 : Int32) (h : sA f n qt s0 t0 v d p ns s t) : ∃ r s' t', FGX (a + 1) 3 4 (nI w) 0 s = some (r, s') ∧ FX8_readNot_b40 (FGY b) 0 (nI w) x2 t = FX8_readNot_b94 (FGY b) 0 x2 t' ∧ eP f n qt s0 t0 (D + 1) v d p ns s s' t' := by
  obtain ⟨n7, hq, -⟩ := id he
  show ∃ r s' t', FX3_readTest (FGX a) 4 (nI w) s = some (r, s') ∧ _
  unfold FX3_readTest FX3_readTest_b30 FX3_readTest_b46 FX3_readTest_b67 FX8_readNot_b40 FX8_readNot_b63 FX8_readNot_b79
  obtain ⟨r1, s1, b1, t1, e1, e2, hP⟩ := ih v d p ns s t h
  rw [show FGX a 4 4 (nI w) 0 s = _ from e1, show FGY b 3 0 (nI w) 0 t = _ from e2, zbd_s, zbd_s]
  rcases hP with ⟨p1, ns1, A1, q1, q2, q3, q4⟩ | B1
  · have hp := A1.1.2.2.2.1
    have hE := tEB (f := f) hp
    have h7 := A1.2.2.2.2.2.2
    have m1 := gSg (c := 60) he A1.2.1 A1.2.2.2.1 (by decide)
    have m2 := gSg (c := 61) he A1.2.1 A1.2.2.2.1 (by decide)
    have c1 := fSg (c := 60) A1.1
    have c2 := fSg (c := 61) A1.1
    -- with an operator
    have op : ∀ x y : Int32, tK f n p1 = 3 → sg x y → ¬ -8 < x → ¬ x = -12 → ∃ r s' t', (zbd (FX3_readToken 4 s1) fun _ σ_2 => zbd (FGX a 4 4 (nI w) 0 σ_2) fun _ σ_4 => zgd (kd 0 (σ_4 4 1).toNatClampNeg == 5) (zlet (σ_4 4 1).toNatClampNeg fun q_6 => zbd (FX4_add (q_6 + 14) x σ_4) fun _ σ_7 => some ((0 : Int32), σ_7))) = some (r, s') ∧ (zbd (FX8_stepOn 0 t1) fun _ σ_6 => zbd (FGY b 3 0 (nI w) 0 σ_6) fun _ σ_8 => zbd (FX8_putSign 0 y σ_8) fun _ σ_10 => FX8_readNot_b94 (FGY b) 0 x2 σ_10) = FX8_readNot_b94 (FGY b) 0 x2 t' ∧ eP f n qt s0 t0 (D + 1) v d p ns s s' t' := by
      intro x y k3 hs n8 n12
      have hE2 := hE.2 (by omega)
      obtain ⟨s2, t2, g1, g2, A2, g4, g5⟩ := A1.tok he
      obtain ⟨r3, s3, b3, t3, e3, e4, hP3⟩ := ih v d _ ns1 s2 t2 A2
      rw [g1, g2, zbd_s, zbd_s, show FGX a 4 4 (nI w) 0 s2 = _ from e3, show FGY b 3 0 (nI w) 0 t2 = _ from e4, zbd_s, zbd_s]
      rcases hP3 with ⟨p3, ns3, A3, u1, u2, u3, u4⟩ | B3
      · obtain ⟨s4, t4, j1, j2, A4, j4, j5, j6⟩ := A3.add he hs (by omega)
        rw [A3.1.ptr hq, j1, zbd_s, j2, zbd_s]
        obtain ⟨-, -, -, hlt, -⟩ := id u3
        obtain ⟨-, -, -, hlt1, -⟩ := id q3
        have o1 : ∀ i, i < ns1 → s4 (qt + 16) i = s1 (qt + 16) i := fun i hi => by
          rw [j4, upd_o (by omega), u4 i hi, g4 (qt + 16) i (by omega)]
        have o2 : ∀ i, i < ns3 → s4 (qt + 16) i = s3 (qt + 16) i := fun i hi => by rw [j4, upd_o (by omega)]
        refine ⟨0, s4, t4, rfl, rfl, Or.inl ⟨p3, ns3 + 1, A4, by omega, by omega, ?_, fun i hi => by rw [o1 i (by omega)]; exact q4 i hi⟩⟩
        refine seg.bin (b := ns1) (q3.cg (fun i _ hi => (o1 i hi).symm)) (u3.cg (fun i _ hi => (o2 i hi).symm)) ?_ ?_ (by omega) (Nat.le_refl _) (by omega)
        · rw [j4, upd_i]; exact n8
        · rw [j4, upd_i]; exact n12
      · obtain ⟨⟨p3, C3⟩, -⟩ := id B3
        obtain ⟨r4, s4, j1, B4⟩ := B3.go (k_add he (x := fun _ => x))
        rw [C3.ptr hq, show FX4_add (qt + 14) x s3 = _ from j1, zbd_s, gPs0 B3.b, zbd_s]
        exact ⟨0, s4, t3, rfl, rfl, Or.inr B4⟩
    simp only [if_pos A1.2.2.1, c1, m1, c2, m2, zbd_s, zlet_eq]
    simp only [zlet_eq] at op
    cases k1 : tS f n p1 60
    · cases k2 : tS f n p1 61
      · simp only [b01_f, if_true]
        exact ⟨0, s1, t1, rfl, rfl, Or.inl ⟨p1, ns1, A1, q1, q2, q3.up (by omega), q4⟩⟩
      · simp only [b01_f, b01_t, if_true, if_false, li_1_0]
        exact op (-14) (-25) (tS_k k2) (by unfold sg; decide) (by decide) (by decide)
    · simp only [b01_t, if_false, li_1_0]
      exact op (-13) (-24) (tS_k k1) (by unfold sg; decide) (by decide) (by decide)
  · rw [if_neg B1.2.2.1, gSg0 B1.b, zbd_s, if_pos rfl, gSg0 B1.b, zbd_s, if_pos rfl]
    exact ⟨0, s1, t1, rfl, rfl, Or.inr B1⟩
end
