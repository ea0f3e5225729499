/-! 'not's, and the EXPR itself, on both sides -/
section
variable {f : Nat → Int32} {n qt : Nat} {s0 t0 : zS}
theorem e_Not (he : en f n qt s0 t0) {w b D A0 : Nat} (hb : 3 ≤ b) (hD : 1 ≤ D) (ihT : ∀ a, A0 ≤ a → ∀ v d p ns s t x2, sA f n qt s0 t0 v d p ns s t → ∃ r s' t', FGX a 3 4 (nI w) 0 s = some (r, s') ∧ FX8_readNot_b40 (FGY b) 0 (nI w) x2 t = FX8_readNot_b94 (FGY b) 0 x2 t' ∧ eP f n qt s0 t0 D v d p ns s s' t') : ∀ dd c a, dd + c = 6 → A0 + dd + 1 ≤ a → ∀ v d p ns s t, sA f n qt s0 t0 v d p ns s t → ∃ r s' t', FGX a 2 4 (nI w) (nI c) s = some (r, s') ∧ ((∃ K t1, c ≤ K ∧ K ≤ 6 ∧ zlp (fun q : Int32 × zS => FX8_readNot_L2 (FGY b) 0 (nI w) q.1 q.2) (nI c, t) = FX8_readNot_b94 (FGY b) 0 (nI K) t1 ∧ zlp (fun q : Int32 × zS => FX8_readNot_L96 (FGY b) 0 (nI K) q.1 q.2) (0, t1) = zlp (fun q : Int32 × zS => FX8_readNot_L96 (FGY b) 0 (nI K) q.1 q.2) (nI (K - c), t') ∧ eQ f n qt s0 t0 D v d p ns s s' t') ∨ (zlp (fun q : Int32 × zS => FX8_readNot_L2 (FGY b) 0 (nI w) q.1 q.2) (nI c, t) = some (0, t') ∧ sB f n qt s0 t0 s' t')) := by
  obtain ⟨n7, hq, -⟩ := id he
  intro dd
  induction dd with
  | zero =>
    intro c a hc ha v d p ns s t h
    obtain ⟨a, rfl⟩ : ∃ j, a = j + 1 := ⟨a - 1, by omega⟩
    have wc := fWd (k := 13) he h.1 (by decide)
    have wm := gWd (k := 13) he h.2.1 h.2.2.2.1 (by decide)
    show ∃ r s' t', FX3_readNot (FGX a) 4 (nI w) (nI c) s = some (r, s') ∧ _
    unfold FX3_readNot FX3_readNot_b55
    rw [wc, zbd_s]
    have hL : FX8_readNot_L2 (FGY b) 0 (nI w) (nI c) t = if b01 (tW f n p 13) = 0 then zinr (FX8_readNot_b40 (FGY b) 0 (nI w) (nI c) t) else if nI c = 6 then zbd (FX8_wrong 0 2 t) (fun _ σ_25 => FX8_readNot_b23 (FGY b) 0 (nI w) (nI c) σ_25) else FX8_readNot_b23 (FGY b) 0 (nI w) (nI c) t := by
      unfold FX8_readNot_L2
      rw [wm, zbd_s]
    cases k1 : tW f n p 13
    · rw [k1, b01_f, if_pos rfl] at hL
      obtain ⟨r1, s1, t1, e1, e2, hP⟩ := ihT a (by omega) v d p ns s t (nI c) h
      rw [b01_f, if_pos rfl, e1, zbd_s]
      have z1 := zlp_exit (f := fun q : Int32 × zS => FX8_readNot_L2 (FGY b) 0 (nI w) q.1 q.2) (a := (nI c, t)) hL
      rw [e2] at z1
      rcases hP with hQ | hB
      · exact ⟨0, s1, t1, rfl, Or.inl ⟨c, t1, Nat.le_refl c, by omega, z1, by rw [Nat.sub_self]; rfl, hQ⟩⟩
      · exact ⟨0, s1, t1, rfl, Or.inr ⟨by rw [z1, gNl0 (by omega) hB.b], hB⟩⟩
    · obtain ⟨s1, t1, g1, g2, B1⟩ := h.fail (k := 2) (by decide)
      have c6 : nI c = 6 := by rw [show c = 6 from by omega]; rfl
      rw [k1, b01_t, if_neg (by decide), if_pos c6, g2, zbd_s] at hL
      unfold FX8_readNot_b23 at hL
      rw [zlet_eq, if_neg B1.b, nI_1] at hL
      rw [b01_t, if_neg (by decide), if_neg (by rw [c6]; decide), g1, zbd_s]
      exact ⟨0, s1, t1, rfl, Or.inr ⟨(zlp_step (f := fun q : Int32 × zS => FX8_readNot_L2 (FGY b) 0 (nI w) q.1 q.2) (a' := (nI (c + 1), t1)) hL).trans (gNt0 hb (by omega) B1.b), B1⟩⟩
  | succ dd ih =>
    intro c a hc ha v d p ns s t h
    obtain ⟨a, rfl⟩ : ∃ j, a = j + 1 := ⟨a - 1, by omega⟩
    have wc := fWd (k := 13) he h.1 (by decide)
    have wm := gWd (k := 13) he h.2.1 h.2.2.2.1 (by decide)
    show ∃ r s' t', FX3_readNot (FGX a) 4 (nI w) (nI c) s = some (r, s') ∧ _
    unfold FX3_readNot FX3_readNot_b55
    rw [wc, zbd_s]
    have hL : FX8_readNot_L2 (FGY b) 0 (nI w) (nI c) t = if b01 (tW f n p 13) = 0 then zinr (FX8_readNot_b40 (FGY b) 0 (nI w) (nI c) t) else if nI c = 6 then zbd (FX8_wrong 0 2 t) (fun _ σ_25 => FX8_readNot_b23 (FGY b) 0 (nI w) (nI c) σ_25) else FX8_readNot_b23 (FGY b) 0 (nI w) (nI c) t := by
      unfold FX8_readNot_L2
      rw [wm, zbd_s]
    cases k1 : tW f n p 13
    · rw [k1, b01_f, if_pos rfl] at hL
      obtain ⟨r1, s1, t1, e1, e2, hP⟩ := ihT a (by omega) v d p ns s t (nI c) h
      rw [b01_f, if_pos rfl, e1, zbd_s]
      have z1 := zlp_exit (f := fun q : Int32 × zS => FX8_readNot_L2 (FGY b) 0 (nI w) q.1 q.2) (a := (nI c, t)) hL
      rw [e2] at z1
      rcases hP with hQ | hB
      · exact ⟨0, s1, t1, rfl, Or.inl ⟨c, t1, Nat.le_refl c, by omega, z1, by rw [Nat.sub_self]; rfl, hQ⟩⟩
      · exact ⟨0, s1, t1, rfl, Or.inr ⟨by rw [z1, gNl0 (by omega) hB.b], hB⟩⟩
    · have hp := h.1.2.2.2.1
      have hE2 := (tEB (f := f) hp).2 (by rw [tW_k k1]; decide)
      have h7 := h.2.2.2.2.2.2
      obtain ⟨s1, t1, g1, g2, A1, g4, g5⟩ := h.tok he
      have c6 : ¬ nI c = 6 := fun z => by
        have := (nI_eq (b := 6) (by omega) (by decide)).mp z
        omega
      rw [k1, b01_t, if_neg (by decide), if_neg c6] at hL
      unfold FX8_readNot_b23 at hL
      rw [zlet_eq, if_pos h.2.2.2.1, g2, zbd_s, nI_1] at hL
      have z1 := zlp_step (f := fun q : Int32 × zS => FX8_readNot_L2 (FGY b) 0 (nI w) q.1 q.2) (a := (nI c, t)) (a' := (nI (c + 1), t1)) hL
      obtain ⟨r2, s2, t2, e1, hR⟩ := ih (c + 1) a (by omega) (by omega) v d _ ns s1 t1 A1
      rw [b01_t, if_neg (by decide), if_pos (show nI c < 6 from nI_lt (b := 6) (by omega) (by decide)), g1, zbd_s, nI_1, e1, zbd_s]
      rcases hR with ⟨K, u1, K1, K2, l1, l2, p2, ns2, A2, q1, q2, q3, q4⟩ | ⟨l1, B2⟩
      · obtain ⟨-, -, -, hlt, -⟩ := id q3
        obtain ⟨s3, t3, j1, j2, A3, j4, j5, j6⟩ := A2.add he (x := -12) (y := -28) (by unfold sg; decide) (by omega)
        rw [A2.1.ptr hq, j1, zbd_s]
        have st : FX8_readNot_L96 (FGY b) 0 (nI K) (nI (K - (c + 1))) t2 = some (.inl (nI (K - c), t3)) := by
          unfold FX8_readNot_L96
          rw [if_neg (nI_ge (by omega) (by omega)), j2, zbd_s, zlet_eq, nI_1, show K - (c + 1) + 1 = K - c from by omega]
        have o2 : ∀ i, i < ns2 → s3 (qt + 16) i = s2 (qt + 16) i := fun i hi => by rw [j4, upd_o (by omega)]
        refine ⟨0, s3, t3, rfl, Or.inl ⟨K, u1, by omega, K2, z1.trans l1, l2.trans (zlp_step (f := fun q : Int32 × zS => FX8_readNot_L96 (FGY b) 0 (nI K) q.1 q.2) (a := (nI (K - (c + 1)), t2)) (a' := (nI (K - c), t3)) st), p2, ns2 + 1, A3, by omega, by omega, ?_, fun i hi => ?_⟩⟩
        · exact (q3.cg (fun i _ hi => (o2 i hi).symm)).not (by rw [j4, upd_i]) hD
        · rw [o2 i (by omega), q4 i hi, g4 (qt + 16) i (by omega)]
      · obtain ⟨⟨p2, C2⟩, -⟩ := id B2
        obtain ⟨r3, s3, j1, B3⟩ := B2.go (k_add he (x := fun _ => -12))
        rw [C2.ptr hq, show FX4_add (qt + 14) (-12) s2 = _ from j1, zbd_s]
        exact ⟨0, s3, t2, rfl, Or.inr ⟨z1.trans l1, B3⟩⟩
theorem e_Not0 (he : en f n qt s0 t0) {w a b D A0 : Nat} (hb : 3 ≤ b) (hD : 1 ≤ D) (ihT : ∀ a, A0 ≤ a → ∀ v d p ns s t x2, sA f n qt s0 t0 v d p ns s t → ∃ r s' t', FGX a 3 4 (nI w) 0 s = some (r, s') ∧ FX8_readNot_b40 (FGY b) 0 (nI w) x2 t = FX8_readNot_b94 (FGY b) 0 x2 t' ∧ eP f n qt s0 t0 D v d p ns s s' t') (ha : A0 + 7 ≤ a) : eR f n qt s0 t0 D (fun s => FGX a 2 4 (nI w) 0 s) (fun t => FGY (b + 1) 2 0 (nI w) 0 t) := by
  intro v d p ns s t h
  obtain ⟨r, s', t', e1, hR⟩ := e_Not he hb hD ihT 6 0 a rfl (by omega) v d p ns s t h
  have e0 : FGY (b + 1) 2 0 (nI w) 0 t = zlp (fun q : Int32 × zS => FX8_readNot_L2 (FGY b) 0 (nI w) q.1 q.2) (nI 0, t) := by
    show FX8_readNot (FGY b) 0 (nI w) t = _
    unfold FX8_readNot
    rw [zlet_eq]
    rfl
  refine ⟨r, s', 0, t', e1, ?_, ?_⟩
  · show FGY (b + 1) 2 0 (nI w) 0 t = _
    rw [e0]
    rcases hR with ⟨K, u1, K1, K2, l1, l2, -⟩ | ⟨l1, -⟩
    · rw [l1]
      unfold FX8_readNot_b94
      rw [zlet_eq, l2]
      refine zlp_end ?_
      show FX8_readNot_L96 (FGY b) 0 (nI K) (nI (K - 0)) t' = _
      unfold FX8_readNot_L96 FX8_readNot_b113
      rw [if_pos (nI_le (by omega) (by omega))]
      rfl
    · exact l1
  · rcases hR with ⟨K, u1, K1, K2, l1, l2, hQ⟩ | ⟨l1, B⟩
    · exact Or.inl hQ
    · exact Or.inr B
theorem e_And (he : en f n qt s0 t0) {w a b D : Nat} (ih : eR f n qt s0 t0 D (fun s => FGX a 2 4 (nI w) 0 s) (fun t => FGY b 2 0 (nI w) 0 t)) (hD : 1 ≤ D) : eR f n qt s0 t0 (D + 1) (fun s => FGX (a + 1) 1 4 (nI w) 0 s) (fun t => FGY (b + 1) 1 0 (nI w) 0 t) := by
  obtain ⟨n7, hq, -⟩ := id he
  have hc0 : ∀ x s, ¬ s 4 8 = 0 → (fun q : Int32 × zS => FX3_readAnd_L8 (FGX a) 4 (nI w) q.1 q.2) (x, s) = some (.inr (0, s)) := by
    intro x s h
    show FX3_readAnd_L8 (FGX a) 4 (nI w) x s = _
    unfold FX3_readAnd_L8 FX3_readAnd_b59
    rw [if_neg h]
    split <;> rfl
  have hm0 : ∀ t, ¬ t 0 25 = 0 → (fun q : zS => FX8_readAnd_L5 (FGY b) 0 (nI w) q) t = some (.inr (0, t)) := by
    intro t h
    show FX8_readAnd_L5 (FGY b) 0 (nI w) t = _
    unfold FX8_readAnd_L5 FX8_readAnd_b33
    rw [gWd0 h, zbd_s, if_pos rfl]
    rfl
  intro v d p ns s t h
  show ∃ r s' b' t', FX3_readAnd (FGX a) 4 (nI w) s = some (r, s') ∧ FX8_readAnd (FGY b) 0 (nI w) t = some (b', t') ∧ eP f n qt s0 t0 (D + 1) v d p ns s s' t'
  unfold FX3_readAnd FX8_readAnd
  obtain ⟨r1, s1, b1, t1, e1, e2, hP⟩ := ih v d p ns s t h
  rw [show FGX a 2 4 (nI w) 0 s = _ from e1, show FGY b 2 0 (nI w) 0 t = _ from e2, zbd_s, zbd_s, zlet_eq]
  rcases hP with ⟨p1, ns1, A1, q1, q2, q3, q4⟩ | B1
  · obtain ⟨s', t', w1, w2, w3⟩ := lpR he (Lc := fun q => FX3_readAnd_L8 (FGX a) 4 (nI w) q.1 q.2) (Lm := fun q => FX8_readAnd_L5 (FGY b) 0 (nI w) q) (D := D + 1) ih (Nat.le_refl _) (by omega) hc0 hm0 (by
      intro v d p ns s t i h hi
      have hK : 700 ≤ i → tK f n p = 0 := fun c => tK_0 (by omega)
      have hp := tB_b (f := f) h.1.2.2.2.1
      show (FX3_readAnd_L8 (FGX a) 4 (nI w) (nI i) s = _ ∧ FX8_readAnd_L5 (FGY b) 0 (nI w) t = _) ∨ (_ ∧ ∃ x y, _ ∧ _ ∧ _ ∧ FX3_readAnd_L8 (FGX a) 4 (nI w) (nI i) s = _ ∧ FX8_readAnd_L5 (FGY b) 0 (nI w) t = _)
      unfold FX3_readAnd_L8 FX3_readAnd_b59 FX8_readAnd_L5 FX8_readAnd_b33
      have wc := fWd (k := 12) he h.1 (by decide)
      have wm := gWd (k := 12) he h.2.1 h.2.2.2.1 (by decide)
      simp only [wc, wm, zbd_s, if_pos h.2.2.1, zlet_eq]
      by_cases c7 : 700 ≤ i
      · left
        rw [if_pos (show (700 : Int32) ≤ nI i from nI_le (a := 700) c7 (by omega)), tW_f (k := 12) (by rw [hK c7]; decide), b01_f, if_pos rfl]
        exact ⟨rfl, rfl⟩
      rw [if_neg (show ¬ (700 : Int32) ≤ nI i from nI_ge (b := 700) (by omega) (by decide))]
      cases c1 : tW f n p 12
      · left
        simp only [b01_f, if_true]
        exact ⟨rfl, rfl⟩
      · right
        refine ⟨by rw [tW_k c1]; decide, -11, -26, by unfold sg; decide, by decide, by decide, ?_, ?_⟩
        · simp only [b01_t, if_false, li_1_0]
        · simp only [b01_t, if_false, li_1_0]) n v d p1 ns1 ns s1 t1 0 (by omega) A1 (by omega) (q3.up (by omega))
    refine ⟨0, s', 0, t', w1, w2, w3.imp ?_ id⟩
    rintro ⟨p', ns', z1, z2, z3, z4, z5⟩
    obtain ⟨-, -, -, hlt, -⟩ := q3
    exact ⟨p', ns', z1, by omega, by omega, z4, fun i hi => by rw [z5 i (by omega)]; exact q4 i hi⟩
  · exact ⟨0, s1, 0, t1, zlp_end (hc0 0 s1 B1.2.2.1), zlp_end (hm0 t1 B1.b), Or.inr B1⟩
/-- a TOKEN with which no EXPR begins, told by the reference's AND -/
theorem gBadP {p : Nat} {t t1 : zS} {k : Nat} {x y : Int32} (he : en f n qt s0 t0) (h : mS f n t0 p t) (h0 : t 0 25 = 0) (k1 : tK f n p ≠ 1) (k2 : tK f n p ≠ 2) (k3 : tS f n p 40 = false) (hw : FX8_wrong 0 1 t = some (0, t1)) (h1 : ¬ t1 0 25 = 0) (hk : 2 ≤ k) : FGY k 5 0 x y t = some (0, t1) := by
  obtain ⟨k, rfl⟩ : ∃ j, k = j + 1 := ⟨k - 1, by omega⟩
  have J4 := tJ_4 (f := f) (n := n) (p := p)
  show FX8_readPart (FGY k) 0 x t = _
  unfold FX8_readPart
  rw [if_pos h0, h.2.2.2.2.1, if_neg (show ¬ nI (tJ f n p) = 2 from fun z => k2 (tJ_2.mp ((nI_eq (b := 2) (by omega) (by decide)).mp z))), if_neg (show ¬ nI (tJ f n p) = 1 from fun z => k1 (tJ_1.mp ((nI_eq (b := 1) (by omega) (by decide)).mp z)))]
  unfold FX8_mark FX8_mark_b20 FX8_mark_b31
  rw [if_pos h0, gSg he h h0 (by decide), k3, zbd_s, b01_f, if_pos rfl, hw, zbd_s, if_neg h1, zbd_s, gEx0 (by omega) h1, zbd_s, if_neg h1, if_neg h1, zbd_s]
theorem gBadA {p : Nat} {t t1 : zS} {k : Nat} {x y : Int32} (he : en f n qt s0 t0) (h : mS f n t0 p t) (h0 : t 0 25 = 0) (k1 : tK f n p ≠ 1) (k2 : tK f n p ≠ 2) (k3 : tS f n p 40 = false) (hw : FX8_wrong 0 1 t = some (0, t1)) (h1 : ¬ t1 0 25 = 0) (hk : 6 ≤ k) : FGY k 1 0 x y t = some (0, t1) := by
  have hPr : ∀ k, 3 ≤ k → ∀ x y, FGY k 4 0 x y t = some (0, t1) := by
    intro k hk x y
    obtain ⟨k, rfl⟩ : ∃ j, k = j + 1 := ⟨k - 1, by omega⟩
    show FX8_readProduct (FGY k) 0 x t = _
    unfold FX8_readProduct
    rw [gBadP he h h0 k1 k2 k3 hw h1 (by omega), zbd_s]
    refine zlp_end ?_
    show FX8_readProduct_L5 (FGY k) 0 x t1 = _
    unfold FX8_readProduct_L5 FX8_readProduct_b57
    rw [gSg0 h1, zbd_s, if_pos rfl, gSg0 h1, zbd_s, if_pos rfl]
    rfl
  have hSu : ∀ k, 4 ≤ k → ∀ x y, FGY k 3 0 x y t = some (0, t1) := by
    intro k hk x y
    obtain ⟨k, rfl⟩ : ∃ j, k = j + 1 := ⟨k - 1, by omega⟩
    show FX8_readSum (FGY k) 0 x t = _
    unfold FX8_readSum
    rw [hPr k (by omega), zbd_s]
    refine zlp_end ?_
    show FX8_readSum_L5 (FGY k) 0 x t1 = _
    unfold FX8_readSum_L5 FX8_readSum_b57
    rw [gSg0 h1, zbd_s, if_pos rfl, gSg0 h1, zbd_s, if_pos rfl]
    rfl
  have hNo : ∀ k, 5 ≤ k → ∀ x y, FGY k 2 0 x y t = some (0, t1) := by
    intro k hk x y
    obtain ⟨k, rfl⟩ : ∃ j, k = j + 1 := ⟨k - 1, by omega⟩
    show FX8_readNot (FGY k) 0 x t = _
    unfold FX8_readNot
    rw [zlet_eq]
    refine zlp_end ?_
    show FX8_readNot_L2 (FGY k) 0 x 0 t = _
    unfold FX8_readNot_L2 FX8_readNot_b40
    rw [gWd he h h0 (by decide), zbd_s, tW_f k1, b01_f, if_pos rfl, hSu k (by omega), zbd_s, gSg0 h1, zbd_s, if_pos rfl, gSg0 h1, zbd_s, if_pos rfl, show FX8_readNot_b94 (FGY k) 0 0 t1 = _ from gNl0 (N := 0) (by decide) h1]
    rfl
  obtain ⟨k, rfl⟩ : ∃ j, k = j + 1 := ⟨k - 1, by omega⟩
  show FX8_readAnd (FGY k) 0 x t = _
  unfold FX8_readAnd
  rw [hNo k (by omega), zbd_s]
  refine zlp_end ?_
  show FX8_readAnd_L5 (FGY k) 0 x t1 = _
  unfold FX8_readAnd_L5 FX8_readAnd_b33
  rw [gWd0 h1, zbd_s, if_pos rfl]
  rfl
def nY (w : Nat) : Nat := 6 * (6 - w) + 7
def dE_ (w : Nat) : Nat := 5 * (6 - w) + 1
theorem gOr0 {b : Nat} {x : Int32} {t : zS} (h : ¬ t 0 25 = 0) : zlp (fun q => FX8_readExpression_L67 (FGY b) 0 x q) t = some (0, t) := by
  refine zlp_end ?_
  unfold FX8_readExpression_L67 FX8_readExpression_b95
  rw [gWd0 h, zbd_s, if_pos rfl]
  rfl
/-- the reference begins an EXPR -/
theorem gExB {p : Nat} {t : zS} {b w : Nat} (he : en f n qt s0 t0) (h : mS f n t0 p t) (h0 : t 0 25 = 0) (hw : w ≤ 6) : FX8_readExpression (FGY b) 0 (nI w) t = if tK f n p = 2 ∨ tK f n p = 1 ∨ tS f n p 40 = true then (if w = 6 then zbd (FX8_wrong 0 2 t) (fun _ σ_12 => FX8_readExpression_b62 (FGY b) 0 (nI w) σ_12) else FX8_readExpression_b62 (FGY b) 0 (nI w) t) else zbd (FX8_wrong 0 1 t) (fun _ σ_14 => FX8_readExpression_b62 (FGY b) 0 (nI w) σ_14) := by
  have J4 := tJ_4 (f := f) (n := n) (p := p)
  have hb : FX8_readExpression_b33 (FGY b) 0 (nI w) t = (if w = 6 then zbd (FX8_wrong 0 2 t) (fun _ σ_12 => FX8_readExpression_b62 (FGY b) 0 (nI w) σ_12) else FX8_readExpression_b62 (FGY b) 0 (nI w) t) := by
    unfold FX8_readExpression_b33 FX8_readExpression_b38
    rw [zlet_eq, if_neg (by decide)]
    by_cases c : w = 6
    · rw [if_pos c, if_pos (by rw [c]; rfl)]
    · rw [if_neg c, if_neg (show ¬ nI w = 6 from fun z => c ((nI_eq (b := 6) (by omega) (by decide)).mp z))]
  unfold FX8_readExpression
  rw [if_pos h0, h.2.2.2.2.1]
  by_cases k2 : tK f n p = 2
  · rw [if_pos (show nI (tJ f n p) = 2 by rw [tJ_2.mpr k2]; rfl), if_pos (Or.inl k2), hb]
  rw [if_neg (show ¬ nI (tJ f n p) = 2 from fun z => k2 (tJ_2.mp ((nI_eq (b := 2) (by omega) (by decide)).mp z)))]
  by_cases k1 : tK f n p = 1
  · rw [if_pos (show nI (tJ f n p) = 1 by rw [tJ_1.mpr k1]; rfl), if_pos (Or.inr (Or.inl k1)), hb]
  rw [if_neg (show ¬ nI (tJ f n p) = 1 from fun z => k1 (tJ_1.mp ((nI_eq (b := 1) (by omega) (by decide)).mp z))), gSg he h h0 (by decide), zbd_s]
  cases k3 : tS f n p 40
  · rw [b01_f, if_pos rfl, if_neg (by simp [k1, k2])]
    unfold FX8_readExpression_b38
    rw [zlet_eq, if_pos rfl]
  · rw [b01_t, if_neg (by decide), if_pos (Or.inr (Or.inr rfl)), hb]
theorem e_Expr (he : en f n qt s0 t0) : ∀ dd w a b, dd + w = 6 → nE w ≤ a → nY w ≤ b → eR f n qt s0 t0 (dE_ w) (fun s => FGX a 0 4 (nI w) 0 s) (fun t => FGY b 0 0 (nI w) 0 t) := by
  obtain ⟨n7, hq, -⟩ := id he
  intro dd
  induction dd with
  | zero =>
    intro w a b hw ha hb v d p ns s t h
    unfold nY at hb
    unfold nE at ha
    obtain ⟨a, rfl⟩ : ∃ j, a = j + 1 := ⟨a - 1, by omega⟩
    obtain ⟨b, rfl⟩ : ∃ j, b = j + 1 := ⟨b - 1, by omega⟩
    show ∃ r s' b' t', FX3_readExpr (FGX a) 4 (nI w) s = some (r, s') ∧ FX8_readExpression (FGY b) 0 (nI w) t = some (b', t') ∧ _
    rw [gExB he h.2.1 h.2.2.2.1 (by omega)]
    unfold FX3_readExpr FX3_readExpr_b32 FX3_readExpr_b37
    rw [if_neg (show ¬ nI w < 6 from nI_nlt (b := 6) (by omega) (by omega)), fSg h.1, zbd_s]
    have fin : ∀ k : Int32, ¬ k = 0 → ∃ s' t', FX3_fail 4 k s = some (0, s') ∧ FX8_wrong 0 k t = some (0, t') ∧ FX8_readExpression_b62 (FGY b) 0 (nI w) t' = some (0, t') ∧ sB f n qt s0 t0 s' t' := by
      intro k hk
      obtain ⟨s1, t1, g1, g2, B1⟩ := h.fail hk
      refine ⟨s1, t1, g1, g2, ?_, B1⟩
      unfold FX8_readExpression_b62
      rw [gAd0 (by omega) B1.b, zbd_s]
      exact gOr0 B1.b
    obtain ⟨s1, t1, g1, g2, g3, B1⟩ := fin 1 (by decide)
    obtain ⟨s2, t2, j1, j2, j3, B2⟩ := fin 2 (by decide)
    by_cases k2 : tK f n p = 2
    · rw [if_pos (show s 4 3 = 2 from (h.k3 2 (by decide)).mpr k2), if_pos (Or.inl k2), if_pos (by omega), j1, zbd_s, j2, zbd_s, j3]
      exact ⟨0, s2, 0, t2, rfl, rfl, Or.inr B2⟩
    rw [if_neg (show ¬ s 4 3 = 2 from fun z => k2 ((h.k3 2 (by decide)).mp z))]
    by_cases k1 : tK f n p = 1
    · rw [if_pos (show s 4 3 = 1 from (h.k3 1 (by decide)).mpr k1), if_pos (Or.inr (Or.inl k1)), if_pos (by omega), j1, zbd_s, j2, zbd_s, j3]
      exact ⟨0, s2, 0, t2, rfl, rfl, Or.inr B2⟩
    rw [if_neg (show ¬ s 4 3 = 1 from fun z => k1 ((h.k3 1 (by decide)).mp z))]
    cases k3 : tS f n p 40
    · rw [b01_f, if_pos rfl, if_neg (by simp [k1, k2]), g1, zbd_s, g2, zbd_s, g3]
      exact ⟨0, s1, 0, t1, rfl, rfl, Or.inr B1⟩
    · rw [b01_t, if_neg (by decide), if_pos (Or.inr (Or.inr rfl)), if_pos (by omega), j1, zbd_s, j2, zbd_s, j3]
      exact ⟨0, s2, 0, t2, rfl, rfl, Or.inr B2⟩
  | succ dd ihd =>
    intro w a b hw ha hb
    have e : nE w = nE (w + 1) + 13 := by unfold nE; omega
    have e2 : nY w = nY (w + 1) + 6 := by unfold nY; omega
    have e3 : dE_ w = dE_ (w + 1) + 5 := by unfold dE_; omega
    have e4 : 1 ≤ dE_ (w + 1) := by unfold dE_; omega
    have e5 : 7 ≤ nY (w + 1) := by unfold nY; omega
    obtain ⟨a, rfl⟩ : ∃ j, a = j + 1 := ⟨a - 1, by omega⟩
    obtain ⟨b, rfl⟩ : ∃ j, b = j + 5 + 1 := ⟨b - 6, by omega⟩
    have hP : ∀ m, nE (w + 1) + 1 ≤ m → eR f n qt s0 t0 (dE_ (w + 1)) (fun s => FGX m 6 4 (nI w) 0 s) (fun t => FGY (b + 1) 5 0 (nI w) 0 t) := by
      intro m hm
      obtain ⟨m, rfl⟩ : ∃ j, m = j + 1 := ⟨m - 1, by omega⟩
      exact e_Part he (ihd (w + 1) m b (by omega) (by omega) (by omega)) (k_Expr he dd (w + 1) m (by omega) (by omega)) (by omega)
    have hPr : ∀ m, nE (w + 1) + 2 ≤ m → eR f n qt s0 t0 (dE_ (w + 1) + 1) (fun s => FGX m 5 4 (nI w) 0 s) (fun t => FGY (b + 2) 4 0 (nI w) 0 t) := by
      intro m hm
      obtain ⟨m, rfl⟩ : ∃ j, m = j + 1 := ⟨m - 1, by omega⟩
      exact e_Prod he (hP m (by omega)) (by omega)
    have hSu : ∀ m, nE (w + 1) + 3 ≤ m → eR f n qt s0 t0 (dE_ (w + 1) + 2) (fun s => FGX m 4 4 (nI w) 0 s) (fun t => FGY (b + 3) 3 0 (nI w) 0 t) := by
      intro m hm
      obtain ⟨m, rfl⟩ : ∃ j, m = j + 1 := ⟨m - 1, by omega⟩
      exact e_Sum he (hPr m (by omega)) (by omega)
    have hTe : ∀ m, nE (w + 1) + 4 ≤ m → ∀ v d p ns s t x2, sA f n qt s0 t0 v d p ns s t → ∃ r s' t', FGX m 3 4 (nI w) 0 s = some (r, s') ∧ FX8_readNot_b40 (FGY (b + 3)) 0 (nI w) x2 t = FX8_readNot_b94 (FGY (b + 3)) 0 x2 t' ∧ eP f n qt s0 t0 (dE_ (w + 1) + 3) v d p ns s s' t' := by
      intro m hm
      obtain ⟨m, rfl⟩ : ∃ j, m = j + 1 := ⟨m - 1, by omega⟩
      exact fun v d p ns s t x2 h => e_Test he (hSu m (by omega)) (by omega) v d p ns s t x2 h
    have hNo : ∀ m, nE (w + 1) + 11 ≤ m → eR f n qt s0 t0 (dE_ (w + 1) + 3) (fun s => FGX m 2 4 (nI w) 0 s) (fun t => FGY (b + 4) 2 0 (nI w) 0 t) := fun m hm => e_Not0 he (b := b + 3) (by omega) (by omega) hTe (by omega)
    have hAn : eR f n qt s0 t0 (dE_ (w + 1) + 4) (fun s => FGX a 1 4 (nI w) 0 s) (fun t => FGY (b + 5) 1 0 (nI w) 0 t) := by
      obtain ⟨m, rfl⟩ : ∃ j, a = j + 1 := ⟨a - 1, by omega⟩
      exact e_And he (hNo m (by omega)) (by omega)
    have hc0 : ∀ x s, ¬ s 4 8 = 0 → (fun q : Int32 × zS => FX3_readExpr_L48 (FGX a) 4 (nI w) q.1 q.2) (x, s) = some (.inr (0, s)) := by
      intro x s h
      show FX3_readExpr_L48 (FGX a) 4 (nI w) x s = _
      unfold FX3_readExpr_L48 FX3_readExpr_b98
      rw [if_neg h]
      split <;> rfl
    have hm0 : ∀ t, ¬ t 0 25 = 0 → (fun q : zS => FX8_readExpression_L67 (FGY (b + 5)) 0 (nI w) q) t = some (.inr (0, t)) := by
      intro t h
      show FX8_readExpression_L67 (FGY (b + 5)) 0 (nI w) t = _
      unfold FX8_readExpression_L67 FX8_readExpression_b95
      rw [gWd0 h, zbd_s, if_pos rfl]
      rfl
    intro v d p ns s t h
    show ∃ r s' b' t', FX3_readExpr (FGX a) 4 (nI w) s = some (r, s') ∧ FX8_readExpression (FGY (b + 5)) 0 (nI w) t = some (b', t') ∧ eP f n qt s0 t0 (dE_ w) v d p ns s s' t'
    rw [gExB he h.2.1 h.2.2.2.1 (by omega)]
    unfold FX3_readExpr
    obtain ⟨r1, s1, b1, t1, g1, g2, hP⟩ := hAn v d p ns s t h
    rw [if_pos (show nI w < 6 from nI_lt (b := 6) (by omega) (by decide)), show FGX a 1 4 (nI w) 0 s = _ from g1, zbd_s, zlet_eq]
    by_cases may : tK f n p = 2 ∨ tK f n p = 1 ∨ tS f n p 40 = true
    · rw [if_pos may, if_neg (by omega)]
      unfold FX8_readExpression_b62
      rw [show FGY (b + 5) 1 0 (nI w) 0 t = _ from g2, zbd_s]
      rcases hP with ⟨p1, ns1, A1, q1, q2, q3, q4⟩ | B1
      · obtain ⟨s', t', w1, w2, w3⟩ := lpR he (Lc := fun q => FX3_readExpr_L48 (FGX a) 4 (nI w) q.1 q.2) (Lm := fun q => FX8_readExpression_L67 (FGY (b + 5)) 0 (nI w) q) (D := dE_ w) hAn (by omega) (by omega) hc0 hm0 (by
          intro v d p ns s t i h hi
          have hK : 700 ≤ i → tK f n p = 0 := fun c => tK_0 (by omega)
          have hp := tB_b (f := f) h.1.2.2.2.1
          show (FX3_readExpr_L48 (FGX a) 4 (nI w) (nI i) s = _ ∧ FX8_readExpression_L67 (FGY (b + 5)) 0 (nI w) t = _) ∨ (_ ∧ ∃ x y, _ ∧ _ ∧ _ ∧ FX3_readExpr_L48 (FGX a) 4 (nI w) (nI i) s = _ ∧ FX8_readExpression_L67 (FGY (b + 5)) 0 (nI w) t = _)
          unfold FX3_readExpr_L48 FX3_readExpr_b98 FX8_readExpression_L67 FX8_readExpression_b95
          have wc := fWd (k := 11) he h.1 (by decide)
          have wm := gWd (k := 11) he h.2.1 h.2.2.2.1 (by decide)
          simp only [wc, wm, zbd_s, if_pos h.2.2.1, zlet_eq]
          by_cases c7 : 700 ≤ i
          · left
            rw [if_pos (show (700 : Int32) ≤ nI i from nI_le (a := 700) c7 (by omega)), tW_f (k := 11) (by rw [hK c7]; decide), b01_f, if_pos rfl]
            exact ⟨rfl, rfl⟩
          rw [if_neg (show ¬ (700 : Int32) ≤ nI i from nI_ge (b := 700) (by omega) (by decide))]
          cases c1 : tW f n p 11
          · left
            simp only [b01_f, if_true]
            exact ⟨rfl, rfl⟩
          · right
            refine ⟨by rw [tW_k c1]; decide, -10, -27, by unfold sg; decide, by decide, by decide, ?_, ?_⟩
            · simp only [b01_t, if_false, li_1_0]
            · simp only [b01_t, if_false, li_1_0]) n v d p1 ns1 ns s1 t1 0 (by omega) A1 (by omega) (q3.up (by omega))
        refine ⟨0, s', 0, t', w1, w2, w3.imp ?_ id⟩
        rintro ⟨p', ns', z1, z2, z3, z4, z5⟩
        obtain ⟨-, -, -, hlt, -⟩ := q3
        exact ⟨p', ns', z1, by omega, by omega, z4, fun i hi => by rw [z5 i (by omega)]; exact q4 i hi⟩
      · exact ⟨0, s1, 0, t1, zlp_end (hc0 0 s1 B1.2.2.1), zlp_end (hm0 t1 B1.b), Or.inr B1⟩
    · rw [if_neg may]
      obtain ⟨s3, t3, j1, j2, B3⟩ := h.fail (k := 1) (by decide)
      have k3 : tS f n p 40 = false := Bool.eq_false_iff.mpr (fun z => may (Or.inr (Or.inr z)))
      have gA := gBadA (k := b + 5) (x := nI w) (y := 0) he h.2.1 h.2.2.2.1 (fun z => may (Or.inr (Or.inl z))) (fun z => may (Or.inl z)) k3 j2 B3.b (by omega)
      rw [show FGY (b + 5) 1 0 (nI w) 0 t = _ from g2] at gA
      have et : t1 = t3 := congrArg Prod.snd (Option.some.inj gA)
      subst et
      have B1 : sB f n qt s0 t0 s1 t1 := by
        rcases hP with ⟨p1, ns1, A1, -⟩ | B1
        · exact absurd A1.2.2.2.1 B3.b
        · exact B1
      unfold FX8_readExpression_b62
      rw [j2, zbd_s, gAd0 (by omega) B1.b, zbd_s]
      exact ⟨0, s1, 0, t1, zlp_end (hc0 0 s1 B1.2.2.1), zlp_end (hm0 t1 B1.b), Or.inr B1⟩
end
