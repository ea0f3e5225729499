theorem gl_o {q na n nr m : Nat} {x1 : Int32} (hm : m < 6) : ∀ k a σ t b2 b3, a + k = na → gI σ t q na n nr m b2 b3 → ∃ σ' t' b2' b3', zlp (fun w : Int32 × Int32 × Int32 × zS => FX7_glass_L52 0 x1 w.1 w.2.1 w.2.2.1 w.2.2.2) (b2, b3, nI a, σ) = FX7_glass_b144 x1 b2' b3' σ' ∧ zlp (fun w : Int32 × zS => FX8_glass_L36 0 x1 w.1 w.2) (nI a, t) = FX8_glass_b136 0 x1 t' ∧ gI σ' t' q na n nr m b2' b3' := by
  intro k
  induction k with
  | zero =>
    intro a σ t b2 b3 hb h
    have h10 := h.1.2.2.1.1.1.1
    have e0 : t 3 0 = nI na := h.1.2.2.1.1.1.2.2
    obtain ⟨c1, -, -⟩ := h.1.2.2.1.c
    have kq := h.1.2.1.q
    refine ⟨σ, t, b2, b3, zlp_exit ?_, zlp_exit ?_, h⟩
    · show FX7_glass_L52 0 x1 b2 b3 (nI a) σ = _
      unfold FX7_glass_L52
      rw [kq.1, kq.2, zgd_t, zlet_eq, c1, if_pos (nI_le (by omega : na ≤ a) (by omega))]
    · show FX8_glass_L36 0 x1 (nI a) t = _
      unfold FX8_glass_L36
      rw [show (0 + 3 : Nat) = 3 from rfl, show (0 : Int32).toNatClampNeg = 0 from rfl, e0, show ln 1 3 = 18 from rfl, show zin 18 0 _ = _ from zin_n (p := 0) _ (by decide : 0 < 18) (by decide), if_pos (nI_le (by omega : na ≤ a) (by omega))]
  | succ k ih =>
    intro a σ t b2 b3 hb h
    have h10 := h.1.2.2.1.1.1.1
    have e0 : t 3 0 = nI na := h.1.2.2.1.1.1.2.2
    obtain ⟨c1, -, -⟩ := h.1.2.2.1.c
    have kq := h.1.2.1.q
    have e33 : t 0 33 = nI m := by
      have : σ 6 4 = t 0 33 := h.1.2.2.2.1.1.1 4 (by decide)
      rw [← this]; exact h.2.2.1
    obtain ⟨σ1, t1, c2, c3, y1, y2, y3⟩ := gl_l (x1 := x1) (by omega : a < na) na 0 σ t b2 b3 (Nat.zero_add na) h
    obtain ⟨σ2, t2, d2, d3, z1, z2, z3⟩ := ih (a + 1) σ1 t1 c2 c3 (by omega) y3
    refine ⟨σ2, t2, d2, d3, (zlp_step ?_).trans z1, (zlp_step ?_).trans z2, z3⟩
    · show FX7_glass_L52 0 x1 b2 b3 (nI a) σ = _
      unfold FX7_glass_L52
      rw [kq.1, kq.2, zgd_t, zlet_eq, c1, if_neg (nI_ge (by omega : a < na) (by omega)), zlet_eq]
      exact y1
    · show FX8_glass_L36 0 x1 (nI a) t = _
      unfold FX8_glass_L36
      rw [show (0 + 3 : Nat) = 3 from rfl, show (0 : Int32).toNatClampNeg = 0 from rfl, e0, show ln 1 3 = 18 from rfl, show zin 18 0 _ = _ from zin_n (p := 0) _ (by decide : 0 < 18) (by decide), if_neg (nI_ge (by omega : a < na) (by omega)), e33, if_neg (show ¬ (6 : Int32) ≤ nI m from nI_ge (b := 6) hm (by decide)), zlet_eq]
      exact y2
theorem rel_glass {σ τ : zS} (h : RR σ τ) (x1 : Int32) : relX (FX7_glass 0 x1 σ) (FX8_glass 0 x1 τ) := by
  obtain ⟨q, na, n, nr, h⟩ := h
  have h0 : RQ σ (zup τ 0 2 0) q na n nr := h.m (Fm.rf.up rfl)
  have t0 : zup τ 0 2 0 0 2 = 0 := by rw [zup_at, if_pos ⟨rfl, rfl⟩]
  unfold FX8_glass FX8_glass_b14
  rw [zlet_eq]
  generalize zup τ 0 2 0 = t at *
  have hR : RR σ t := ⟨q, na, n, nr, h0⟩
  unfold FX7_glass FX7_glass_b9
  by_cases z1 : x1 < 0
  · rw [if_pos z1, if_pos z1]; exact relX_1 hR
  rw [if_neg z1, if_neg z1]
  by_cases z2 : ¬ x1 ≤ 1
  · rw [if_neg z2, if_neg z2]; exact relX_1 hR
  have z2 := Decidable.not_not.mp z2
  rw [if_pos z2, if_pos z2]
  have h10 := h0.2.2.1.1.1.1
  obtain ⟨m, m6, m4⟩ := h0.2.2.2.1.1.2.2.2.1
  obtain ⟨σ', d, k1, k2, k3, k4, k5, k6⟩ := fkt h0
  obtain ⟨t1, g1, g2, g3⟩ := tdB h0 k3
  obtain ⟨d1, d2, d3, d4, d5, d6⟩ := k3
  have hS1 : rSh (zup t1 0 62 0) (ss q σ) na n nr := (h0.m (g2.m.up rfl : Fm t (zup t1 0 62 0))).2.2.1
  have hB : ∀ t', (∀ k, k ≠ 23 → t' k = zup t1 0 62 0 k) → (∀ i, i < 10 → t' 23 i = zup t1 0 62 0 5 i) → rB t' na n nr 99 d := by
    intro t' k1 k3
    obtain ⟨⟨b1, b2, b3, b4, b5, b6⟩, bb, bc⟩ := g3
    have z0 : ∀ j, j ≠ 62 → t' 0 j = t1 0 j := fun j hj => by rw [k1 0 (by decide), zup_at, if_neg (by omega)]
    refine ⟨⟨by rw [z0 46 (by decide)]; exact b1, by rw [z0 47 (by decide)]; exact b2, by rw [z0 48 (by decide)]; exact b3, by rw [z0 49 (by decide)]; exact b4, fun i hi => by rw [k1 22 (by decide), k1 7 (by decide), zup_n (by decide), zup_n (by decide)]; exact b5 i hi, fun p hp => by rw [z0 50 (by decide)]; exact b6 p hp⟩, fun i hi => ?_, bc⟩
    refine ⟨?_, (bb i hi).2⟩
    rw [k3 i (by omega), zup_n (by decide), g2.row 5 (by decide) (by decide), (d6 i hi).2.2]
    exact (h0.2.2.2.1.1.2.2.2.2 i hi).2.1.symm
  obtain ⟨t', a1, a2, a3, a4, a5, -⟩ := gAsk (v := -1) hS1 hB
  obtain ⟨y62, y60, y61⟩ := a5 (Or.inl (by rw [zup_at, if_pos ⟨rfl, rfl⟩]))
  have hw := hB (zrow (zup t1 0 62 0) 23 (zup t1 0 62 0 5)) (fun k hk => zrow_n hk) (fun i _ => by rw [zrow_s])
  have hSw := hS1.fr (show Fr (zup t1 0 62 0) (zrow (zup t1 0 62 0) 23 (zup t1 0 62 0 5)) from fun k j hk => by rw [zrow_n (fun z => by subst z; cases hk)])
  obtain ⟨e1, c, c1, c2⟩ := cs_run hSw hw (by decide) (fun i hi => by
    obtain ⟨w, w1, w2⟩ := h0.2.2.1.2.2.2 i hi
    exact ⟨w, w1, by rw [(d6 i hi).1]; rw [ss_i (by decide) (by decide)] at w2; exact w2⟩)
  rw [c2] at y61
  have hm : Fm t t' := (g2.m.up rfl).tr (ask_fm a2)
  have f2 : t' 0 2 = 0 := by rw [a2 0 2 rfl (by omega), zup_at, if_neg (by omega), g2 0 2 rfl]; exact t0
  rw [g1, zbd_s, zlet_eq, a1, zbd_s, zlet_eq, show (0 + 6 : Nat) = 6 from rfl, m4]
  by_cases hm6 : m < 6
  · have hT : TG σ' t' q na n := by
      obtain ⟨b1, b2, b3, b4, b5, b6⟩ := a3
      have s6 : σ' 6 = σ 6 := k5 6 (by decide) (by decide)
      refine ⟨by rw [b1, a4 1 (by decide) (by decide), d1, s6], by rw [b2, a4 2 (by decide) (by decide), d2, s6], by rw [b3, a4 3 (by decide) (by decide), d3, s6], by rw [b4, a4 4 (by decide) (by decide), d4, s6], fun i hi => ?_, fun p hp => by rw [b6 p hp, a4 5 (by decide) (by decide), d5, b_0]; rfl⟩
      have p1 : t 4 i = ss q σ 2 i := (h0.2.2.1.1.2.2.2.2.1 i hi).1
      have p2 : t 4 i = ss q σ' 2 i := (k2.2.2.1.1.2.2.2.2.1 i hi).1
      rw [ss_i (by decide) (by decide)] at p1 p2
      rw [(b5 i hi).1, e1, (d6 i hi).1, ← p1, p2]
    have hI : gI σ' t' q na n nr m (-1) (nI c) := ⟨k2.m hm, hT, by rw [k5 6 (by decide) (by decide)]; exact m4, f2, y62, y60, y61, c, c1, rfl⟩
    obtain ⟨σ2, t2, b2, b3, l1, l2, l3⟩ := gl_o (x1 := x1) hm6 na 0 σ' t' (-1) (nI c) (Nat.zero_add na) hI
    have e8 : σ' 32 0 = nI c := by
      have := k4 8 (by decide) (by decide)
      rw [show 32 = 24 + 8 from rfl, this, c2]
    rw [if_pos (show nI m < 6 from (nI_ltI (by omega) (by decide : 6 < 2 ^ 31)).mpr hm6), k1, zbd_s, zlet_eq, show (0 + 24 + 8 : Nat) = 32 from rfl, fat', show ln 0 32 = 8 from rfl, show rd 8 (σ' 32) 0 = σ' 32 0 from rd_n (p := 0) (by decide) (by decide), zbd_s, zlet_eq, zlet_eq, e8]
    have l1' : zlp (fun w : Int32 × Int32 × Int32 × zS => FX7_glass_L52 0 x1 w.1 w.2.1 w.2.2.1 w.2.2.2) (-1, nI c, 0, σ') = FX7_glass_b144 x1 b2 b3 σ2 := l1
    have l2' : zlp (fun w : Int32 × zS => FX8_glass_L36 0 x1 w.1 w.2) (0, t') = FX8_glass_b136 0 x1 t2 := l2
    have l1'' : zlp (fun q_1 : Int32 × Int32 × Int32 × zS => FX7_glass_L52 0 x1 q_1.1 q_1.2.1 q_1.2.2.1 q_1.2.2.2) (-1, nI c, 0, σ') = _ := l1'
    rw [l1'', l2']
    obtain ⟨r1, -, -, r4, r5, r6, r7, -⟩ := l3
    have hR2 : RR σ2 t2 := ⟨q, na, n, nr, r1⟩
    unfold FX7_glass_b144 FX7_glass_b153 FX7_glass_b158 FX8_glass_b136 FX8_glass_b163
    rw [r6, r7]
    by_cases e : b2 = -1
    · rw [if_pos e, if_pos e, e]; exact relX_0 hR2 r4
    rw [if_neg e, if_neg e]
    by_cases e2 : x1 = 0
    · rw [if_pos e2, if_pos e2]; exact relX_0 hR2 r4
    · rw [if_neg e2, if_neg e2]; exact relX_0 hR2 r4
  · have hm : m = 6 := by omega
    subst hm
    rw [if_neg (show ¬ nI 6 < 6 from by decide)]
    have hRt : RQ σ t' q na n nr := h0.m hm
    have e0 : t' 3 0 = nI na := hRt.2.2.1.1.1.2.2
    have e33 : t' 0 33 = nI 6 := by
      have : σ 6 4 = t' 0 33 := hRt.2.2.2.1.1.1 4 (by decide)
      rw [← this]; exact m4
    have l2 : zlp (fun w : Int32 × zS => FX8_glass_L36 0 x1 w.1 w.2) (0, t') = some (-1, t') := by
      refine zlp_end ?_
      show FX8_glass_L36 0 x1 0 t' = _
      unfold FX8_glass_L36 FX8_glass_b136 FX8_glass_b163
      rw [show (0 + 3 : Nat) = 3 from rfl, show (0 : Int32).toNatClampNeg = 0 from rfl, show ln 1 3 = 18 from rfl, show zin 18 0 _ = _ from zin_n (p := 0) _ (by decide : 0 < 18) (by decide), e33, y60, if_pos rfl]
      by_cases e : t' 3 0 ≤ 0
      · rw [if_pos e]; rfl
      · rw [if_neg e, if_pos (by decide)]; rfl
    rw [l2]
    exact relX_0 ⟨q, na, n, nr, hRt⟩ f2
