/-! WAYS and MIRRORS on both sides -/
theorem tR.j {qt : Nat} {s t s' t' : zS} {v : Nat → Nat} {ns c : Nat} (h : tR qt s t v ns) (hc : c = 1 ∨ c = 2) (hw : v 1 + 1 ≤ 16 ∨ c = 2) (hm : v 2 + 1 ≤ 6 ∨ c = 1) (so : ∀ i j, ¬ (i = 1 ∧ j = c) → ¬ (i = 3 + c ∧ j < v 0) → s' (qt + i) j = s (qt + i) j) (s1 : s' (qt + 1) c = nI (v c + 1)) (to : ∀ k j, 3 ≤ k → ¬ (k = 3 ∧ j = 9 + c) → ¬ (k = 5 + c ∧ 10 ≤ j ∧ j < 10 + v 0) → t' k j = t k j) (t1 : t' 3 (9 + c) = nI (v c + 1)) (hj : ∀ i, i < v 0 → s' (qt + (3 + c)) i = t' (5 + c) (10 + i)) : tR qt s' t' (vset v c (v c + 1)) ns := by
  obtain ⟨⟨b1, ⟨c1, c2, c3, c4, c5, c6⟩, d1, d2, d3, d4, d5, d6⟩, ⟨g1, g2, g3, g4, g5⟩, ⟨a1, a2⟩, hP, ⟨q1, q2⟩, l1, l2⟩ := h
  have vc : vset v c (v c + 1) c = v c + 1 := if_pos rfl
  have vo : ∀ i, i ≠ c → vset v c (v c + 1) i = v i := fun i hi => if_neg hi
  have v0 : vset v c (v c + 1) 0 = v 0 := vo 0 (by omega)
  have v3 : vset v c (v c + 1) 3 = v 3 := vo 3 (by omega)
  have v4 : vset v c (v c + 1) 4 = v 4 := vo 4 (by omega)
  have v5 : vset v c (v c + 1) 5 = v 5 := vo 5 (by omega)
  unfold tR
  rw [v0, v3, v4, v5]
  unfold tN
  rw [v0, v3, v4]
  have k1 : vset v c (v c + 1) 1 ≤ 16 ∧ s' (qt + 1) 1 = nI (vset v c (v c + 1) 1) ∧ t' 3 10 = nI (vset v c (v c + 1) 1) := by
    rcases hc with rfl | rfl
    · rw [vc]; exact ⟨by omega, s1, t1⟩
    · rw [vo 1 (by decide), so 1 1 (by omega) (by omega), to 3 10 (by omega) (by omega) (by omega)]; exact ⟨b1.2.1, c2, d2⟩
  have k2 : vset v c (v c + 1) 2 ≤ 6 ∧ s' (qt + 1) 2 = nI (vset v c (v c + 1) 2) ∧ t' 3 11 = nI (vset v c (v c + 1) 2) := by
    rcases hc with rfl | rfl
    · rw [vo 2 (by decide), so 1 2 (by omega) (by omega), to 3 11 (by omega) (by omega) (by omega)]; exact ⟨b1.2.2.1, c3, d3⟩
    · rw [vc]; exact ⟨by omega, s1, t1⟩
  refine ⟨⟨⟨b1.1, k1.1, k2.1, b1.2.2.2⟩, ⟨?_, k1.2.1, k2.2.1, ?_, ?_, ?_⟩, ?_, k1.2.2, k2.2.2, ?_, ?_, ?_⟩, ⟨?_, ?_, ?_, ?_, ?_⟩, ⟨fun a ha => ?_, fun a ha ha2 => ?_⟩, fun p hp => ?_, ⟨fun i hi => ?_, fun r hr => ?_⟩, l1, fun h0 => ?_⟩
  · rw [so 1 0 (by omega) (by omega)]; exact c1
  · rw [so 7 0 (by omega) (by omega)]; exact c4
  · rw [so 14 0 (by omega) (by omega)]; exact c5
  · rw [so 14 1 (by omega) (by omega)]; exact c6
  · rw [to 3 9 (by omega) (by omega) (by omega)]; exact d1
  · rw [to 3 12 (by omega) (by omega) (by omega)]; exact d4
  · rw [to 3 13 (by omega) (by omega) (by omega)]; exact d5
  · rw [to 3 17 (by omega) (by omega) (by omega)]; exact d6
  · rw [show s' qt 3 = s qt 3 from so 0 3 (by omega) (by omega)]; exact g1
  · rw [show s' qt 3 = s qt 3 from so 0 3 (by omega) (by omega), to 3 14 (by omega) (by omega) (by omega)]; exact g2
  · rw [show s' qt 4 = s qt 4 from so 0 4 (by omega) (by omega)]; exact g3
  · rw [show s' qt 4 = s qt 4 from so 0 4 (by omega) (by omega), to 3 15 (by omega) (by omega) (by omega)]; exact g4
  · rw [show s' qt 5 = s qt 5 from so 0 5 (by omega) (by omega), to 3 16 (by omega) (by omega) (by omega)]; exact g5
  · obtain ⟨z1, z2, z3, z4, z5, z6⟩ := a1 a ha
    rw [so 2 a (by omega) (by omega), so 3 a (by omega) (by omega), to 4 _ (by omega) (by omega) (by omega), to 5 _ (by omega) (by omega) (by omega)]
    have hja := hj a ha
    rcases hc with rfl | rfl
    · rw [so 5 a (by omega) (by omega), to 7 _ (by omega) (by omega) (by omega)]
      exact ⟨z1, z2, z3, z4, hja, z6⟩
    · rw [so 4 a (by omega) (by omega), to 6 _ (by omega) (by omega) (by omega)]
      exact ⟨z1, z2, z3, z4, z5, hja⟩
  · rw [so 4 a (by omega) (by omega), so 5 a (by omega) (by omega)]
    exact a2 a ha ha2
  · obtain ⟨c, k, l, h⟩ := hP p hp
    exact ⟨c, k, l, h.c (Nat.le_refl _) (fun i h1 h2 => so i p (by omega) (by omega)) (fun i hi => so 13 _ (by omega) (by omega)) (fun i h1 h2 => to i _ (by omega) (by omega) (by omega)) (fun i hi => to 13 _ (by omega) (by omega) (by omega))⟩
  · rw [so 16 i (by omega) (by omega), to 15 _ (by omega) (by omega) (by omega)]; exact q1 i hi
  · obtain ⟨a, b, h⟩ := q2 r hr
    exact ⟨a, b, h.c (fun j hj => so 15 j (by omega) (by omega)) (fun j hj => so 16 j (by omega) (by omega)) (fun j hj => to 14 _ (by omega) (by omega) (by omega))⟩
  · rw [so 15 _ (by omega) (by omega), to 14 _ (by omega) (by omega) (by omega)]; exact l2 h0
section
variable {f : Nat → Int32} {n qt : Nat} {s0 t0 : zS} {v : Nat → Nat} {d : Int32} {p ns : Nat} {s t : zS}
theorem e_Way (he : en f n qt s0 t0) (h : sA f n qt s0 t0 v d p ns s t) (hk : tK f n p ≠ 0) : ∃ r s' b t', FX3_readWay 4 s = some (r, s') ∧ FX8_readTwo 0 1 t = some (b, t') ∧ lP f n qt s0 t0 v d p ns s' t' := by
  obtain ⟨n7, hq, -⟩ := id he
  obtain ⟨⟨v10, v16, v26, -⟩, ⟨-, c1, c2, -⟩, ⟨-, m1, m2, -⟩⟩ := h.2.2.2.2.2.1.1
  have hp := h.1.2.2.2.1
  have hE2 := (tEB (f := f) hp).2 hk
  have l4 : ln 0 (qt + 4) = 10 := by rcases hq with rfl | rfl <;> rfl
  have tl3 : ∀ x1_13 x2_18, kFl f n qt s0 (fun σ_16 => if x1_13 = x2_18 then FX3_readWay_b50 4 x1_13 x2_18 σ_16 else zgd (kd 0 (σ_16 4 1).toNatClampNeg == 5) (zlet (σ_16 4 1).toNatClampNeg (fun q_19 => zbd (FX1_joins (q_19 + 1) x1_13 x2_18 σ_16) (fun r_21 σ_20 => if r_21 = 0 then FX3_readWay_b55 4 x1_13 x2_18 σ_20 else FX3_readWay_b50 4 x1_13 x2_18 σ_20)))) := by
    intro x1_13 x2_18
    simp only [FX3_readWay_b55, FX3_readWay_b50, FX3_readWay_b78]
    exact kFl.iff (kFl.bd k_fail (fun _ => kFl.if0 kFl.sm)) (kFl.ptr hq (kFl.bd k_jo (fun _ => kFl.iff (kFl.if0 kFl.sm) (kFl.bd k_fail (fun _ => kFl.if0 kFl.sm)))))
  have tl2 : ∀ x1_13, kFl f n qt s0 (fun σ_11 => zbd (FX3_readToken 4 σ_11) (fun _ σ_14 => zbd (FX3_aisleHere 4 σ_14) (fun r_17 σ_16 => zlet r_17 (fun x2_18 => if x1_13 = x2_18 then FX3_readWay_b50 4 x1_13 x2_18 σ_16 else zgd (kd 0 (σ_16 4 1).toNatClampNeg == 5) (zlet (σ_16 4 1).toNatClampNeg (fun q_19 => zbd (FX1_joins (q_19 + 1) x1_13 x2_18 σ_16) (fun r_21 σ_20 => if r_21 = 0 then FX3_readWay_b55 4 x1_13 x2_18 σ_20 else FX3_readWay_b50 4 x1_13 x2_18 σ_20))))))) := fun x1 => kFl.bd (k_tok he) (fun _ => kFl.bd (k_here he) (fun _ => kFl.lt (fun x2 => tl3 x1 x2)))
  have tl1 : kFl f n qt s0 (fun σ_9 => zbd (FX3_aisleHere 4 σ_9) (fun r_12 σ_11 => zlet r_12 (fun x1_13 => zbd (FX3_readToken 4 σ_11) (fun _ σ_14 => zbd (FX3_aisleHere 4 σ_14) (fun r_17 σ_16 => zlet r_17 (fun x2_18 => if x1_13 = x2_18 then FX3_readWay_b50 4 x1_13 x2_18 σ_16 else zgd (kd 0 (σ_16 4 1).toNatClampNeg == 5) (zlet (σ_16 4 1).toNatClampNeg (fun q_19 => zbd (FX1_joins (q_19 + 1) x1_13 x2_18 σ_16) (fun r_21 σ_20 => if r_21 = 0 then FX3_readWay_b55 4 x1_13 x2_18 σ_20 else FX3_readWay_b50 4 x1_13 x2_18 σ_20))))))))) := kFl.bd (k_here he) (fun _ => kFl.lt (fun x1 => tl2 x1))
  unfold FX3_readWay FX8_readTwo FX8_readTwo_b14
  rw [h.1.ptr hq, c1, if_pos rfl]
  rcases h.first he hk (i := 1) (M := 16) (by decide) (by decide) v16 m1 with ⟨va, s1, t1, g1, g2, A1, g4, g5⟩ | ⟨s1, t1, g1, g2, B1⟩
  rotate_left
  · obtain ⟨r, s', e, B⟩ := B1.go tl1
    rw [show FX3_readFirst 4 (nI (v 1)) 16 s = _ from g1, zbd_s, show FX8_another 0 1 16 t = _ from g2, zbd_s, if_pos rfl]
    exact ⟨r, s', 0, t1, e, rfl, Or.inr B⟩
  rw [show FX3_readFirst 4 (nI (v 1)) 16 s = _ from g1, zbd_s, show FX8_another 0 1 16 t = _ from g2, zbd_s, if_neg (by decide)]
  have bad97 : ∀ (x2 x3 : Int32) (t : zS), ¬ t 0 25 = 0 → FX8_readTwo_b97 0 1 x2 x3 t = some (0, t) := fun x2 x3 t hb => by
    unfold FX8_readTwo_b97
    rw [if_neg hb]
  have bad37 : ∀ (a : Nat) (t : zS), a < 10 → ¬ t 0 25 = 0 → FX8_readTwo_b37 0 1 (nI a) t = some (0, t) := fun a t ha hb => by
    unfold FX8_readTwo_b37 FX8_readTwo_b68
    rw [gAn0 hb, zbd_s, zlet_eq, if_pos rfl, show (10 : Int32) + nI a = nI (10 + a) from nI_add 10 a, show (0 + 6 : Nat) = 6 from rfl, show ln 1 6 = 20 from rfl, zin_n _ (by omega : 10 + a < 20) (by decide), zlet_eq, if_neg hb, bad97 _ _ t hb]
  rcases A1.here he with ⟨a, ha, j1, j2, jk⟩ | ⟨x, s2, t2, j1, j2, B2⟩
  rotate_left
  · obtain ⟨r, s', e, B⟩ := B2.go (tl2 x)
    rw [j1, zbd_s, zlet_eq, j2, zbd_s, zlet_eq, if_neg B2.b]
    exact ⟨r, s', 0, t2, e, bad37 0 t2 (by decide) B2.b, Or.inr B⟩
  obtain ⟨s2, t2, k1, k2, A2, k4, k5⟩ := A1.tok he
  rw [j1, zbd_s, zlet_eq, j2, zbd_s, zlet_eq, if_pos A1.2.2.2.1, k1, zbd_s, k2, zbd_s]
  clear k4 k5
  rcases A2.here he with ⟨b, hb, i1, i2, ik⟩ | ⟨x, s3, t3, i1, i2, B3⟩
  rotate_left
  · obtain ⟨r, s', e, B⟩ := B3.go (tl3 (nI a) x)
    have hRB : FX8_readTwo_b37 0 1 (nI a) t2 = some (0, t3) := by
      unfold FX8_readTwo_b37 FX8_readTwo_b68
      rw [i2, zbd_s, zlet_eq, if_pos rfl, show (10 : Int32) + nI a = nI (10 + a) from nI_add 10 a, show (0 + 6 : Nat) = 6 from rfl, show ln 1 6 = 20 from rfl, zin_n _ (by omega : 10 + a < 20) (by decide), zlet_eq, if_neg B3.b, bad97 _ _ t3 B3.b]
    rw [i1, zbd_s, zlet_eq, hRB]
    exact ⟨r, s', 0, t3, e, rfl, Or.inr B⟩
  have hR : FX8_readTwo_b37 0 1 (nI a) t2 = if a = b then FX8_readTwo_b92 0 1 (nI a) (nI b) t2 else if bt (s2 (qt + 4) a) b = true then FX8_readTwo_b92 0 1 (nI a) (nI b) t2 else FX8_readTwo_b97 0 1 (nI a) (nI b) t2 := by
    unfold FX8_readTwo_b37 FX8_readTwo_b68
    rw [i2, zbd_s, zlet_eq, if_pos rfl, show (10 : Int32) + nI a = nI (10 + a) from nI_add 10 a, show (0 + 6 : Nat) = 6 from rfl, show ln 1 6 = 20 from rfl, zin_n _ (by omega : 10 + a < 20) (by decide), zlet_eq, if_pos A2.2.2.2.1, nI_clamp (by omega : 10 + a < 2 ^ 31), ← (A2.2.2.2.2.2.1.2.2.1.1 a ha).2.2.2.2.1]
    by_cases ab : a = b
    · rw [if_pos ab, if_pos (by rw [ab])]
    rw [if_neg ab, if_neg (fun z => ab ((nI_eq (by omega) (by omega)).mp z))]
    by_cases e : bt (s2 (qt + 4) a) b = true
    · rw [if_pos e, if_pos ((bt_1 (by omega : b < 32)).mpr e)]
    · rw [if_neg e, if_neg (fun z => e ((bt_1 (by omega : b < 32)).mp z))]
  rw [i1, zbd_s, zlet_eq, hR]
  have badx : ∃ r s' b' t', FX3_readWay_b50 4 (nI a) (nI b) s2 = some (r, s') ∧ FX8_readTwo_b92 0 1 (nI a) (nI b) t2 = some (b', t') ∧ lP f n qt s0 t0 v d p ns s' t' := by
    obtain ⟨s3, t3, g1, g2, B3⟩ := A2.fail (k := 4) (by decide)
    unfold FX3_readWay_b50 FX3_readWay_b55 FX3_readWay_b78 FX8_readTwo_b92
    rw [g1, zbd_s, if_neg B3.2.2.1, g2, zbd_s, bad97 _ _ t3 B3.b]
    exact ⟨0, s3, 0, t3, rfl, rfl, Or.inr B3⟩
  by_cases ab : a = b
  · rw [if_pos (by rw [ab]), if_pos ab]
    exact badx
  have nab : ¬ nI a = nI b := fun z => ab ((nI_eq (by omega) (by omega)).mp z)
  have hJ : FX1_joins (qt + 1) (nI a) (nI b) s2 = some (b01 (bt (s2 (qt + 4) a) b), s2) := by
      rw [fjos, show qt + 1 + 3 = qt + 4 from rfl, l4, rd_n (by omega : a < 10) (by decide), hds_n (by omega : b < 32)]
  rw [if_neg nab, if_neg ab, A2.1.ptr hq, hJ, zbd_s]
  cases e : bt (s2 (qt + 4) a) b
  rotate_left
  · rw [b01_t, if_neg (by decide), if_pos rfl]
    exact badx
  · rw [b01_f, if_pos rfl, if_neg (by decide)]
    obtain ⟨-, ⟨-, c1', c2', -⟩, ⟨-, m1', m2', -⟩⟩ := A2.2.2.2.2.2.1.1
    have hS : FX1_addWay (qt + 1) (nI a) (nI b) s2 = some (0, zup (zup (zup s2 (qt + 4) a (s2 (qt + 4) a ||| sb b)) (qt + 4) b (s2 (qt + 4) b ||| sb a)) (qt + 1) 1 (nI (v 1 + 1))) := by
      unfold FX1_addWay
      rw [show qt + 1 + 3 = qt + 4 from rfl, fat', l4, rd_n (by omega : a < 10) (by decide), zbd_s, fbit, zbd_s, fput', l4, pt_n (by omega : a < 10) (by decide), zbd_s, fat', l4, rd_n (by omega : b < 10) (by decide), zbd_s, fbit, zbd_s, fput', l4, pt_n (by omega : b < 10) (by decide), zbd_s, zlet_eq, zup_n (by omega : qt + 1 ≠ qt + 4), zup_n (by omega : qt + 1 ≠ qt + 4), c1', nI_1, show zup s2 (qt + 4) a (s2 (qt + 4) a ||| sb b) (qt + 4) b = s2 (qt + 4) b from by rw [zup_at, if_neg (by omega)]]
    obtain ⟨t3, m1, m3, m5⟩ := gTok he A2.2.1
    have hT : FX8_readTwo_b97 0 1 (nI a) (nI b) t2 = some (0, zup (zup (zup t3 6 (10 + a) (t2 6 (10 + a) ||| sb b)) 6 (10 + b) (t2 6 (10 + b) ||| sb a)) 3 10 (nI (v 1 + 1))) := by
      unfold FX8_readTwo_b97 FX8_readTwo_b162
      rw [if_pos A2.2.2.2.1, m1, zbd_s, if_pos rfl, show (9 : Int32) + 1 = nI 10 from rfl, show (10 : Int32) + nI a = nI (10 + a) from nI_add 10 a, show (10 : Int32) + nI b = nI (10 + b) from nI_add 10 b, show (0 + 6 : Nat) = 6 from rfl, show (0 + 3 : Nat) = 3 from rfl, show ln 1 6 = 20 from rfl, show ln 1 3 = 18 from rfl, zin_n _ (by omega : 10 + a < 20) (by decide), zin_n _ (by omega : 10 + a < 20) (by decide), nI_clamp (by omega : 10 + a < 2 ^ 31), nI_clamp (by omega : 10 + b < 2 ^ 31), nI_clamp (by decide : 10 < 2 ^ 31), zlet_eq, zin_n _ (by omega : 10 + b < 20) (by decide), zin_n _ (by omega : 10 + b < 20) (by decide), zlet_eq, zin_n _ (by decide : 10 < 18) (by decide), zin_n _ (by decide : 10 < 18) (by decide), zlet_eq, zup_n (by decide : 3 ≠ 6), zup_n (by decide : 3 ≠ 6), m5 3 10 (by omega), m1', nI_1, m5 6 (10 + a) (by omega), show ∀ y : Int32, zup t3 6 (10 + a) y 6 (10 + b) = t2 6 (10 + b) from fun y => by rw [zup_at, if_neg (by omega), m5 6 (10 + b) (by omega)]]
      rfl
    obtain ⟨s4, k1, k3, k2⟩ := fTok he (((A2.1.up hq (by omega)).up hq (by omega)).up hq (by omega) : cS f n qt s0 _ (zup (zup (zup s2 (qt + 4) a (s2 (qt + 4) a ||| sb b)) (qt + 4) b (s2 (qt + 4) b ||| sb a)) (qt + 1) 1 (nI (v 1 + 1))))
    unfold FX3_readWay_b55 FX3_readWay_b78
    rw [if_pos A2.2.2.1, A2.1.ptr hq, hS, zbd_s, k1, zbd_s, hT]
    have hE3 := tEB (f := f) A1.1.2.2.2.1
    have hE4 := tEB (f := f) A2.1.2.2.2.1
    have h7 := h.2.2.2.2.2.2
    refine ⟨0, s4, 0, _, rfl, rfl, Or.inl ⟨vset v 1 (v 1 + 1), _, ns, ⟨k3, ((m3.up (by decide) (by unfold mfr; simp)).up (by decide) (by unfold mfr; simp)).up (by decide) (by unfold mfr; simp), ?_, ?_, ?_, ?_, by omega⟩, by omega, fun z => z⟩⟩
    · rw [k2 4 8 (by omega), zup_n (by omega), zup_n (by omega), zup_n (by omega)]; exact A2.2.2.1
    · rw [zup_n (by decide), zup_n (by decide), zup_n (by decide), m5 0 25 (by omega)]; exact A2.2.2.2.1
    · rw [k2 4 7 (by omega), zup_n (by omega), zup_n (by omega), zup_n (by omega)]; exact A2.2.2.2.2.1
    · refine A2.2.2.2.2.2.1.j (c := 1) (Or.inl rfl) (Or.inl (by omega)) (Or.inr rfl) (fun i j h1 h2 => ?_) ?_ (fun k j h0 h1 h2 => ?_) ?_ ?_
      · rw [k2 (qt + i) j (by omega), zup_at, if_neg (by omega), zup_at, if_neg (by omega), zup_at, if_neg (by omega)]
      · rw [k2 (qt + 1) 1 (by omega), zup_at, if_pos ⟨rfl, rfl⟩]
      · rw [zup_at, if_neg (by omega), zup_at, if_neg (by omega), zup_at, if_neg (by omega), m5 k j (by omega)]
      · show zup (zup (zup t3 6 (10 + a) (t2 6 (10 + a) ||| sb b)) 6 (10 + b) (t2 6 (10 + b) ||| sb a)) 3 10 (nI (v 1 + 1)) 3 10 = nI (v 1 + 1)
        rw [zup_at, if_pos ⟨rfl, rfl⟩]
      · intro i hi
        rw [k2 (qt + 4) i (by omega)]
        show _ = zup (zup (zup t3 6 (10 + a) (t2 6 (10 + a) ||| sb b)) 6 (10 + b) (t2 6 (10 + b) ||| sb a)) 3 10 (nI (v 1 + 1)) 6 (10 + i)
        rw [zup_n (by omega), zup_n (by decide : 6 ≠ 3)]
        have L : zup (zup s2 (qt + 4) a (s2 (qt + 4) a ||| sb b)) (qt + 4) b (s2 (qt + 4) b ||| sb a) (qt + 4) i = if i = b then s2 (qt + 4) b ||| sb a else if i = a then s2 (qt + 4) a ||| sb b else s2 (qt + 4) i := by
          simp only [zup_at, eq_self, true_and]
        have R : zup (zup t3 6 (10 + a) (t2 6 (10 + a) ||| sb b)) 6 (10 + b) (t2 6 (10 + b) ||| sb a) 6 (10 + i) = if i = b then t2 6 (10 + b) ||| sb a else if i = a then t2 6 (10 + a) ||| sb b else t2 6 (10 + i) := by
          simp only [zup_at, eq_self, true_and, Nat.add_left_cancel_iff, m5 6 (10 + i) (by omega)]
        have ei := fun i hi => (A2.2.2.2.2.2.1.2.2.1.1 i hi).2.2.2.2.1
        rw [L, R, ei i hi, ei a ha, ei b hb]
theorem e_Mirror (he : en f n qt s0 t0) (h : sA f n qt s0 t0 v d p ns s t) (hk : tK f n p ≠ 0) : ∃ r s' b t', FX3_readMirror 4 s = some (r, s') ∧ FX8_readTwo 0 2 t = some (b, t') ∧ lP f n qt s0 t0 v d p ns s' t' := by
  obtain ⟨n7, hq, -⟩ := id he
  obtain ⟨⟨v10, v16, v26, -⟩, ⟨-, c1, c2, -⟩, ⟨-, m1, m2, -⟩⟩ := h.2.2.2.2.2.1.1
  have hp := h.1.2.2.2.1
  have hE2 := (tEB (f := f) hp).2 hk
  have l4 : ln 0 (qt + 5) = 10 := by rcases hq with rfl | rfl <;> rfl
  have tl3 : ∀ x1_13 x2_18, kFl f n qt s0 (fun σ_16 => if x1_13 = x2_18 then FX3_readMirror_b56 4 x1_13 x2_18 σ_16 else zgd (kd 0 (σ_16 4 1).toNatClampNeg == 5) (zlet (σ_16 4 1).toNatClampNeg (fun q_19 => zbd (FX7_at ((q_19 + 1) + 4) x1_13 σ_16) (fun r_21 σ_20 => zbd (FX7_holds r_21 x2_18 σ_20) (fun r_23 σ_22 => if r_23 = 0 then FX3_readMirror_b61 4 x1_13 x2_18 σ_22 else FX3_readMirror_b56 4 x1_13 x2_18 σ_22))))) := by
    intro x1_13 x2_18
    simp only [FX3_readMirror_b61, FX3_readMirror_b56, FX3_readMirror_b84]
    exact kFl.iff (kFl.bd k_fail (fun _ => kFl.if0 kFl.sm)) (kFl.ptr hq (kFl.bd k_at (fun _ => kFl.bd k_hd (fun _ => kFl.iff (kFl.if0 kFl.sm) (kFl.bd k_fail (fun _ => kFl.if0 kFl.sm))))))
  have tl2 : ∀ x1_13, kFl f n qt s0 (fun σ_11 => zbd (FX3_readToken 4 σ_11) (fun _ σ_14 => zbd (FX3_aisleHere 4 σ_14) (fun r_17 σ_16 => zlet r_17 (fun x2_18 => if x1_13 = x2_18 then FX3_readMirror_b56 4 x1_13 x2_18 σ_16 else zgd (kd 0 (σ_16 4 1).toNatClampNeg == 5) (zlet (σ_16 4 1).toNatClampNeg (fun q_19 => zbd (FX7_at ((q_19 + 1) + 4) x1_13 σ_16) (fun r_21 σ_20 => zbd (FX7_holds r_21 x2_18 σ_20) (fun r_23 σ_22 => if r_23 = 0 then FX3_readMirror_b61 4 x1_13 x2_18 σ_22 else FX3_readMirror_b56 4 x1_13 x2_18 σ_22)))))))) := fun x1 => kFl.bd (k_tok he) (fun _ => kFl.bd (k_here he) (fun _ => kFl.lt (fun x2 => tl3 x1 x2)))
  have tl1 : kFl f n qt s0 (fun σ_9 => zbd (FX3_aisleHere 4 σ_9) (fun r_12 σ_11 => zlet r_12 (fun x1_13 => zbd (FX3_readToken 4 σ_11) (fun _ σ_14 => zbd (FX3_aisleHere 4 σ_14) (fun r_17 σ_16 => zlet r_17 (fun x2_18 => if x1_13 = x2_18 then FX3_readMirror_b56 4 x1_13 x2_18 σ_16 else zgd (kd 0 (σ_16 4 1).toNatClampNeg == 5) (zlet (σ_16 4 1).toNatClampNeg (fun q_19 => zbd (FX7_at ((q_19 + 1) + 4) x1_13 σ_16) (fun r_21 σ_20 => zbd (FX7_holds r_21 x2_18 σ_20) (fun r_23 σ_22 => if r_23 = 0 then FX3_readMirror_b61 4 x1_13 x2_18 σ_22 else FX3_readMirror_b56 4 x1_13 x2_18 σ_22)))))))))) := kFl.bd (k_here he) (fun _ => kFl.lt (fun x1 => tl2 x1))
  unfold FX3_readMirror FX8_readTwo FX8_readTwo_b14
  rw [h.1.ptr hq, c2, if_neg (by decide)]
  rcases h.first he hk (i := 2) (M := 6) (by decide) (by decide) v26 m2 with ⟨va, s1, t1, g1, g2, A1, g4, g5⟩ | ⟨s1, t1, g1, g2, B1⟩
  rotate_left
  · obtain ⟨r, s', e, B⟩ := B1.go tl1
    rw [show FX3_readFirst 4 (nI (v 2)) 6 s = _ from g1, zbd_s, show FX8_another 0 2 6 t = _ from g2, zbd_s, if_pos rfl]
    exact ⟨r, s', 0, t1, e, rfl, Or.inr B⟩
  rw [show FX3_readFirst 4 (nI (v 2)) 6 s = _ from g1, zbd_s, show FX8_another 0 2 6 t = _ from g2, zbd_s, if_neg (by decide)]
  have bad97 : ∀ (x2 x3 : Int32) (t : zS), ¬ t 0 25 = 0 → FX8_readTwo_b97 0 2 x2 x3 t = some (0, t) := fun x2 x3 t hb => by
    unfold FX8_readTwo_b97
    rw [if_neg hb]
  have bad37 : ∀ (a : Nat) (t : zS), a < 10 → ¬ t 0 25 = 0 → FX8_readTwo_b37 0 2 (nI a) t = some (0, t) := fun a t ha hb => by
    unfold FX8_readTwo_b37 FX8_readTwo_b68
    rw [gAn0 hb, zbd_s, zlet_eq, if_neg (by decide), show (10 : Int32) + nI a = nI (10 + a) from nI_add 10 a, show (0 + 7 : Nat) = 7 from rfl, show ln 1 7 = 20 from rfl, zin_n _ (by omega : 10 + a < 20) (by decide), zlet_eq, if_neg hb, bad97 _ _ t hb]
  rcases A1.here he with ⟨a, ha, j1, j2, jk⟩ | ⟨x, s2, t2, j1, j2, B2⟩
  rotate_left
  · obtain ⟨r, s', e, B⟩ := B2.go (tl2 x)
    rw [j1, zbd_s, zlet_eq, j2, zbd_s, zlet_eq, if_neg B2.b]
    exact ⟨r, s', 0, t2, e, bad37 0 t2 (by decide) B2.b, Or.inr B⟩
  obtain ⟨s2, t2, k1, k2, A2, k4, k5⟩ := A1.tok he
  rw [j1, zbd_s, zlet_eq, j2, zbd_s, zlet_eq, if_pos A1.2.2.2.1, k1, zbd_s, k2, zbd_s]
  clear k4 k5
  rcases A2.here he with ⟨b, hb, i1, i2, ik⟩ | ⟨x, s3, t3, i1, i2, B3⟩
  rotate_left
  · obtain ⟨r, s', e, B⟩ := B3.go (tl3 (nI a) x)
    have hRB : FX8_readTwo_b37 0 2 (nI a) t2 = some (0, t3) := by
      unfold FX8_readTwo_b37 FX8_readTwo_b68
      rw [i2, zbd_s, zlet_eq, if_neg (by decide), show (10 : Int32) + nI a = nI (10 + a) from nI_add 10 a, show (0 + 7 : Nat) = 7 from rfl, show ln 1 7 = 20 from rfl, zin_n _ (by omega : 10 + a < 20) (by decide), zlet_eq, if_neg B3.b, bad97 _ _ t3 B3.b]
    rw [i1, zbd_s, zlet_eq, hRB]
    exact ⟨r, s', 0, t3, e, rfl, Or.inr B⟩
  have hR : FX8_readTwo_b37 0 2 (nI a) t2 = if a = b then FX8_readTwo_b92 0 2 (nI a) (nI b) t2 else if bt (s2 (qt + 5) a) b = true then FX8_readTwo_b92 0 2 (nI a) (nI b) t2 else FX8_readTwo_b97 0 2 (nI a) (nI b) t2 := by
    unfold FX8_readTwo_b37 FX8_readTwo_b68
    rw [i2, zbd_s, zlet_eq, if_neg (by decide), show (10 : Int32) + nI a = nI (10 + a) from nI_add 10 a, show (0 + 7 : Nat) = 7 from rfl, show ln 1 7 = 20 from rfl, zin_n _ (by omega : 10 + a < 20) (by decide), zlet_eq, if_pos A2.2.2.2.1, nI_clamp (by omega : 10 + a < 2 ^ 31), ← (A2.2.2.2.2.2.1.2.2.1.1 a ha).2.2.2.2.2]
    by_cases ab : a = b
    · rw [if_pos ab, if_pos (by rw [ab])]
    rw [if_neg ab, if_neg (fun z => ab ((nI_eq (by omega) (by omega)).mp z))]
    by_cases e : bt (s2 (qt + 5) a) b = true
    · rw [if_pos e, if_pos ((bt_1 (by omega : b < 32)).mpr e)]
    · rw [if_neg e, if_neg (fun z => e ((bt_1 (by omega : b < 32)).mp z))]
  rw [i1, zbd_s, zlet_eq, hR]
  have badx : ∃ r s' b' t', FX3_readMirror_b56 4 (nI a) (nI b) s2 = some (r, s') ∧ FX8_readTwo_b92 0 2 (nI a) (nI b) t2 = some (b', t') ∧ lP f n qt s0 t0 v d p ns s' t' := by
    obtain ⟨s3, t3, g1, g2, B3⟩ := A2.fail (k := 4) (by decide)
    unfold FX3_readMirror_b56 FX3_readMirror_b61 FX3_readMirror_b84 FX8_readTwo_b92
    rw [g1, zbd_s, if_neg B3.2.2.1, g2, zbd_s, bad97 _ _ t3 B3.b]
    exact ⟨0, s3, 0, t3, rfl, rfl, Or.inr B3⟩
  by_cases ab : a = b
  · rw [if_pos (by rw [ab]), if_pos ab]
    exact badx
  have nab : ¬ nI a = nI b := fun z => ab ((nI_eq (by omega) (by omega)).mp z)
  have hJ : zbd (FX7_at ((qt + 1) + 4) (nI a) s2) (fun r_21 σ_20 => zbd (FX7_holds r_21 (nI b) σ_20) (fun r_23 σ_22 => if r_23 = 0 then FX3_readMirror_b61 4 (nI a) (nI b) σ_22 else FX3_readMirror_b56 4 (nI a) (nI b) σ_22)) = if b01 (bt (s2 (qt + 5) a) b) = 0 then FX3_readMirror_b61 4 (nI a) (nI b) s2 else FX3_readMirror_b56 4 (nI a) (nI b) s2 := by
      rw [show qt + 1 + 4 = qt + 5 from rfl, fat', l4, rd_n (by omega : a < 10) (by decide), zbd_s, fhds, hds_n (by omega : b < 32), zbd_s]
  rw [if_neg nab, if_neg ab, A2.1.ptr hq, hJ]
  cases e : bt (s2 (qt + 5) a) b
  rotate_left
  · rw [b01_t, if_neg (by decide), if_pos rfl]
    exact badx
  · rw [b01_f, if_pos rfl, if_neg (by decide)]
    obtain ⟨-, ⟨-, c1', c2', -⟩, ⟨-, m1', m2', -⟩⟩ := A2.2.2.2.2.2.1.1
    have hS : FX1_addMirror (qt + 1) (nI a) (nI b) s2 = some (0, zup (zup s2 (qt + 5) a (s2 (qt + 5) a ||| sb b)) (qt + 1) 2 (nI (v 2 + 1))) := by
      unfold FX1_addMirror
      rw [show qt + 1 + 4 = qt + 5 from rfl, fat', l4, rd_n (by omega : a < 10) (by decide), zbd_s, fbit, zbd_s, fput', l4, pt_n (by omega : a < 10) (by decide), zbd_s, zlet_eq, zup_n (by omega : qt + 1 ≠ qt + 5), c2', nI_1]
    obtain ⟨t3, m1, m3, m5⟩ := gTok he A2.2.1
    have hT : FX8_readTwo_b97 0 2 (nI a) (nI b) t2 = some (0, zup (zup t3 7 (10 + a) (t2 7 (10 + a) ||| sb b)) 3 11 (nI (v 2 + 1))) := by
      unfold FX8_readTwo_b97 FX8_readTwo_b162
      rw [if_pos A2.2.2.2.1, m1, zbd_s, if_neg (by decide), show (9 : Int32) + 2 = nI 11 from rfl, show (10 : Int32) + nI a = nI (10 + a) from nI_add 10 a, show (0 + 7 : Nat) = 7 from rfl, show (0 + 3 : Nat) = 3 from rfl, show ln 1 7 = 20 from rfl, show ln 1 3 = 18 from rfl, zin_n _ (by omega : 10 + a < 20) (by decide), zin_n _ (by omega : 10 + a < 20) (by decide), nI_clamp (by omega : 10 + a < 2 ^ 31), nI_clamp (by decide : 11 < 2 ^ 31), zlet_eq, zin_n _ (by decide : 11 < 18) (by decide), zin_n _ (by decide : 11 < 18) (by decide), zlet_eq, zup_n (by decide : 3 ≠ 7), m5 3 11 (by omega), m2', nI_1, m5 7 (10 + a) (by omega)]
      rfl
    obtain ⟨s4, k1, k3, k2⟩ := fTok he ((A2.1.up hq (by omega)).up hq (by omega) : cS f n qt s0 _ (zup (zup s2 (qt + 5) a (s2 (qt + 5) a ||| sb b)) (qt + 1) 2 (nI (v 2 + 1))))
    unfold FX3_readMirror_b61 FX3_readMirror_b84
    rw [if_pos A2.2.2.1, A2.1.ptr hq, hS, zbd_s, k1, zbd_s, hT]
    have hE3 := tEB (f := f) A1.1.2.2.2.1
    have hE4 := tEB (f := f) A2.1.2.2.2.1
    have h7 := h.2.2.2.2.2.2
    refine ⟨0, s4, 0, _, rfl, rfl, Or.inl ⟨vset v 2 (v 2 + 1), _, ns, ⟨k3, (m3.up (by decide) (by unfold mfr; simp)).up (by decide) (by unfold mfr; simp), ?_, ?_, ?_, ?_, by omega⟩, by omega, fun z => z⟩⟩
    · rw [k2 4 8 (by omega), zup_n (by omega), zup_n (by omega)]; exact A2.2.2.1
    · rw [zup_n (by decide), zup_n (by decide), m5 0 25 (by omega)]; exact A2.2.2.2.1
    · rw [k2 4 7 (by omega), zup_n (by omega), zup_n (by omega)]; exact A2.2.2.2.2.1
    · refine A2.2.2.2.2.2.1.j (c := 2) (Or.inr rfl) (Or.inr rfl) (Or.inl (by omega)) (fun i j h1 h2 => ?_) ?_ (fun k j h0 h1 h2 => ?_) ?_ ?_
      · rw [k2 (qt + i) j (by omega), zup_at, if_neg (by omega), zup_at, if_neg (by omega)]
      · rw [k2 (qt + 1) 2 (by omega), zup_at, if_pos ⟨rfl, rfl⟩]
      · rw [zup_at, if_neg (by omega), zup_at, if_neg (by omega), m5 k j (by omega)]
      · show zup (zup t3 7 (10 + a) (t2 7 (10 + a) ||| sb b)) 3 11 (nI (v 2 + 1)) 3 11 = nI (v 2 + 1)
        rw [zup_at, if_pos ⟨rfl, rfl⟩]
      · intro i hi
        rw [k2 (qt + 5) i (by omega)]
        show _ = zup (zup t3 7 (10 + a) (t2 7 (10 + a) ||| sb b)) 3 11 (nI (v 2 + 1)) 7 (10 + i)
        rw [zup_n (by omega), zup_n (by decide : 7 ≠ 3)]
        have L : zup s2 (qt + 5) a (s2 (qt + 5) a ||| sb b) (qt + 5) i = if i = a then s2 (qt + 5) a ||| sb b else s2 (qt + 5) i := by
          simp only [zup_at, eq_self, true_and]
        have R : zup t3 7 (10 + a) (t2 7 (10 + a) ||| sb b) 7 (10 + i) = if i = a then t2 7 (10 + a) ||| sb b else t2 7 (10 + i) := by
          simp only [zup_at, eq_self, true_and, Nat.add_left_cancel_iff, m5 7 (10 + i) (by omega)]
        have ei := fun i hi => (A2.2.2.2.2.2.1.2.2.1.1 i hi).2.2.2.2.2
        rw [L, R, ei i hi, ei a ha]
end
