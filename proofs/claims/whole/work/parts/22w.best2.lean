/-- asked for nobody to be watched -/
theorem bI.x {σ σ' t : zS} {q na n nr : Nat} {how b5 b6 : Int32} (h : bI σ t q na n nr how b5 b6) (f : Fx σ σ') : bI σ' t q na n nr how b5 b6 := by
  obtain ⟨h1, ⟨T1, T2, T3, T4⟩, h3, h4, h5⟩ := h
  have hq := h1.2.1.1
  exact ⟨h1.x f, ⟨by rw [T1]; exact (f 6 2 rfl).symm, by rw [T2]; exact (f 6 3 rfl).symm, fun a ha => by rw [T3 a ha]; exact (f _ _ (xsc_row (by omega) (by omega) (by omega) (by omega) (by omega) (by omega) (by omega) a)).symm, T4⟩, h3, h4, h5⟩
theorem cw0 {σ t : zS} {q na n nr : Nat} {w w' r : Int32} {σ' : zS} (h : RQ σ t q na n nr) (hc : FX7_costWatched 0 0 w σ = some (r, σ')) : ∃ σ'', FX7_costWatched 0 0 w' σ = some (r, σ'') ∧ Fx σ' σ'' := by
  have hp := h.2.1
  have hd := hp.d (Or.inr rfl : 35 = 24 ∨ 35 = 35)
  obtain ⟨t1, g1, g2, g3⟩ := gRdy h (Or.inr rfl : 35 = 24 ∨ 35 = 35)
  have hS1 := h.2.2.1.fr g2
  generalize hdd : zup (mPr 35 q σ) 0 1 0 = d
  have hB : ∀ v, rB (zup (zup t1 0 46 0) 0 47 v) na n nr 99 (zup d 0 2 v) := by
    intro v
    obtain ⟨⟨c1, c2, c3, c4, c5, c6⟩, b2, b3⟩ := g3
    rw [← hdd]
    exact ⟨⟨by simp [zup_at], by simp [zup_at], by simpa [zup_at] using c3, by simpa [zup_at] using c4, by simpa [zup_at] using c5, by simpa [zup_at] using c6⟩, by simpa [zup_at] using b2, Or.inl (by simp [zup_at])⟩
  have hSv : ∀ v, rSh (zup (zup t1 0 46 0) 0 47 v) (ss q σ) na n nr := fun v => hS1.fr ((Fr.rf.up (k := 0) (j := 46) rfl).up rfl)
  have run : ∀ v, FX7_costWatched 0 0 v σ = some (mRu (ss q σ) na n (zup d 0 2 v) 8 0, dE 35 q σ (mRu (ss q σ) na n (zup d 0 2 v))) := by
    intro v
    obtain ⟨r1, -⟩ := gRun hd (hSv v) (hB v) (by decide)
    unfold FX7_costWatched
    rw [hp.q.1, hp.q.2, zgd_t, zlet_eq, show (0 + 35 : Nat) = 35 from rfl, show (0 + 6 : Nat) = 6 from rfl, fpr hd, zbd_s, zlet_eq, zlet_eq, dw_1, dw_2, hdd, r1, zbd_s]
  have d01 : ∀ v, zup d 0 2 v 0 1 = 0 := fun v => by rw [← hdd]; simp [zup_at]
  have ind : ∀ v, mRu (ss q σ) na n (zup (zup d 0 2 w) 0 2 v) = zup (mRu (ss q σ) na n (zup d 0 2 w)) 0 2 v := by
    intro v
    refine sw_mRu (d01 w) (fun M hM => ?_)
    obtain ⟨-, -, -, -, -, k1, -, k2⟩ := gGo (hSv w).1 h.2.2.1.2.1 hM (hB w) (by decide)
    have e1 : mDy (ss q σ) na n M (zup d 0 2 w) 0 1 = 0 := by rw [k2 1 (by decide) (by decide)]; exact d01 w
    rcases k1 with z | z | z | z
    · exact z.2
    · rw [e1] at z; exact absurd z.1 (by decide)
    · rw [e1] at z; exact absurd z.1 (by decide)
    · rw [e1] at z; exact absurd z.1 (by decide)
  have two : zup (zup d 0 2 w) 0 2 w' = zup d 0 2 w' := by
    funext a b
    rw [zup_at, zup_at, zup_at]
    by_cases c : a = 0 ∧ b = 2
    · rw [if_pos c, if_pos c]
    · rw [if_neg c, if_neg c, if_neg c]
  have i2 := ind w'
  rw [two] at i2
  rw [run w] at hc
  have hc' := Option.some.inj hc
  have r1 : mRu (ss q σ) na n (zup d 0 2 w) 8 0 = r := congrArg Prod.fst hc'
  have r2 : dE 35 q σ (mRu (ss q σ) na n (zup d 0 2 w)) = σ' := congrArg Prod.snd hc'
  refine ⟨dE 35 q σ (mRu (ss q σ) na n (zup d 0 2 w')), ?_, ?_⟩
  · rw [run w', i2, sw_r (by decide), r1]
  · rw [← r2]
    exact fun k j hk => ((Fx_dE hp.1) k j hk).trans ((Fx_dE hp.1) k j hk).symm
/-- the end -/
theorem bst_end {σ t : zS} {q na n nr : Nat} {how b5 b6 x2 : Int32} (h : bI σ t q na n nr how b5 b6) : relX (FX7_best_b187 x2 b5 b6 σ) (FX8_best_b146 0 x2 t) := by
  obtain ⟨h1, -, -, h4, h5⟩ := h
  have hR : RR σ t := ⟨q, na, n, nr, h1⟩
  unfold FX7_best_b187 FX7_best_b198 FX8_best_b146 FX8_best_b172
  rcases h5 with ⟨z1, z2, z3⟩ | ⟨z1, z2, z3, -⟩
  · rw [if_pos z1, z2, z3]
    by_cases c : x2 = 0
    · rw [if_pos c]; exact relX_0 hR h4
    · rw [if_neg c]; exact relX_0 hR h4
  · rw [if_neg (show ¬ t 0 62 = 0 from by rw [z1]; decide), z2, z3]
    by_cases c : x2 = 0
    · rw [if_pos c, if_pos c]; exact relX_0 hR h4
    · rw [if_neg c, if_neg c]; exact relX_0 hR h4
theorem bI.how {σ t : zS} {q na n nr : Nat} {how b5 b6 v : Int32} (h : bI σ t q na n nr how b5 b6) : bI σ (zup t 0 46 v) q na n nr v b5 b6 := by
  obtain ⟨h1, ⟨T1, T2, T3, T4⟩, h3, h4, h5⟩ := h
  exact ⟨h1.m (Fm.rf.up rfl), ⟨by simpa [zup_at] using T1, by simpa [zup_at] using T2, by simpa [zup_at] using T3, by simpa [zup_at] using T4⟩, by simp [zup_at], by simpa [zup_at] using h4, by simpa [zup_at] using h5⟩
theorem bst_fin {σ t : zS} {q na n nr : Nat} {b5 b6 x1 x2 how : Int32} (hh : how = 1 ↔ x1 = 2) (h : bI σ t q na n nr how b5 b6) : relX (FX7_best_b149 0 x2 how b5 b6 σ) (FX8_best_b131 0 x1 x2 t) := by
  unfold FX7_best_b149 FX8_best_b131
  by_cases c : x1 = 2
  · rw [if_pos (hh.mpr c), if_pos c, zlet_eq]
    have h0 := h.how (v := 0)
    by_cases e : b6 = 0
    · rw [if_pos e]
      subst e
      obtain ⟨t', a1, a2, -⟩ := h0.no (v := -1) rfl (Or.inl rfl)
      rw [a1, zbd_s]
      exact bst_end a2
    · rw [if_neg e]
      obtain ⟨c0, σ', t', c1, a1, a2, a3, -⟩ := h0.ask (v := -1) rfl (Or.inl rfl)
      obtain ⟨σ'', y1, y2⟩ := cw0 (w' := 0) h0.1 a1
      rw [y1, zbd_s, zlet_eq, a2, zbd_s]
      have a4 := a3.x y2
      unfold FX7_best_b180
      by_cases e1 : b6 = -1
      · rw [if_pos e1]
        rw [if_pos e1, if_pos e1] at a4
        rw [zlet_eq, zlet_eq]
        exact bst_end a4
      · rw [if_neg e1]
        rw [if_neg e1, if_neg e1] at a4
        by_cases e2 : b6 ≤ nI c0
        · rw [if_pos e2]
          rw [if_pos e2, if_pos e2] at a4
          exact bst_end a4
        · rw [if_neg e2]
          rw [if_neg e2, if_neg e2] at a4
          rw [zlet_eq, zlet_eq]
          exact bst_end a4
  · rw [if_neg (fun z => c (hh.mp z)), if_neg c]
    exact bst_end h
/-- nothing better can come: only the reference goes on -/
theorem bst_0 {σ : zS} {q na n nr N : Nat} {b5 x1 x2 how : Int32} (hN : N < 2 ^ 31) (hcf : ∀ i, i < N → cfv na n nr how (nI i)) : ∀ k i t, i + k = N → t 0 47 = nI i → bI σ t q na n nr how b5 0 → ∃ t', zlp (fun w => FX8_best_L102 0 x1 x2 (nI N) w) t = FX8_best_b131 0 x1 x2 t' ∧ bI σ t' q na n nr how b5 0 := by
  intro k
  induction k with
  | zero =>
    intro i t hi h47 h
    refine ⟨t, zlp_exit ?_, h⟩
    unfold FX8_best_L102
    rw [h47, if_pos (nI_le (by omega : N ≤ i) (by omega))]
  | succ k ih =>
    intro i t hi h47 h
    obtain ⟨t', a1, a2, a3⟩ := h.no (v := nI i) h47 (hcf i (by omega))
    obtain ⟨t'', y1, y2⟩ := ih (i + 1) (zup t' 0 47 (nI (i + 1))) (by omega) (by rw [zup_at, if_pos ⟨rfl, rfl⟩]) a2.up
    refine ⟨t'', (zlp_step ?_).trans y1, y2⟩
    unfold FX8_best_L102
    rw [h47, if_neg (nI_ge (by omega : i < N) hN), a1, zbd_s, zlet_eq, a3, nI_1]
theorem bst_l {q na n nr N : Nat} {x1 x2 how : Int32} (hN : N < 2 ^ 31) (hcf : ∀ i, i < N → cfv na n nr how (nI i)) : ∀ k i σ t b5 b6, i + k = N → t 0 47 = nI i → bI σ t q na n nr how b5 b6 → ∃ σ' t' b5' b6', zlp (fun w : Int32 × Int32 × Int32 × zS => FX7_best_L101 0 x2 how (nI N) w.1 w.2.1 w.2.2.1 w.2.2.2) (b5, b6, nI i, σ) = FX7_best_b149 0 x2 how b5' b6' σ' ∧ zlp (fun w => FX8_best_L102 0 x1 x2 (nI N) w) t = FX8_best_b131 0 x1 x2 t' ∧ bI σ' t' q na n nr how b5' b6' := by
  intro k
  induction k with
  | zero =>
    intro i σ t b5 b6 hi h47 h
    refine ⟨σ, t, b5, b6, zlp_exit ?_, zlp_exit ?_, h⟩
    · show FX7_best_L101 0 x2 how (nI N) b5 b6 (nI i) σ = _
      unfold FX7_best_L101
      rw [if_pos (nI_le (by omega : N ≤ i) (by omega))]
    · unfold FX8_best_L102
      rw [h47, if_pos (nI_le (by omega : N ≤ i) (by omega))]
  | succ k ih =>
    intro i σ t b5 b6 hi h47 h
    have ni : ¬ nI N ≤ nI i := nI_ge (by omega : i < N) hN
    by_cases e : b6 = 0
    · subst e
      obtain ⟨t', y1, y2⟩ := bst_0 (x1 := x1) (x2 := x2) hN hcf (k + 1) i t hi h47 h
      refine ⟨σ, t', b5, 0, zlp_exit ?_, y1, y2⟩
      show FX7_best_L101 0 x2 how (nI N) b5 0 (nI i) σ = _
      unfold FX7_best_L101
      rw [if_neg ni, if_pos rfl]
    · obtain ⟨c0, σ', t', c1, a1, a2, a3, a4⟩ := h.ask (v := nI i) h47 (hcf i (by omega))
      obtain ⟨σ2, t2, b5', b6', y1, y2, y3⟩ := ih (i + 1) σ' (zup t' 0 47 (nI (i + 1))) _ _ (by omega) (by rw [zup_at, if_pos ⟨rfl, rfl⟩]) a3.up
      refine ⟨σ2, t2, b5', b6', (zlp_step ?_).trans y1, (zlp_step ?_).trans y2, y3⟩
      · show FX7_best_L101 0 x2 how (nI N) b5 b6 (nI i) σ = _
        unfold FX7_best_L101 FX7_best_b135 FX7_best_b143
        rw [if_neg ni, if_neg e, a1, zbd_s, zlet_eq]
        by_cases e1 : b6 = -1
        · rw [if_pos e1, if_pos e1, if_pos e1, zlet_eq, zlet_eq, zlet_eq, nI_1]
        · rw [if_neg e1, if_neg e1, if_neg e1]
          by_cases e2 : b6 ≤ nI c0
          · rw [if_pos e2, if_pos e2, if_pos e2, zlet_eq, nI_1]
          · rw [if_neg e2, if_neg e2, if_neg e2, zlet_eq, zlet_eq, zlet_eq, nI_1]
      · unfold FX8_best_L102
        rw [h47, if_neg ni, a2, zbd_s, zlet_eq, a4, nI_1]
theorem rel_best {σ τ : zS} (h : RR σ τ) (x1 x2 : Int32) : relX (FX7_best 0 x1 x2 σ) (FX8_best 0 x1 x2 τ) := by
  obtain ⟨q, na, n, nr, h⟩ := h
  have h0 : RQ σ (zup τ 0 2 0) q na n nr := h.m (Fm.rf.up rfl)
  have t0 : zup τ 0 2 0 0 2 = 0 := by rw [zup_at, if_pos ⟨rfl, rfl⟩]
  have hp := h.2.1
  have hd := hp.d (Or.inr rfl : 35 = 24 ∨ 35 = 35)
  unfold FX8_best FX8_best_b26
  rw [zlet_eq]
  generalize zup τ 0 2 0 = t at *
  have hR : RR σ t := ⟨q, na, n, nr, h0⟩
  unfold FX7_best FX7_best_b18
  rw [gIn2 (a := 0) (b := 2) (a' := 0) (b' := 2) (by decide) (by decide), zbd_s]
  simp only [b01_eq0]
  by_cases z1 : x1 < 0
  · rw [if_pos z1, decide_eq_true z1]; simp only [Bool.not_true, Bool.false_and, Bool.and_false, if_true]; exact relX_1 hR
  rw [if_neg z1, decide_eq_false z1]
  by_cases z2 : 2 < x1
  · rw [if_pos z2, decide_eq_true z2]; simp only [Bool.not_true, Bool.false_and, Bool.and_false, if_true]; exact relX_1 hR
  rw [if_neg z2, decide_eq_false z2, if_neg (show ¬ (!false && !false) = false from by decide)]
  by_cases y1 : x2 < 0
  · rw [if_pos y1, if_pos y1]; exact relX_1 hR
  rw [if_neg y1, if_neg y1]
  by_cases y2 : ¬ x2 ≤ 1
  · rw [if_neg y2, if_neg y2]; exact relX_1 hR
  have y2 := Decidable.not_not.mp y2
  rw [if_pos y2, if_pos y2]
  obtain ⟨t1, g1, g2, g3⟩ := gRdy h0 (Or.inr rfl : 35 = 24 ∨ 35 = 35)
  rw [g1, zbd_s, zlet_eq]
  obtain ⟨c1, c2, c3⟩ := h0.2.2.1.c
  have hna := h0.2.2.1.1.1.1
  have hn8 := h0.2.2.1.1.2.1.1
  have hr4 := h0.2.2.1.1.2.2.1.1
  have e0 : t1 3 0 = nI na := by rw [g2.row 3 (by decide) (by decide)]; exact h0.2.2.1.1.1.2.2
  have e3 : t1 3 3 = nI n := by rw [g2.row 3 (by decide) (by decide)]; exact h0.2.2.1.1.2.1.2.2
  have e4 : t1 3 4 = nI nr := by rw [g2.row 3 (by decide) (by decide)]; exact h0.2.2.1.1.2.2.1.2.2
  have core : ∀ (how : Int32) (N : Nat), N < 2 ^ 31 → (how = 1 ↔ x1 = 2) → (∀ i, i < N → cfv na n nr how (nI i)) → relX (FX7_best_b90 0 x2 how (nI N) σ) (FX8_best_b96 0 x1 x2 (nI N) (zup (zup t1 0 62 0) 0 46 how)) := by
    intro how N hN hh hcf
    have hI : bI σ (zup (zup (zup t1 0 62 0) 0 46 how) 0 47 0) q na n nr how (-1) (-1) := by
      obtain ⟨⟨b1, b2, b3, b4, b5, b6⟩, -⟩ := g3
      refine ⟨h0.m (((g2.m.up rfl).up rfl).up rfl), ⟨?_, ?_, fun a ha => ?_, fun p hp => ?_⟩, by simp [zup_at], ?_, Or.inl ⟨by simp [zup_at], rfl, rfl⟩⟩
      · have : t1 0 48 = σ 6 2 := by rw [b3, mPr_0]; rfl
        simpa [zup_at] using this
      · have : t1 0 49 = σ 6 3 := by rw [b4, mPr_0]; rfl
        simpa [zup_at] using this
      · have : t1 22 a = σ (q + 2) a := by rw [(b5 a ha).1, (mPr_r a (by omega)).1]
        simpa [zup_at] using this
      · have : bt (t1 0 50) p = true := by rw [b6 p hp, mPr_0, if_pos rfl, b_0]; rfl
        simpa [zup_at] using this
      · have : t1 0 2 = 0 := by rw [g2 0 2 rfl]; exact t0
        simpa [zup_at] using this
    obtain ⟨σ', t', b5', b6', l1, l2, l3⟩ := bst_l (x1 := x1) (x2 := x2) hN hcf N 0 σ _ (-1) (-1) (Nat.zero_add N) (by rw [zup_at, if_pos ⟨rfl, rfl⟩]; rfl) hI
    have l1' : FX7_best_b90 0 x2 how (nI N) σ = FX7_best_b149 0 x2 how b5' b6' σ' := l1
    have l2' : FX8_best_b96 0 x1 x2 (nI N) (zup (zup t1 0 62 0) 0 46 how) = FX8_best_b131 0 x1 x2 t' := l2
    rw [l1', l2']
    exact bst_fin hh l3
  have kq := hp.q
  have u : ∀ (how : Int32) j, zup (zup t1 0 62 0) 0 46 how 3 j = t1 3 j := fun how j => by rw [zup_n (by decide), zup_n (by decide)]
  unfold FX7_best_b44 FX8_best_b60
  by_cases x0 : x1 = 0
  · rw [if_pos x0, if_pos x0]
    rw [zlet_eq, if_pos x0, kq.1, kq.2, zgd_t, zlet_eq, c1, zlet_eq, if_pos x0, show (0 + 3 : Nat) = 3 from rfl, show (0 : Int32).toNatClampNeg = 0 from rfl, u, e0, show ln 1 3 = 18 from rfl, show zin 18 0 _ = _ from zin_n (p := 0) _ (by decide : 0 < 18) (by decide)]
    exact core 3 na (by omega) (by subst x0; decide) (fun i hi => Or.inr (Or.inr (Or.inr ⟨rfl, i, hi, rfl⟩)))
  rw [if_neg x0, if_neg x0]
  by_cases x1' : x1 = 1
  · rw [if_pos x1', if_pos x1']
    rw [zlet_eq, if_neg x0, if_pos x1', kq.1, kq.2, zgd_t, zlet_eq, c2, zlet_eq, if_neg x0, if_pos x1', show (0 + 3 : Nat) = 3 from rfl, show (3 : Int32).toNatClampNeg = 3 from rfl, u, e3, show ln 1 3 = 18 from rfl, show zin 18 3 _ = _ from zin_n (p := 3) _ (by decide : 3 < 18) (by decide)]
    exact core 2 n (by omega) (by subst x1'; decide) (fun i hi => Or.inr (Or.inr (Or.inl ⟨rfl, i, hi, rfl⟩)))
  rw [if_neg x1', if_neg x1']
  have x2' : x1 = 2 := by
    have a1 : ¬ x1.toInt < (0 : Int32).toInt := fun z => z1 ((fa_lt _ _).mpr z)
    have a2 : ¬ (2 : Int32).toInt < x1.toInt := fun z => z2 ((fa_lt _ _).mpr z)
    have a3 : ¬ x1.toInt = (0 : Int32).toInt := fun z => x0 ((fa_eq _ _).mpr z)
    have a4 : ¬ x1.toInt = (1 : Int32).toInt := fun z => x1' ((fa_eq _ _).mpr z)
    rw [fa_eq]
    have q0 : (0 : Int32).toInt = 0 := rfl
    have q1 : (1 : Int32).toInt = 1 := rfl
    have q2 : (2 : Int32).toInt = 2 := rfl
    omega
  rw [zlet_eq, if_neg x0, if_neg x1', kq.1, kq.2, zgd_t, zlet_eq, c3, zlet_eq, if_neg x0, if_neg x1', show (0 + 3 : Nat) = 3 from rfl, show (4 : Int32).toNatClampNeg = 4 from rfl, u, e4, show ln 1 3 = 18 from rfl, show zin 18 4 _ = _ from zin_n (p := 4) _ (by decide : 4 < 18) (by decide)]
  exact core 1 nr (by omega) (by subst x2'; decide) (fun i hi => Or.inr (Or.inl ⟨rfl, i, hi, rfl⟩))
