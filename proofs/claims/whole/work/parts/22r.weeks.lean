/-! weeks -/
theorem and_nn (y : Int32) : ¬ (y &&& 32767) < 0 := by
  rw [fa_lt]
  have h := BitVec.msb_eq_toInt (x := (y &&& 32767).toBitVec)
  rw [Int32.toBitVec_and, BitVec.msb_and, show (32767 : Int32).toBitVec.msb = false from by decide, Bool.and_false, ← Int32.toBitVec_and] at h
  exact of_decide_eq_false h.symm
theorem shr_eq (s : Int32) : (((Int32.toUInt32 s) >>> ((Int32.toUInt32 16) &&& Int32.toUInt32 31)).toInt32 &&& 32767) = ((s >>> ((16 : Int32) &&& 31)) &&& 32767) := by
  refine b_ext (fun i hi => ?_)
  rw [b_and, b_and, show bt ((s.toUInt32 >>> (Int32.toUInt32 16 &&& Int32.toUInt32 31)).toInt32) i = bt s (16 + i) from b_ushr 16 (by decide) s i, show bt (s >>> ((16 : Int32) &&& 31)) i = _ from b_sshr 16 (by decide) s hi]
  by_cases c : 16 + i < 32
  · rw [if_pos c]
  · rw [show bt (32767 : Int32) i = false from (by decide +kernel : ∀ i, i < 32 → 16 ≤ i → bt (32767 : Int32) i = false) i hi (by omega), Bool.and_false, Bool.and_false]
def drw (s : Int32) : Int32 := ((s >>> ((16 : Int32) &&& 31)) &&& 32767) - ((s >>> ((16 : Int32) &&& 31)) &&& 32767) / 2 * 2
theorem drw_01 (s : Int32) : drw s = 0 ∨ drw s = 1 := by
  unfold drw
  obtain ⟨N, hN, e⟩ := nI_of (and_nn (s >>> ((16 : Int32) &&& 31)))
  rw [e, show (2 : Int32) = nI 2 from rfl, euc hN (by decide) (by decide)]
  rcases (by omega : N % 2 = 0 ∨ N % 2 = 1) with z | z <;> rw [z]
  · exact Or.inl rfl
  · exact Or.inr rfl
def nxs (s : Int32) : Int32 := s * 1103515245 + 12345
theorem zgd_n20 {β : Type} (r : Option β) : zgd ((2 : Nat) != 0) r = r := Eq.trans rfl rfl
theorem zgd_i2 {β : Type} (r : Option β) : zgd ((2 : Int32) != 0) r = r := Eq.trans rfl rfl
theorem sh01 (p : Nat) (hp : p < 32) : (0 : Int32) <<< (nI p &&& 31) = 0 := (by decide +kernel : ∀ p, p < 32 → (0 : Int32) <<< (nI p &&& 31) = 0) p hp
/-- who stays away this week -/
theorem wk_in {σ0 t0 d : zS} {q na n nr : Nat} {x2 x3 x5 x6 x7 x8 s0 : Int32} (hd : dH 35 q) (h : RQ σ0 t0 q na n nr) (hs : t0 0 71 = s0) (h5 : d 0 5 = 0) (h50 : t0 0 50 = 0) : ∀ p, p ≤ n → ∃ s e t, zlp (fun w : Int32 × Int32 × zS => FX7_weeks_L82 0 x2 x3 x5 x6 x7 x8 w.1 w.2.1 w.2.2) (s0, 0, dE 35 q σ0 d) = zlp (fun w : Int32 × Int32 × zS => FX7_weeks_L82 0 x2 x3 x5 x6 x7 x8 w.1 w.2.1 w.2.2) (s, nI p, dE 35 q σ0 e) ∧ zlp (fun w : Int32 × zS => FX8_weeks_L76 0 x2 x3 x5 x6 x7 x8 w.1 w.2) (0, t0) = zlp (fun w : Int32 × zS => FX8_weeks_L76 0 x2 x3 x5 x6 x7 x8 w.1 w.2) (nI p, t) ∧ (∀ k j, ¬ (k = 0 ∧ j = 5) → e k j = d k j) ∧ (∀ k j, ¬ (k = 0 ∧ (j = 50 ∨ j = 71)) → t k j = t0 k j) ∧ t 0 71 = s ∧ (∀ i, i < n → i < p → bt (t 0 50) i = !bt (e 0 5) i) ∧ ∀ i, i < n → p ≤ i → bt (t 0 50) i = false ∧ bt (e 0 5) i = false := by
  obtain ⟨⟨h10, -, -⟩, ⟨h8, e7, e33⟩, -⟩ := id h.2.2.1.1
  intro p
  induction p with
  | zero => intro _; exact ⟨s0, d, t0, rfl, rfl, fun _ _ _ => rfl, fun _ _ _ => rfl, hs, fun i _ hi => by omega, fun i _ _ => by rw [h5, h50]; exact ⟨b_0 i, b_0 i⟩⟩
  | succ p ih =>
    intro hp
    obtain ⟨s, e, t, l1, l2, k1, k2, k3, k4, k5⟩ := ih (by omega)
    have hq0 : ∀ e : zS, (kd 0 ((dE 35 q σ0 e) 0 2).toNatClampNeg == 5) = true ∧ ((dE 35 q σ0 e) 0 2).toNatClampNeg = q := by
      intro e
      have : dE 35 q σ0 e 0 2 = σ0 0 2 := by
        have := hd.2
        unfold dE
        rw [if_neg (by omega), if_neg (by omega), if_neg (by omega), if_neg (by omega)]
      rw [this]
      exact h.2.1.q
    have hn : ∀ e : zS, (dE 35 q σ0 e) (q + 7) 0 = nI n := fun e => by rw [dE_q hd (by decide) (by decide)]; exact e7
    have tn : t 3 3 = nI n := by rw [k2 3 3 (by omega)]; exact e33
    have e50 : ∀ v, zup (zup t 0 71 (nxs s)) 0 50 v 0 71 = nxs s := fun v => by rw [zup_at, if_neg (by omega), zup_at, if_pos ⟨rfl, rfl⟩]
    have hm : FX8_weeks_L76 0 x2 x3 x5 x6 x7 x8 (nI p) t = some (.inl (nI (p + 1), zup (zup t 0 71 (nxs s)) 0 50 (t 0 50 ||| (drw (nxs s) <<< (nI p &&& 31))))) := by
      unfold FX8_weeks_L76 FX8_drawOf
      simp only [zlet_eq, zbd_s, zgd_t, zinr_s, Nat.zero_add, rn_3, rn_4, rn_5, rn_6, rn_7, rn_8, rn_9, rn_10, rn_11, rn_12, rn_13, rn_14, rn_15, rn_16, rn_17, rn_18, rn_19, rn_20, rn_21, rn_22, rn_23, rn_24, rn_25, rn_26, rn_27, rn_28, rn_29, rn_30, rn_31, rn_32, rn_33, rn_34, rn_35, rn_36, rn_37, rn_38, rn_39, rn_40, tn_0, tn_1, tn_2, tn_3, tn_4, tn_5, tn_6, tn_7, tn_8, zi_18_0, zi_18_1, zi_18_2, zi_18_3, zi_18_4, zi_18_5, zi_18_6, zi_18_7, zi_18_8, zi_7_0, zi_7_1, zi_7_2, zi_7_3, zi_7_4, zi_7_5, zi_7_6, zi_64_0, show (3 : Int32) = nI 3 from rfl, zin_n _ (by decide : 3 < 18) (by decide : 18 < 2 ^ 31), nI_clamp (by decide : 3 < 2 ^ 31), tn, if_neg (nI_ge (by omega : p < n) (by omega : n < 2 ^ 31)), k3, zgd_i2, nI_1]
      rw [zup_at, if_pos ⟨rfl, rfl⟩]
      rfl
    have hc : FX7_weeks_L82 0 x2 x3 x5 x6 x7 x8 s (nI p) (dE 35 q σ0 e) = some (.inl (nxs s, nI (p + 1), dE 35 q σ0 (if drw (nxs s) = 0 then zup e 0 5 (e 0 5 ||| sb p) else e))) := by
      unfold FX7_weeks_L82 FX7_weeks_b140
      rw [(hq0 e).1, (hq0 e).2, zgd_t, zlet_eq, hn, if_neg (nI_ge (by omega : p < n) (by omega : n < 2 ^ 31)), zlet_eq, zgd_n20, shr_eq]
      show (if drw (nxs s) = 0 then _ else _) = _
      by_cases c : drw (nxs s) = 0
      · rw [if_pos c, if_pos c, fbit, zbd_s, zlet_eq, zlet_eq, show (0 + 35 : Nat) = 35 from rfl, dE_0 (by decide), dw_5, nI_1]
        rfl
      · rw [if_neg c, if_neg c, zlet_eq, nI_1]
        rfl
    refine ⟨nxs s, _, _, l1.trans (zlp_step hc), l2.trans (zlp_step hm), fun k j hkj => ?_, fun k j hkj => ?_, e50 _, fun i hi hip => ?_, fun i hi hip => ?_⟩
    · rcases drw_01 (nxs s) with c | c
      · rw [if_pos c, zup_at, if_neg hkj]; exact k1 k j hkj
      · rw [if_neg (by rw [c]; decide)]; exact k1 k j hkj
    · rw [zup_at, if_neg (by omega), zup_at, if_neg (by omega)]; exact k2 k j hkj
    · rw [zup_at, if_pos ⟨rfl, rfl⟩]
      rcases drw_01 (nxs s) with c | c
      · rw [if_pos c, c, sh01 p (by omega), zup_at, if_pos ⟨rfl, rfl⟩, bt_or (by omega) (by omega), b_or, b_0, Bool.or_false]
        by_cases ci : i = p
        · subst ci; rw [(k5 i hi (Nat.le_refl i)).1, decide_eq_true rfl, Bool.or_true]; rfl
        · rw [decide_eq_false ci, Bool.or_false]; exact k4 i hi (by omega)
      · rw [if_neg (by rw [c]; decide), c, show (1 : Int32) <<< (nI p &&& 31) = sb p from rfl, bt_or (by omega) (by omega)]
        by_cases ci : i = p
        · subst ci; rw [(k5 i hi (Nat.le_refl i)).2, decide_eq_true rfl, Bool.or_true]; rfl
        · rw [decide_eq_false ci, Bool.or_false]; exact k4 i hi (by omega)
    · obtain ⟨z1, z2⟩ := k5 i hi (by omega)
      rw [zup_at, if_pos ⟨rfl, rfl⟩]
      rcases drw_01 (nxs s) with c | c
      · rw [if_pos c, c, sh01 p (by omega), zup_at, if_pos ⟨rfl, rfl⟩, bt_or (by omega) (by omega), b_or, b_0, Bool.or_false, decide_eq_false (by omega), Bool.or_false]; exact ⟨z1, z2⟩
      · rw [if_neg (by rw [c]; decide), c, show (1 : Int32) <<< (nI p &&& 31) = sb p from rfl, bt_or (by omega) (by omega), decide_eq_false (by omega), Bool.or_false]; exact ⟨z1, z2⟩
/-- a week -/
theorem wk_1 {σ0 t d : zS} {q na n nr i N : Nat} {x3 x4 x5 x6 x7 : Int32} (hd : dH 35 q) (h : RQ σ0 t q na n nr) (hs : t 0 71 = x4) (hB : rB t na n nr 99 d) (hi : i < N) (hN : N < 2 ^ 31) : ∃ s' r m d' t', FX7_weeks_L65 0 (nI N) x3 x4 x5 x6 x7 (nI i) (dE 35 q σ0 d) = some (.inl (s', x5 + r, (if x6 < r then r else x6), x7 + m, nI (i + 1), dE 35 q σ0 d')) ∧ FX8_weeks_L62 0 (nI N) x3 x5 x6 x7 (nI i) t = some (.inl (x5 + r, (if x6 < r then r else x6), x7 + m, nI (i + 1), t')) ∧ RQ σ0 t' q na n nr ∧ t' 0 71 = s' ∧ t' 0 2 = t 0 2 ∧ rB t' na n nr 99 d' := by
  have hb := wk_in (σ0 := σ0) (t0 := zup t 0 50 0) (d := zup d 0 5 0) (x2 := nI N) (x3 := x3) (x5 := x5) (x6 := x6) (x7 := x7) (x8 := nI i) (s0 := x4) hd (h.m (Fm.rf.up rfl)) (by rw [zup_at, if_neg (by omega)]; exact hs) (by rw [zup_at, if_pos ⟨rfl, rfl⟩]) (by rw [zup_at, if_pos ⟨rfl, rfl⟩]) n (Nat.le_refl n)
  obtain ⟨s, e, u, l1, l2, k1, k2, k3, k4, -⟩ := hb
  obtain ⟨⟨h10, -, -⟩, ⟨h8, e7, e33⟩, -⟩ := id h.2.2.1.1
  have ku : ∀ k j, ¬ (k = 0 ∧ (j = 50 ∨ j = 71)) → u k j = t k j := fun k j hkj => by rw [k2 k j hkj, zup_at, if_neg (by omega)]
  have ke : ∀ k j, ¬ (k = 0 ∧ j = 5) → e k j = d k j := fun k j hkj => by rw [k1 k j hkj, zup_at, if_neg hkj]
  have hm : Fm t u := fun k j hkj => ku k j (fun z => by
    obtain ⟨rfl, z | z⟩ := z <;> subst z <;> cases hkj)
  have hu := h.m hm
  have hBu : rB u na n nr 99 e := by
    obtain ⟨⟨c1, c2, c3, c4, c5, c6⟩, b2, b3⟩ := hB
    refine ⟨⟨?_, ?_, ?_, ?_, fun a ha => ?_, fun i hi => k4 i hi hi⟩, fun a ha => ?_, ?_⟩
    · rw [ku 0 46 (by omega), ke 0 1 (by omega)]; exact c1
    · rw [ku 0 47 (by omega), ke 0 2 (by omega)]; exact c2
    · rw [ku 0 48 (by omega), ke 0 3 (by omega)]; exact c3
    · rw [ku 0 49 (by omega), ke 0 4 (by omega)]; exact c4
    · rw [ku 22 a (by omega), ku 7 a (by omega), ke 1 a (by omega), ke 2 a (by omega)]; exact c5 a ha
    · rw [ku 23 a (by omega), ke 3 a (by omega)]; exact b2 a ha
    · unfold cf0 at *
      rw [ke 0 1 (by omega), ke 0 2 (by omega)]; exact b3
  obtain ⟨r1, t', r2, r3, r4, r5, -⟩ := gRun hd hu.2.2.1 hBu (by decide)
  obtain ⟨-, -, -, -, -, n6, -⟩ := r5
  have f71 : t' 0 71 = s := by rw [r3 0 71 rfl]; exact k3
  have f02 : t' 0 2 = t 0 2 := by rw [r3 0 2 rfl, ku 0 2 (by omega)]
  refine ⟨s, mRu (ss q σ0) na n e 8 0, mRu (ss q σ0) na n e 8 1, mRu (ss q σ0) na n e, t', ?_, ?_, hu.m r3.m, f71, f02, r4⟩
  · unfold FX7_weeks_L65
    rw [if_neg (nI_ge hi hN), zlet_eq, zlet_eq, show (0 + 35 : Nat) = 35 from rfl, dw_5]
    refine l1.trans (zlp_exit ?_)
    show FX7_weeks_L82 0 (nI N) x3 x5 x6 x7 (nI i) s (nI n) (dE 35 q σ0 e) = _
    have hq0 : (kd 0 ((dE 35 q σ0 e) 0 2).toNatClampNeg == 5) = true ∧ ((dE 35 q σ0 e) 0 2).toNatClampNeg = q := by
      have : dE 35 q σ0 e 0 2 = σ0 0 2 := by
        have := hd.2
        unfold dE
        rw [if_neg (by omega), if_neg (by omega), if_neg (by omega), if_neg (by omega)]
      rw [this]
      exact h.2.1.q
    unfold FX7_weeks_L82 FX7_weeks_b146
    rw [hq0.1, hq0.2, zgd_t, zlet_eq, dE_q hd (by decide) (by decide), show ss q σ0 7 0 = nI n from e7, if_pos (nI_le (Nat.le_refl n) (by omega)), show (0 + 35 : Nat) = 35 from rfl, r1, zbd_s, zlet_eq, zlet_eq, zlet_eq, fat', show ln 0 (35 + 8) = 8 from rfl, dr_8, show (1 : Int32) = nI 1 from rfl, rd_n (by decide : 1 < 8) (by decide), zbd_s, zlet_eq, zlet_eq]
    rw [show nI i + nI 1 = nI (i + 1) from nI_1 i]
  · unfold FX8_weeks_L62
    rw [if_neg (nI_ge hi hN), zlet_eq, zlet_eq]
    refine l2.trans (zlp_exit ?_)
    show FX8_weeks_L76 0 (nI N) x3 x5 x6 x7 (nI i) (nI n) u = _
    have un : u 3 3 = nI n := by rw [ku 3 3 (by omega)]; exact e33
    unfold FX8_weeks_L76 FX8_weeks_b110
    simp only [zlet_eq, zbd_s, zgd_t, zinr_s, Nat.zero_add, rn_3, rn_4, rn_5, rn_6, rn_7, rn_8, rn_9, rn_10, rn_11, rn_12, rn_13, rn_14, rn_15, rn_16, rn_17, rn_18, rn_19, rn_20, rn_21, rn_22, rn_23, rn_24, rn_25, rn_26, rn_27, rn_28, rn_29, rn_30, rn_31, rn_32, rn_33, rn_34, rn_35, rn_36, rn_37, rn_38, rn_39, rn_40, tn_0, tn_1, tn_2, tn_3, tn_4, tn_5, tn_6, tn_7, tn_8, zi_18_0, zi_18_1, zi_18_2, zi_18_3, zi_18_4, zi_18_5, zi_18_6, zi_18_7, zi_18_8, zi_7_0, zi_7_1, zi_7_2, zi_7_3, zi_7_4, zi_7_5, zi_7_6, zi_64_0, show (3 : Int32) = nI 3 from rfl, zin_n _ (by decide : 3 < 18) (by decide : 18 < 2 ^ 31), nI_clamp (by decide : 3 < 2 ^ 31), un, if_pos (nI_le (Nat.le_refl n) (by omega : n < 2 ^ 31)), r2, n6, nI_1]
theorem rel_weeks {σ τ : zS} (h : RR σ τ) (x y z : Int32) : relX (FX7_weeks 0 x y z σ) (FX8_weeks 0 x y z τ) := by
  obtain ⟨q, na, n, nr, h⟩ := h
  have h0 : RQ σ (zup τ 0 2 0) q na n nr := h.m (Fm.rf.up rfl)
  have t0 : zup τ 0 2 0 0 2 = 0 := by rw [zup_at, if_pos ⟨rfl, rfl⟩]
  have hp := h.2.1
  have hd := hp.d (Or.inr rfl : 35 = 24 ∨ 35 = 35)
  unfold FX8_weeks
  rw [zlet_eq]
  generalize zup τ 0 2 0 = t at *
  have hR : RR σ t := ⟨q, na, n, nr, h0⟩
  unfold FX7_weeks FX7_weeks_b9 FX7_weeks_b27
  rw [gIn2 (a := 0) (b := 2) (a' := 0) (b' := 2) (by decide) (by decide), zbd_s]
  simp only [b01_eq0]
  by_cases z1 : z < 0
  · rw [if_pos z1, decide_eq_true z1]; simp only [Bool.not_true, Bool.false_and, Bool.and_false, if_true]; exact relX_1 hR
  rw [if_neg z1, decide_eq_false z1]
  by_cases z2 : ¬ z ≤ 2
  · have : 2 < z := fa_of_nle z2
    rw [if_neg z2, decide_eq_true this]; simp only [Bool.not_true, Bool.false_and, Bool.and_false, if_true]; exact relX_1 hR
  have z2 := Decidable.not_not.mp z2
  have z3 : ¬ 2 < z := fun c => by rw [fa_lt] at c; rw [fa_le] at z2; omega
  rw [if_pos z2, decide_eq_false z3, if_neg (show ¬ (!false && !false) = false from by decide), gIn2 (a := 0) (b := 30) (a' := 0) (b' := 30) (by decide) (by decide), zbd_s]
  simp only [b01_eq0]
  by_cases y1 : y < 0
  · rw [if_pos y1, decide_eq_true y1]; simp only [Bool.not_true, Bool.false_and, Bool.and_false, if_true]; exact relX_2 hR
  rw [if_neg y1, decide_eq_false y1]
  by_cases y2 : ¬ y ≤ 30
  · have : 30 < y := fa_of_nle y2
    rw [if_neg y2, decide_eq_true this]; simp only [Bool.not_true, Bool.false_and, Bool.and_false, if_true]; exact relX_2 hR
  have y2 := Decidable.not_not.mp y2
  have y3 : ¬ 30 < y := fun c => by rw [fa_lt] at c; rw [fa_le] at y2; omega
  rw [if_pos y2, decide_eq_false y3, if_neg (show ¬ (!false && !false) = false from by decide)]
  obtain ⟨N, hN, rfl⟩ := nI_of y1
  obtain ⟨t1, g1, g2, g3⟩ := gRdy h0 (Or.inr rfl : 35 = 24 ∨ 35 = 35)
  rw [hp.q.1, hp.q.2, zgd_t, zlet_eq, show (0 + 35 : Nat) = 35 from rfl, show (0 + 6 : Nat) = 6 from rfl, fpr hd, zbd_s, zlet_eq, zlet_eq, zlet_eq, zlet_eq, zlet_eq, g1, zbd_s, zlet_eq, zlet_eq, zlet_eq, zlet_eq, zlet_eq]
  have c1 : t1 0 2 = 0 := by rw [g2 0 2 rfl]; exact t0
  generalize mPr 35 q σ = d0 at g3 ⊢
  have hRQ : RQ σ (zup t1 0 71 x) q na n nr := h0.m (g2.m.up rfl)
  have hB : rB (zup t1 0 71 x) na n nr 99 d0 := by
    obtain ⟨⟨c1, c2, c3, c4, c5, c6⟩, b2, b3⟩ := g3
    exact ⟨⟨by simpa [zup_at] using c1, by simpa [zup_at] using c2, by simpa [zup_at] using c3, by simpa [zup_at] using c4, by simpa [zup_at] using c5, by simpa [zup_at] using c6⟩, by simpa [zup_at] using b2, b3⟩
  have loop : ∀ i, i ≤ N → ∃ s a b c d t', zlp (fun w : Int32 × Int32 × Int32 × Int32 × Int32 × zS => FX7_weeks_L65 0 (nI N) z w.1 w.2.1 w.2.2.1 w.2.2.2.1 w.2.2.2.2.1 w.2.2.2.2.2) (x, 0, 0, 0, 0, dE 35 q σ d0) = zlp (fun w : Int32 × Int32 × Int32 × Int32 × Int32 × zS => FX7_weeks_L65 0 (nI N) z w.1 w.2.1 w.2.2.1 w.2.2.2.1 w.2.2.2.2.1 w.2.2.2.2.2) (s, a, b, c, nI i, dE 35 q σ d) ∧ zlp (fun w : Int32 × Int32 × Int32 × Int32 × zS => FX8_weeks_L62 0 (nI N) z w.1 w.2.1 w.2.2.1 w.2.2.2.1 w.2.2.2.2) (0, 0, 0, 0, zup t1 0 71 x) = zlp (fun w : Int32 × Int32 × Int32 × Int32 × zS => FX8_weeks_L62 0 (nI N) z w.1 w.2.1 w.2.2.1 w.2.2.2.1 w.2.2.2.2) (a, b, c, nI i, t') ∧ RQ σ t' q na n nr ∧ t' 0 71 = s ∧ t' 0 2 = 0 ∧ rB t' na n nr 99 d := by
    intro i
    induction i with
    | zero => intro _; exact ⟨x, 0, 0, 0, d0, _, rfl, rfl, hRQ, by rw [zup_at, if_pos ⟨rfl, rfl⟩], by rw [zup_at, if_neg (by omega)]; exact c1, hB⟩
    | succ i ih =>
      intro hi
      obtain ⟨s, a, b, c, d, t', l1, l2, k1, k2, k3, k4⟩ := ih (by omega)
      obtain ⟨s', r, m, d', t'', w1, w2, w3, w4, w5, w6⟩ := wk_1 (x3 := z) (x5 := a) (x6 := b) (x7 := c) hd k1 k2 k4 (by omega : i < N) hN
      exact ⟨s', _, _, _, d', t'', l1.trans (zlp_step w1), l2.trans (zlp_step w2), w3, w4, w5.trans k3, w6⟩
  obtain ⟨s, a, b, c, d, t', l1, l2, k1, -, k3, -⟩ := loop N (Nat.le_refl N)
  have hX : RR (dE 35 q σ d) t' := ⟨q, na, n, nr, k1.x (Fx_dE hp.1)⟩
  have hc : zlp (fun w : Int32 × Int32 × Int32 × Int32 × Int32 × zS => FX7_weeks_L65 0 (nI N) z w.1 w.2.1 w.2.2.1 w.2.2.2.1 w.2.2.2.2.1 w.2.2.2.2.2) (x, 0, 0, 0, 0, dE 35 q σ d0) = some (0, (if z = 0 then a else if z = 1 then b else c), dE 35 q σ d) := by
    rw [l1]
    refine zlp_end ?_
    show FX7_weeks_L65 0 (nI N) z s a b c (nI N) (dE 35 q σ d) = _
    unfold FX7_weeks_L65 FX7_weeks_b193 FX7_weeks_b214
    rw [if_pos (nI_le (Nat.le_refl N) hN)]
    by_cases e0 : z = 0
    · rw [if_pos e0, if_pos e0]; rfl
    rw [if_neg e0, if_neg e0]
    by_cases e1 : z = 1
    · rw [if_pos e1, if_pos e1]; rfl
    rw [if_neg e1, if_neg e1]; rfl
  have hm : zlp (fun w : Int32 × Int32 × Int32 × Int32 × zS => FX8_weeks_L62 0 (nI N) z w.1 w.2.1 w.2.2.1 w.2.2.2.1 w.2.2.2.2) (0, 0, 0, 0, zup t1 0 71 x) = some ((if z = 0 then a else if z = 1 then b else c), t') := by
    rw [l2]
    refine zlp_end ?_
    show FX8_weeks_L62 0 (nI N) z a b c (nI N) t' = _
    unfold FX8_weeks_L62 FX8_weeks_b147 FX8_weeks_b168
    rw [if_pos (nI_le (Nat.le_refl N) hN)]
    by_cases e0 : z = 0
    · rw [if_pos e0, if_pos e0]; rfl
    rw [if_neg e0, if_neg e0]
    by_cases e1 : z = 1
    · rw [if_pos e1, if_pos e1]; rfl
    rw [if_neg e1, if_neg e1]; rfl
  have hc' : zlp (fun q_1 : Int32 × Int32 × Int32 × Int32 × Int32 × zS => FX7_weeks_L65 0 (nI N) z q_1.1 q_1.2.1 q_1.2.2.1 q_1.2.2.2.1 q_1.2.2.2.2.1 q_1.2.2.2.2.2) (x, 0, 0, 0, 0, dE 35 q σ d0) = _ := hc
  rw [hc', hm]
  exact relX_0 hX k3
