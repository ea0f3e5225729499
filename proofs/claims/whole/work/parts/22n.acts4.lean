theorem zgd_n1 {β : Type} (r : Option β) : zgd ((1 : Nat) == 0 || (1 : Nat) == 1) r = r := Eq.trans rfl rfl
theorem zgd_n0 {β : Type} (r : Option β) : zgd ((0 : Nat) == 0 || (0 : Nat) == 1) r = r := Eq.trans rfl rfl
def cwb (na n nr : Nat) (x y : Int32) : Bool := if x = 0 then true else if x = 1 then isn y nr else if x = 2 then isn y n else if x = 3 then isn y na else false
theorem fcw {σ : zS} {q na n nr : Nat} {x y : Int32} (hp : rPt σ q) (c1 : σ (q + 1) 0 = nI na) (c2 : σ (q + 7) 0 = nI n) (c3 : σ (q + 14) 0 = nI nr) : FX7_canWatch 0 x y σ = some (b01 (cwb na n nr x y), σ) := by
  have kq := kd_q (hp.d (Or.inl rfl : 24 = 24 ∨ 24 = 35))
  unfold FX7_canWatch FX7_canWatch_b56 FX7_canWatch_b57 cwb
  simp only [hp.q.2, kq, zgd_t, zlet_eq, zgd_00, zgd_11, c3, fhp c2, fha c1, zbd_s, b01_gd]
  by_cases x0 : x = 0
  · rw [if_pos x0, if_pos x0]; rfl
  rw [if_neg x0, if_neg x0]
  by_cases x1 : x = 1
  · rw [if_pos x1, if_pos x1]
    unfold isn
    by_cases y0 : y < 0
    · rw [if_pos y0, decide_eq_true y0]; rfl
    · by_cases y1 : nI nr ≤ y
      · rw [if_neg y0, if_pos y1, decide_eq_true y1, decide_eq_false y0]; rfl
      · rw [if_neg y0, if_neg y1, decide_eq_false y1, decide_eq_false y0]; rfl
  rw [if_neg x1, if_neg x1]
  by_cases x2 : x = 2
  · rw [if_pos x2, if_pos x2]
  rw [if_neg x2, if_neg x2]
  by_cases x3 : x = 3
  · rw [if_pos x3, if_pos x3]
  · rw [if_neg x3, if_neg x3]; rfl
theorem rel_watch {σ τ : zS} (h : RR σ τ) (x y : Int32) : relI (FX7_watch 0 x y σ) (FX8_watch 0 x y τ) := by
  have h0 := h.code 0
  obtain ⟨q, na, n, nr, h⟩ := h0
  obtain ⟨c1, c2, c3⟩ := h.2.2.1.c
  obtain ⟨⟨h10, -, e30⟩, ⟨h8, -, e33⟩, ⟨h4, -, e34⟩, -⟩ := id h.2.2.1.1
  unfold FX7_watch
  rw [fcw h.2.1 c1 c2 c3, zbd_s]
  have hm : FX8_watch 0 x y τ = FX8_watch_b63 0 x y (b01 (cwb na n nr x y)) (zup τ 0 2 0) := by
    unfold FX8_watch FX8_watch_b32 FX8_watch_b45 FX8_watch_b58 FX8_watch_b62 cwb
    rw [zlet_eq]
    generalize zup τ 0 2 0 = t at *
    simp only [zlet_eq, zbd_s, zgd_t, zinr_s, Nat.zero_add, rn_3, rn_4, rn_5, rn_6, rn_7, rn_8, rn_9, rn_10, rn_11, rn_12, rn_13, rn_14, rn_15, rn_16, rn_17, rn_18, rn_19, rn_20, rn_21, rn_22, rn_23, rn_24, rn_25, rn_26, rn_27, rn_28, rn_29, rn_30, rn_31, rn_32, rn_33, rn_34, rn_35, rn_36, rn_37, rn_38, rn_39, rn_40, tn_0, tn_1, tn_2, tn_3, tn_4, tn_5, tn_6, tn_7, tn_8, zi_18_0, zi_18_1, zi_18_2, zi_18_3, zi_18_4, zi_18_5, zi_18_6, zi_18_7, zi_18_8, zi_7_0, zi_7_1, zi_7_2, zi_7_3, zi_7_4, zi_7_5, zi_7_6, zi_64_0, e34, gIn4 (by omega : nr < 2 ^ 31) rfl, gIp (by omega : n < 2 ^ 31) e33, gIa (by omega : na < 2 ^ 31) e30, b01_eq0]
    by_cases x0 : x = 0
    · rw [if_pos x0, if_pos x0]; rfl
    rw [if_neg x0, if_neg x0]
    by_cases x1 : x = 1
    · subst x1
      simp only [li_0_1, li_0_2, li_0_3, li_0_4, li_0_5, li_0_6, li_0_7, li_1_0, li_1_2, li_1_3, li_1_4, li_1_5, li_1_6, li_1_7, li_2_0, li_2_1, li_2_3, li_2_4, li_2_5, li_2_6, li_2_7, li_3_0, li_3_1, li_3_2, li_3_4, li_3_5, li_3_6, li_3_7, li_4_0, li_4_1, li_4_2, li_4_3, li_4_5, li_4_6, li_4_7, li_5_0, li_5_1, li_5_2, li_5_3, li_5_4, li_5_6, li_5_7, li_6_0, li_6_1, li_6_2, li_6_3, li_6_4, li_6_5, li_6_7, li_7_0, li_7_1, li_7_2, li_7_3, li_7_4, li_7_5, li_7_6, eq_self, if_true, if_false]
      cases isn y nr <;> rfl
    rw [if_neg x1, if_neg x1]
    by_cases x2 : x = 2
    · subst x2
      simp only [li_0_1, li_0_2, li_0_3, li_0_4, li_0_5, li_0_6, li_0_7, li_1_0, li_1_2, li_1_3, li_1_4, li_1_5, li_1_6, li_1_7, li_2_0, li_2_1, li_2_3, li_2_4, li_2_5, li_2_6, li_2_7, li_3_0, li_3_1, li_3_2, li_3_4, li_3_5, li_3_6, li_3_7, li_4_0, li_4_1, li_4_2, li_4_3, li_4_5, li_4_6, li_4_7, li_5_0, li_5_1, li_5_2, li_5_3, li_5_4, li_5_6, li_5_7, li_6_0, li_6_1, li_6_2, li_6_3, li_6_4, li_6_5, li_6_7, li_7_0, li_7_1, li_7_2, li_7_3, li_7_4, li_7_5, li_7_6, eq_self, if_true, if_false]
      cases isn y n <;> rfl
    rw [if_neg x2, if_neg x2]
    by_cases x3 : x = 3
    · rw [if_pos x3, if_pos x3]
      cases isn y na <;> rfl
    · rw [if_neg x3, if_neg x3]; rfl
  rw [hm]
  generalize zup τ 0 2 0 = t at *
  unfold FX8_watch_b63
  rw [zlet_eq]
  cases hc : cwb na n nr x y
  · rw [if_pos (show b01 false = 0 from rfl), if_pos (show b01 false = 0 from rfl)]
    obtain ⟨r1, r2, r3⟩ := rRef1 h
    rw [show (0 + 6 : Nat) = 6 from rfl, r1, zbd_s]
    exact ⟨0, _, _, rfl, rfl, r3⟩
  · rw [if_neg (show ¬ b01 true = 0 from by decide), if_neg (show ¬ b01 true = 0 from by decide)]
    obtain ⟨σ1, t1, b1, b2, b3, -, -, b9, s6, sk, m0, mk⟩ := rKeep h
    rw [b1, b2, zbd_s, zbd_s, zlet_eq, zlet_eq]
    have key : ∀ w : Int32, cfv na n nr x w → relI (FX7_watch_b44 6 w (zup σ1 6 0 x)) (FX8_watch_b99 0 w (zup t1 0 29 x)) := by
      intro w hw
      unfold FX7_watch_b44 FX8_watch_b99
      rw [zlet_eq, zlet_eq, zgd_n1, zgd_n1]
      refine ⟨1, _, _, rfl, rfl, q, na, n, nr, b3.nw b9 (fun k j k1 k2 k3 => by rw [zup_at, if_neg (by omega), zup_at, if_neg (by omega)]) (fun k j k1 k2 k3 => by rw [zup_at, if_neg (by omega), zup_at, if_neg (by omega)]) ?_⟩
      obtain ⟨⟨z1, z2, z3, z4, z5⟩, -⟩ := b3.2.2.2.1
      refine ⟨fun i hi => ?_, by simpa [zup_at] using hw, by simpa [zup_at] using z3, by simpa [zup_at] using z4, by simpa [zup_n] using z5⟩
      show zup (zup σ1 6 0 x) 6 1 w 6 i = zup (zup t1 0 29 x) 0 30 w 0 (29 + i)
      rw [zup_at (k := 6) (j := 1), zup_at (k := 0) (j := 30)]
      by_cases ci : i = 1
      · subst ci; rfl
      · rw [if_neg (by omega), if_neg (by omega), zup_at (k := 6) (j := 0), zup_at (k := 0) (j := 29)]
        by_cases cj : i = 0
        · subst cj; rfl
        · rw [if_neg (by omega), if_neg (by omega)]; exact z1 i hi
    unfold cwb at hc
    by_cases x0 : x = 0
    · rw [if_pos x0, if_pos x0]
      exact key 0 (Or.inl x0)
    · rw [if_neg x0] at hc
      rw [if_neg x0, if_neg x0]
      refine key y ?_
      by_cases x1 : x = 1
      · rw [if_pos x1] at hc
        exact Or.inr (Or.inl ⟨x1, (isn_t (by omega)).mp hc⟩)
      rw [if_neg x1] at hc
      by_cases x2 : x = 2
      · rw [if_pos x2] at hc
        exact Or.inr (Or.inr (Or.inl ⟨x2, (isn_t (by omega)).mp hc⟩))
      rw [if_neg x2] at hc
      by_cases x3 : x = 3
      · rw [if_pos x3] at hc
        exact Or.inr (Or.inr (Or.inr ⟨x3, (isn_t (by omega)).mp hc⟩))
      · rw [if_neg x3] at hc; cases hc
/-- days -/
def dit (S : zS) (na n : Nat) (i : Nat) (d : zS) : zS := fo (fun _ e => mRu S na n e) i d
def dsm (S : zS) (na n : Nat) (i : Nat) (d : zS) : Int32 := fo (fun i s => s + mRu S na n (dit S na n i d) 8 0) i 0
theorem rel_days {σ τ : zS} (h : RR σ τ) (x : Int32) : relI (FX7_days 0 x σ) (FX8_days 0 x τ) := by
  have h0 := h.code 0
  obtain ⟨q, na, n, nr, h⟩ := h0
  have hd := h.2.1.d (Or.inr rfl : 35 = 24 ∨ 35 = 35)
  unfold FX7_days FX7_days_b11 FX8_days
  simp only [zlet_eq, gIn2 (a := 1) (b := 30) (a' := 1) (b' := 30) (by decide) (by decide), zbd_s, b01_eq0, Nat.zero_add]
  generalize zup τ 0 2 0 = t at *
  obtain ⟨r1, r2, r3⟩ := rRef1 h
  have ref : relI (zbd (FX6_refuse 6 1 σ) (fun _ s => some ((-1 : Int32), s))) (zbd (FX8_refuse 0 1 t) (fun r s => some (r, s))) := by
    rw [r1, r2]; exact ⟨-1, _, _, rfl, rfl, r3⟩
  by_cases y1 : x < 1
  · rw [if_pos y1, decide_eq_true y1, if_pos (by simp)]; exact ref
  rw [if_neg y1, decide_eq_false y1]
  by_cases y2 : 30 < x
  · have : ¬ x ≤ 30 := by rw [fa_le]; rw [fa_lt] at y2; omega
    rw [if_neg this, decide_eq_true y2, if_pos (by simp)]; exact ref
  have y3 : x ≤ 30 := by rw [fa_le]; rw [fa_lt] at y2; omega
  rw [if_pos y3, decide_eq_false y2, if_neg (by decide)]
  have y0 : ¬ x < 0 := fun z => y1 (by rw [fa_lt] at *; have e1 : (0 : Int32).toInt = 0 := rfl; have e2 : (1 : Int32).toInt = 1 := rfl; omega)
  obtain ⟨N, hN, rfl⟩ := nI_of y0
  have hN30 : N ≤ 30 := (nI_leI hN (by decide : 30 < 2 ^ 31)).mp y3
  obtain ⟨σ1, t1, b1, b2, b3, -, -, b9, s6, sk, m0, mk⟩ := rKeep h
  have hp1 := b3.2.1
  obtain ⟨t2, g1, g2, g3⟩ := gRdy b3 (Or.inr rfl : 35 = 24 ∨ 35 = 35)
  have hS2 := b3.2.2.1.fr g2
  rw [b1, b2, zbd_s, zbd_s, hp1.q.2, kd_q hd, zgd_t, fpr hd, zbd_s, g1, zbd_s]
  generalize mPr 35 q σ1 = d0 at g3 ⊢
  have loop : ∀ i, i ≤ N → ∃ ti, zlp (fun w : Int32 × Int32 × zS => FX7_days_L44 0 (nI N) w.1 w.2.1 w.2.2) (0, 0, dE 35 q σ1 d0) = zlp (fun w : Int32 × Int32 × zS => FX7_days_L44 0 (nI N) w.1 w.2.1 w.2.2) (dsm (ss q σ1) na n i d0, nI i, dE 35 q σ1 (dit (ss q σ1) na n i d0)) ∧ zlp (fun w : Int32 × Int32 × zS => FX8_days_L35 0 (nI N) w.1 w.2.1 w.2.2) (0, 0, t2) = zlp (fun w : Int32 × Int32 × zS => FX8_days_L35 0 (nI N) w.1 w.2.1 w.2.2) (dsm (ss q σ1) na n i d0, nI i, ti) ∧ Fr t2 ti ∧ rB ti na n nr 99 (dit (ss q σ1) na n i d0) := by
    intro i
    induction i with
    | zero => intro _; exact ⟨t2, rfl, rfl, Fr.rf, g3⟩
    | succ i ih =>
      intro hi
      obtain ⟨ti, l1, l2, l3, l4⟩ := ih (by omega)
      obtain ⟨k1, t', k2, k3, k4, -⟩ := gRun hd (hS2.fr l3) l4 (by decide)
      refine ⟨t', ?_, ?_, l3.tr k3, k4⟩
      · rw [l1]
        refine zlp_step ?_
        show FX7_days_L44 0 (nI N) _ (nI i) _ = some (.inl (dsm (ss q σ1) na n i d0 + mRu (ss q σ1) na n (dit (ss q σ1) na n i d0) 8 0, nI (i + 1), dE 35 q σ1 (mRu (ss q σ1) na n (dit (ss q σ1) na n i d0))))
        unfold FX7_days_L44
        rw [if_neg (nI_ge (by omega : i < N) hN), show (0 + 35 : Nat) = 35 from rfl, k1, zbd_s, zlet_eq, zlet_eq, nI_1]
      · rw [l2]
        refine zlp_step ?_
        show FX8_days_L35 0 (nI N) _ (nI i) _ = some (.inl (dsm (ss q σ1) na n i d0 + mRu (ss q σ1) na n (dit (ss q σ1) na n i d0) 8 0, nI (i + 1), t'))
        unfold FX8_days_L35
        rw [if_neg (nI_ge (by omega : i < N) hN), k2, zbd_s, zlet_eq, zlet_eq, nI_1]
  obtain ⟨tN, l1, l2, l3, l4⟩ := loop N (Nat.le_refl N)
  generalize dit (ss q σ1) na n N d0 = D at l1 l4
  generalize dsm (ss q σ1) na n N d0 = s at l1 l2
  -- what is left is kept
  have hs : ∀ (i : Nat) (w : Int32 × zS), i < 10 → (w.1 = nI i ∧ (∀ k, k ≠ 5 → w.2 k = tN k) ∧ ∀ a, a < i → w.2 5 a = tN 23 a) → ∃ w', FX8_days_L55 0 (nI N) s w.1 w.2 = some (.inl w') ∧ (w'.1 = nI (i + 1) ∧ (∀ k, k ≠ 5 → w'.2 k = tN k) ∧ ∀ a, a < i + 1 → w'.2 5 a = tN 23 a) := by
    intro i w hi ⟨q1, q2, q3⟩
    obtain ⟨z, u⟩ := w
    simp only at q1 q2 q3
    subst q1
    refine ⟨(nI (i + 1), zup u 5 i (tN 23 i)), ?_, rfl, fun k k1 => (zup_n k1).trans (q2 k k1), fun a ha => ?_⟩
    · show FX8_days_L55 0 (nI N) s (nI i) u = _
      unfold FX8_days_L55
      simp only [zlet_eq, zbd_s, zgd_t, zinr_s, Nat.zero_add, rn_3, rn_4, rn_5, rn_6, rn_7, rn_8, rn_9, rn_10, rn_11, rn_12, rn_13, rn_14, rn_15, rn_16, rn_17, rn_18, rn_19, rn_20, rn_21, rn_22, rn_23, rn_24, rn_25, rn_26, rn_27, rn_28, rn_29, rn_30, rn_31, rn_32, rn_33, rn_34, rn_35, rn_36, rn_37, rn_38, rn_39, rn_40, tn_0, tn_1, tn_2, tn_3, tn_4, tn_5, tn_6, tn_7, tn_8, zi_18_0, zi_18_1, zi_18_2, zi_18_3, zi_18_4, zi_18_5, zi_18_6, zi_18_7, zi_18_8, zi_7_0, zi_7_1, zi_7_2, zi_7_3, zi_7_4, zi_7_5, zi_7_6, zi_64_0, if_neg (show ¬ (10 : Int32) ≤ nI i from nI_ge (b := 10) hi (by decide)), zin_n _ (by omega : i < 20) (by decide : 20 < 2 ^ 31), zin_n _ hi (by decide : 10 < 2 ^ 31), nI_clamp (by omega : i < 2 ^ 31), q2 23 (by decide), nI_1]
    · show zup u 5 i (tN 23 i) 5 a = tN 23 a
      rw [zup_at]
      by_cases c : a = i
      · rw [if_pos ⟨rfl, c⟩, c]
      · rw [if_neg (fun z => c z.2)]; exact q3 a (by omega)
  obtain ⟨⟨z, u⟩, j1, j2, j3, j4⟩ := zlp_ex (f := fun w : Int32 × zS => FX8_days_L55 0 (nI N) s w.1 w.2) (fun i w => w.1 = nI i ∧ (∀ k, k ≠ 5 → w.2 k = tN k) ∧ ∀ a, a < i → w.2 5 a = tN 23 a) (n := 10) (a := (0, tN)) ⟨rfl, fun _ _ => rfl, fun a ha => by omega⟩ hs
  simp only at j2 j3 j4
  subst j2
  have u0 := j3 0 (by decide)
  have hm : zlp (fun w : Int32 × Int32 × zS => FX8_days_L35 0 (nI N) w.1 w.2.1 w.2.2) (0, 0, t2) = some (s, zup u 0 34 (u 0 34 + nI N)) := by
    rw [l2]
    refine zlp_end ?_
    show FX8_days_L35 0 (nI N) s (nI N) tN = _
    unfold FX8_days_L35 FX8_days_b53
    rw [if_pos (nI_le (Nat.le_refl N) hN), zlet_eq, j1]
    have : zlp (fun w : Int32 × zS => FX8_days_L55 0 (nI N) s w.1 w.2) (nI 10, u) = some (s, zup u 0 34 (u 0 34 + nI N)) := by
      refine zlp_end ?_
      show FX8_days_L55 0 (nI N) s (nI 10) u = _
      unfold FX8_days_L55 FX8_days_b79
      rw [if_pos (by decide)]
      rfl
    rw [this]
    rfl
  have e38 : dE 35 q σ1 D (35 + 3) = D 3 := dr_3
  have e8 : dE 35 q σ1 D 8 = σ1 8 := by
    have hq := hp1.1
    funext j
    unfold dE
    rw [if_neg (by omega), if_neg (by omega), if_neg (by omega), if_neg (by omega)]
  have e6 : ∀ j, dE 35 q σ1 D 6 j = σ1 6 j := by
    have hq := hp1.1
    intro j
    unfold dE
    rw [if_neg (by omega), if_neg (by omega), if_neg (by omega), if_neg (by omega)]
  have hc : zlp (fun w : Int32 × Int32 × zS => FX7_days_L44 0 (nI N) w.1 w.2.1 w.2.2) (0, 0, dE 35 q σ1 d0) = some (s, zup (zrow (dE 35 q σ1 D) 8 (va_cpy (D 3) (σ1 8) 0 0 10)) 6 5 (σ1 6 5 + nI N)) := by
    rw [l1]
    refine zlp_end ?_
    show FX7_days_L44 0 (nI N) s (nI N) (dE 35 q σ1 D) = _
    unfold FX7_days_L44 FX7_days_b65
    rw [if_pos (nI_le (Nat.le_refl N) hN), show (0 + 35 + 3 : Nat) = 38 from rfl, show (0 + 6 + 2 : Nat) = 8 from rfl, fcpy (show ln 0 38 = 10 from rfl) (show ln 0 8 = 10 from rfl) (by decide), zbd_s, zlet_eq, show (38 : Nat) = 35 + 3 from rfl, e38, e8, show (0 + 6 : Nat) = 6 from rfl, zrow_at, if_neg (by decide), e6]
    rfl
  have hc' : zlp (fun q_1 : Int32 × Int32 × zS => FX7_days_L44 0 (nI N) q_1.1 q_1.2.1 q_1.2.2) (0, 0, dE 35 q σ1 d0) = _ := hc
  rw [hc', hm]
  have hX : RQ (dE 35 q σ1 D) tN q na n nr := (b3.m (g2.m.tr l3.m)).x (Fx_dE hp1.1)
  have h09 : dE 35 q σ1 D 0 9 = 0 := by
    have hq := hp1.1
    unfold dE
    rw [if_neg (by omega), if_neg (by omega), if_neg (by omega), if_neg (by omega)]
    exact b9
  refine ⟨s, _, _, rfl, rfl, q, na, n, nr, hX.nw h09 (fun k j k1 k2 k3 => by rw [zup_at, if_neg (by omega), zrow_at, if_neg k3]) (fun k j k1 k2 k3 => by rw [zup_at, if_neg (by omega), j3 k k3]) ?_⟩
  obtain ⟨⟨z1, z2, z3, z4, z5⟩, -⟩ := hX.2.2.2.1
  have h10 := h.2.2.1.1.1.1
  have q6 : ∀ i, i ≠ 5 → zup (zrow (dE 35 q σ1 D) 8 (va_cpy (D 3) (σ1 8) 0 0 10)) 6 5 (σ1 6 5 + nI N) 6 i = dE 35 q σ1 D 6 i := fun i hi => by rw [zup_at, if_neg (by omega), zrow_at, if_neg (by decide)]
  refine ⟨fun i hi => ?_, by rw [q6 0 (by decide), q6 1 (by decide)]; exact z2, by rw [q6 2 (by decide)]; exact z3, by rw [q6 4 (by decide)]; exact z4, fun a ha => ?_⟩
  · show _ = zup u 0 34 (u 0 34 + nI N) 0 (29 + i)
    by_cases c : i = 5
    · subst c
      rw [zup_at, if_pos ⟨rfl, rfl⟩, zup_at, if_pos ⟨rfl, rfl⟩, u0]
      have := z1 5 (by decide)
      rw [e6] at this
      rw [this]
    · rw [q6 i c, zup_at, if_neg (by omega), u0]
      exact z1 i hi
  · obtain ⟨x1, x2, x3⟩ := z5 a ha
    obtain ⟨w1, w2, w3, w4⟩ := l4.2.1 a ha
    have q8 : zup (zrow (dE 35 q σ1 D) 8 (va_cpy (D 3) (σ1 8) 0 0 10)) 6 5 (σ1 6 5 + nI N) 8 a = D 3 a := by
      rw [zup_n (by decide), zrow_at, if_pos rfl, sb_cpy0 (by omega)]
    refine ⟨?_, ?_, w2, w3, by rw [q8]; exact w4⟩
    · rw [zup_n (by decide), zrow_at, if_neg (by decide), zup_n (by decide), j3 7 (by decide)]; exact x1
    · rw [q8, zup_n (by decide), j4 a (by omega), w1]
