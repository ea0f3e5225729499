/-! the reference reads a TOKEN -/
theorem gBy {t : zS} {f : Nat → Int32} {n i : Nat} (hn : n ≤ 700) (hi : i ≤ n) (h20 : t 0 20 = nI n) (ht : ∀ j, j < 700 → t 17 j = f j) : FX8_byteAt 0 (nI i) t = some (if n ≤ i then -1 else f i, t) := by
  unfold FX8_byteAt FX8_byteAt_b18
  rw [h20]
  by_cases c : n ≤ i
  · rw [if_pos (nI_le c (by omega)), if_pos c]
  · rw [if_neg (nI_ge (by omega) (by omega)), if_neg c, show (0 + 17 : Nat) = 17 from rfl, show ln 1 17 = 700 from rfl, zin_n _ (by omega : i < 700) (by decide), nI_clamp (by omega : i < 2 ^ 31), ht i (by omega)]
theorem gLet {f : Nat → Int32} {n : Nat} (hn : n ≤ 700) : ∀ k i t, i + k = n → t 0 20 = nI n → (∀ j, j < 700 → t 17 j = f j) → t 0 19 = nI i → ∃ t', zlp (fun q : zS => FX8_stepOn_L76 0 q) t = FX8_stepOn_b103 0 t' ∧ (∀ x j, ¬ (x = 0 ∧ j = 19) → t' x j = t x j) ∧ t' 0 19 = nI (scn ltr f k i) := by
  intro k
  induction k with
  | zero =>
    intro i t hi h20 ht h19
    refine ⟨t, zlp_exit ?_, fun _ _ _ => rfl, h19⟩
    unfold FX8_stepOn_L76
    rw [h19, gBy hn (by omega) h20 ht, zbd_s, if_pos (by omega), gltr, zbd_s]
    rfl
  | succ k ih =>
    intro i t hi h20 ht h19
    have st : FX8_stepOn_L76 0 t = if ltr (f i) = true then some (.inl (zup t 0 19 (nI (i + 1)))) else zinr (FX8_stepOn_b103 0 t) := by
      unfold FX8_stepOn_L76
      rw [h19, gBy hn (by omega) h20 ht, zbd_s, if_neg (by omega), gltr, zbd_s, zlet_eq, h19, nI_1]
      cases ltr (f i) <;> rfl
    rw [scn_s]
    by_cases c : ltr (f i) = true
    · rw [if_pos c] at st ⊢
      obtain ⟨t', e1, e2, e3⟩ := ih (i + 1) (zup t 0 19 (nI (i + 1))) (by omega) (by rw [zup_at, if_neg (by omega)]; exact h20) (fun j hj => by rw [zup_n (by decide)]; exact ht j hj) (by rw [zup_at, if_pos ⟨rfl, rfl⟩])
      exact ⟨t', (zlp_step (a' := zup t 0 19 (nI (i + 1))) st).trans e1, fun x j hx => by rw [e2 x j hx, zup_at, if_neg hx], e3⟩
    · rw [if_neg c] at st ⊢
      exact ⟨t, zlp_exit st, fun _ _ _ => rfl, h19⟩
theorem gDig {f : Nat → Int32} {n b : Nat} (hn : n ≤ 700) : ∀ k i t, i + k = n → b ≤ i → t 0 20 = nI n → (∀ j, j < 700 → t 17 j = f j) → t 0 19 = nI i → (i - b ≤ 4 → t 0 22 = nI (tvv f b (i - b)) ∧ tvv f b (i - b) < 10 ^ (i - b)) → ∃ t', zlp (fun q : zS => FX8_stepOn_L123 0 q) t = FX8_stepOn_b178 0 t' ∧ (∀ x j, ¬ (x = 0 ∧ (j = 19 ∨ j = 22)) → t' x j = t x j) ∧ t' 0 19 = nI (scn dg f k i) ∧ (scn dg f k i - b ≤ 4 → t' 0 22 = nI (tvv f b (scn dg f k i - b))) := by
  intro k
  induction k with
  | zero =>
    intro i t hi hb h20 ht h19 h22
    refine ⟨t, zlp_exit ?_, fun _ _ _ => rfl, h19, fun h => (h22 h).1⟩
    unfold FX8_stepOn_L123
    rw [h19, gBy hn (by omega) h20 ht, zbd_s, if_pos (by omega), gdg, zbd_s]
    rfl
  | succ k ih =>
    intro i t hi hb h20 ht h19 h22
    rw [scn_s]
    by_cases c : dg (f i) = true
    · obtain ⟨d, d1, d2, d3⟩ := dg_n c
      obtain ⟨v, st, hv⟩ : ∃ v, FX8_stepOn_L123 0 t = some (.inl (zup (zup t 0 22 v) 0 19 (nI (i + 1)))) ∧ (i + 1 - b ≤ 4 → v = nI (tvv f b (i + 1 - b)) ∧ tvv f b (i + 1 - b) < 10 ^ (i + 1 - b)) := by
        refine ⟨if ((10 * (t 0 22)) + f i) - 48 < 100000 then ((10 * (t 0 22)) + f i) - 48 else 100000, ?_, ?_⟩
        · unfold FX8_stepOn_L123
          rw [h19, gBy hn (by omega) h20 ht, zbd_s, if_neg (by omega), gdg, zbd_s, c, b01_t, if_neg (by decide), h19, gBy hn (by omega) h20 ht, zbd_s, if_neg (show ¬ n ≤ i by omega), zlet_eq, zlet_eq]
          rw [show ∀ w : Int32, zup t 0 22 w 0 19 = nI i from fun w => by rw [zup_at, if_neg (by omega)]; exact h19, nI_1]
        · intro h4
          obtain ⟨a, rfl⟩ : ∃ a, i = b + a := ⟨i - b, by omega⟩
          rw [Nat.add_sub_cancel_left] at h22
          rw [show b + a + 1 - b = a + 1 from by omega] at h4 ⊢
          obtain ⟨g1, g2⟩ := h22 (by omega)
          have e : 10 * (t 0 22) + f (b + a) - 48 = nI (tvv f b (a + 1)) := by
            rw [g1, ← tvv_s (by omega : a < 4) d3 d1 d2, show (10 : Int32) = nI 10 from rfl, pk_mul, pk_mul, Nat.mul_comm]
          have e2 : tvv f b (a + 1) < 10 ^ (a + 1) := by
            show (if a < 4 then tvv f b a * 10 + (f (b + a)).toNatClampNeg - 48 else 10000) < 10 ^ (a + 1)
            rw [if_pos (by omega), d3, nI_clamp (by omega), Nat.pow_succ]
            omega
          have e3 : (10 : Nat) ^ (a + 1) ≤ 10 ^ 4 := Nat.pow_le_pow_right (by decide) h4
          have e4 : (10 : Nat) ^ 4 = 10000 := by decide
          refine ⟨?_, e2⟩
          rw [e, show (100000 : Int32) = nI 100000 from rfl, if_pos (nI_lt (by omega) (by decide))]
      rw [if_pos c]
      obtain ⟨t', e1, e2, e3, e4⟩ := ih (i + 1) (zup (zup t 0 22 v) 0 19 (nI (i + 1))) (by omega) (by omega) (by rw [zup_at, if_neg (by omega), zup_at, if_neg (by omega)]; exact h20) (fun j hj => by rw [zup_n (by decide), zup_n (by decide)]; exact ht j hj) (by rw [zup_at, if_pos ⟨rfl, rfl⟩]) (fun h => by rw [zup_at, if_neg (by omega), zup_at, if_pos ⟨rfl, rfl⟩]; exact hv h)
      exact ⟨t', (zlp_step (a' := zup (zup t 0 22 v) 0 19 (nI (i + 1))) st).trans e1, fun x j hx => by rw [e2 x j hx, zup_at, if_neg (by omega), zup_at, if_neg (by omega)], e3, e4⟩
    · have st : FX8_stepOn_L123 0 t = zinr (FX8_stepOn_b178 0 t) := by
        unfold FX8_stepOn_L123
        rw [h19, gBy hn (by omega) h20 ht, zbd_s, if_neg (by omega), gdg, zbd_s, Bool.eq_false_iff.mpr c, b01_f, if_pos rfl]
      rw [if_neg c]
      exact ⟨t, zlp_exit st, fun _ _ _ => rfl, h19, fun h => (h22 h).1⟩
theorem gTkn {t : zS} {f : Nat → Int32} {n p : Nat} (hn : n ≤ 700) (hp : p ≤ n) (h20 : t 0 20 = nI n) (h19 : t 0 19 = nI p) (ht : ∀ j, j < 700 → t 17 j = f j) (hm : ∀ j, j < 700 → ¬ f j = -1) : ∃ t', FX8_stepOn 0 t = some (0, t') ∧ (∀ x j, ¬ (x = 0 ∧ (j = 19 ∨ (21 ≤ j ∧ j ≤ 24))) → t' x j = t x j) ∧ t' 0 19 = nI (tE f n p) ∧ t' 0 21 = nI (tJ f n p) ∧ t' 0 23 = nI (tB f n p) ∧ t' 0 24 = nI (tE f n p) ∧ (tK f n p = 2 → tE f n p - tB f n p ≤ 4 → t' 0 22 = nI (tvv f (tB f n p) (tE f n p - tB f n p))) := by
  have sk : ∀ k i t, i + k = n → t 0 20 = nI n → (∀ j, j < 700 → t 17 j = f j) → t 0 19 = nI i → ∃ t', zlp (fun q : zS => FX8_stepOn_L0 0 q) t = FX8_stepOn_b39 0 t' ∧ (∀ x j, ¬ (x = 0 ∧ j = 19) → t' x j = t x j) ∧ t' 0 19 = nI (scn bl f k i) := by
    intro k
    induction k with
    | zero =>
      intro i t hi h20 ht h19
      refine ⟨t, zlp_exit ?_, fun _ _ _ => rfl, h19⟩
      unfold FX8_stepOn_L0
      rw [h19, gBy hn (by omega) h20 ht, zbd_s, if_pos (show n ≤ i by omega), if_neg (by decide), h19, gBy hn (by omega) h20 ht, zbd_s, if_pos (show n ≤ i by omega), if_neg (by decide)]
    | succ k ih =>
      intro i t hi h20 ht h19
      have st : FX8_stepOn_L0 0 t = if bl (f i) = true then some (.inl (zup t 0 19 (nI (i + 1)))) else zinr (FX8_stepOn_b39 0 t) := by
        unfold FX8_stepOn_L0 FX8_stepOn_b26 bl
        rw [h19, gBy hn (by omega) h20 ht, zbd_s, if_neg (show ¬ n ≤ i by omega), zlet_eq, h19, nI_1, gBy hn (by omega) h20 ht, zbd_s, if_neg (show ¬ n ≤ i by omega)]
        by_cases c1 : f i = 32
        · rw [if_pos c1, decide_eq_true c1]; rfl
        by_cases c2 : f i = 10
        · rw [if_neg c1, if_pos c2, decide_eq_true c2, Bool.or_true, if_pos rfl, zlet_eq, h19, nI_1]
        · rw [if_neg c1, if_neg c2, decide_eq_false c1, decide_eq_false c2]; rfl
      rw [scn_s]
      by_cases c : bl (f i) = true
      · rw [if_pos c] at st ⊢
        obtain ⟨t', e1, e2, e3⟩ := ih (i + 1) (zup t 0 19 (nI (i + 1))) (by omega) (by rw [zup_at, if_neg (by omega)]; exact h20) (fun j hj => by rw [zup_n (by decide)]; exact ht j hj) (by rw [zup_at, if_pos ⟨rfl, rfl⟩])
        exact ⟨t', (zlp_step (a' := zup t 0 19 (nI (i + 1))) st).trans e1, fun x j hx => by rw [e2 x j hx, zup_at, if_neg hx], e3⟩
      · rw [if_neg c] at st ⊢
        exact ⟨t, zlp_exit st, fun _ _ _ => rfl, h19⟩
  obtain ⟨u, a1, a2, a3⟩ := sk (n - p) p t (by omega) h20 ht h19
  have e0 : FX8_stepOn 0 t = FX8_stepOn_b39 0 u := a1
  have hb := tB_b (f := f) hp
  have a3 : u 0 19 = nI (tB f n p) := a3
  rw [e0]
  generalize hbb : tB f n p = b at hb a3 ⊢
  have u20 : u 0 20 = nI n := by rw [a2 0 20 (by omega)]; exact h20
  have ut : ∀ j, j < 700 → u 17 j = f j := fun j hj => by rw [a2 17 j (by omega)]; exact ht j hj
  unfold FX8_stepOn_b39
  rw [zlet_eq, a3]
  generalize hw : zup u 0 23 (nI b) = w
  have w23 : w 0 23 = nI b := by rw [← hw, zup_at, if_pos ⟨rfl, rfl⟩]
  have wo : ∀ x j, ¬ (x = 0 ∧ j = 23) → w x j = u x j := fun x j hx => by rw [← hw, zup_at, if_neg hx]
  have w19 : w 0 19 = nI b := by rw [wo 0 19 (by omega)]; exact a3
  have w20 : w 0 20 = nI n := by rw [wo 0 20 (by omega)]; exact u20
  have wt : ∀ j, j < 700 → w 17 j = f j := fun j hj => by rw [wo 17 j (by omega)]; exact ut j hj
  have wf : ∀ x j, ¬ (x = 0 ∧ (j = 19 ∨ (21 ≤ j ∧ j ≤ 24))) → w x j = t x j := fun x j hx => by rw [wo x j (by omega), a2 x j (by omega)]
  rw [w19, gBy hn hb.2 w20 wt, zbd_s, zlet_eq]
  by_cases c : n ≤ b
  · have hK : tK f n p = 0 := by unfold tK; rw [hbb, if_pos c]
    have hJ : tJ f n p = 0 := by unfold tJ; rw [hK]; rfl
    have hE : tE f n p = b := by unfold tE; rw [hbb, if_pos c]
    rw [if_pos c, if_pos rfl, hJ, hE, hK]
    unfold FX8_stepOn_b212
    rw [zlet_eq, zlet_eq]
    refine ⟨_, rfl, fun x j hx => ?_, ?_, ?_, ?_, ?_, fun h => by cases h⟩
    · simp only [zup_at]; rw [if_neg (by omega), if_neg (by omega)]; exact wf x j hx
    · simp [zup_at]; exact w19
    · simp [zup_at]; rfl
    · simp [zup_at]; exact w23
    · simp [zup_at]; exact w19
  have hfb := hm b (by omega)
  rw [if_neg c, if_neg hfb, gltr, zbd_s]
  by_cases c1 : ltr (f b) = true
  · have hK : tK f n p = 1 := by unfold tK; rw [hbb, if_neg c, if_pos c1]
    have hJ : tJ f n p = 1 := by unfold tJ; rw [hK]; rfl
    have hE : tE f n p = scn ltr f (n - b) b := by unfold tE; rw [hbb, if_neg c, if_pos c1]
    rw [c1, b01_t, if_neg (by decide), hJ, hE, hK]
    obtain ⟨v, e1, e2, e3⟩ := gLet (f := f) hn (n - b) b w (by omega) w20 wt w19
    rw [e1]
    unfold FX8_stepOn_b103 FX8_stepOn_b212
    rw [zlet_eq, zlet_eq]
    refine ⟨_, rfl, fun x j hx => ?_, ?_, ?_, ?_, ?_, fun h => by cases h⟩
    · simp only [zup_at]; rw [if_neg (by omega), if_neg (by omega), e2 x j (by omega)]; exact wf x j hx
    · simp [zup_at]; exact e3
    · simp [zup_at]; rfl
    · simp [zup_at]; rw [e2 0 23 (by omega)]; exact w23
    · simp [zup_at]; exact e3
  rw [Bool.eq_false_iff.mpr c1, b01_f, if_pos rfl, gdg, zbd_s]
  by_cases c2 : dg (f b) = true
  · have hK : tK f n p = 2 := by unfold tK; rw [hbb, if_neg c, if_neg c1, if_pos c2]
    have hJ : tJ f n p = 2 := by unfold tJ; rw [hK]; rfl
    have hE : tE f n p = scn dg f (n - b) b := by unfold tE; rw [hbb, if_neg c, if_neg c1, if_pos c2]
    rw [c2, b01_t, if_neg (by decide), zlet_eq, hJ, hE, hK]
    obtain ⟨v, e1, e2, e3, e4⟩ := gDig (f := f) (b := b) hn (n - b) b (zup w 0 22 0) (by omega) (Nat.le_refl b) (by simp [zup_at]; exact w20) (fun j hj => by rw [zup_n (by decide)]; exact wt j hj) (by simp [zup_at]; exact w19) (fun _ => by rw [Nat.sub_self]; exact ⟨by simp [zup_at]; rfl, Nat.zero_lt_one⟩)
    rw [e1]
    unfold FX8_stepOn_b178 FX8_stepOn_b212
    rw [zlet_eq, zlet_eq]
    have vo : ∀ x j, ¬ (x = 0 ∧ (j = 19 ∨ j = 22)) → v x j = w x j := fun x j hx => by rw [e2 x j hx, zup_at, if_neg (by omega)]
    refine ⟨_, rfl, fun x j hx => ?_, ?_, ?_, ?_, ?_, fun _ h4 => ?_⟩
    · simp only [zup_at]; rw [if_neg (by omega), if_neg (by omega), vo x j (by omega)]; exact wf x j hx
    · simp [zup_at]; exact e3
    · simp [zup_at]; rfl
    · simp [zup_at]; rw [vo 0 23 (by omega)]; exact w23
    · simp [zup_at]; exact e3
    · simp [zup_at]; exact e4 h4
  · have hK : tK f n p = 3 := by unfold tK; rw [hbb, if_neg c, if_neg c1, if_neg c2]
    have hJ : tJ f n p = if mkd (f b) = true then 3 else 4 := by unfold tJ; rw [hK, if_pos rfl, hbb]
    have hE : tE f n p = b + 1 := by unfold tE; rw [hbb, if_neg c, if_neg c1, if_neg c2]
    rw [Bool.eq_false_iff.mpr c2, b01_f, if_pos rfl, zlet_eq, w19, nI_1, gmkd, zbd_s, hJ, hE, hK]
    unfold FX8_stepOn_b209 FX8_stepOn_b212
    have fin : ∀ y : Nat, ∃ t', (zlet (zup (zup w 0 19 (nI (b + 1))) 0 21 (nI y)) fun σ_2 => zlet (zup σ_2 0 24 (σ_2 0 19)) fun σ_1 => some ((0 : Int32), σ_1)) = some (0, t') ∧ (∀ x j, ¬ (x = 0 ∧ (j = 19 ∨ (21 ≤ j ∧ j ≤ 24))) → t' x j = t x j) ∧ t' 0 19 = nI (b + 1) ∧ t' 0 21 = nI y ∧ t' 0 23 = nI b ∧ t' 0 24 = nI (b + 1) := by
      intro y
      rw [zlet_eq, zlet_eq]
      refine ⟨_, rfl, fun x j hx => ?_, ?_, ?_, ?_, ?_⟩
      · simp only [zup_at]; rw [if_neg (by omega), if_neg (by omega), if_neg (by omega)]; exact wf x j hx
      · simp [zup_at]
      · simp [zup_at]
      · simp [zup_at]; exact w23
      · simp [zup_at]
    cases hmk : mkd (f b)
    · obtain ⟨t', g1, g2, g3, g4, g5, g6⟩ := fin 4
      exact ⟨t', g1, g2, g3, g4, g5, g6, fun h => by cases h⟩
    · obtain ⟨t', g1, g2, g3, g4, g5, g6⟩ := fin 3
      exact ⟨t', g1, g2, g3, g4, g5, g6, fun h => by cases h⟩
