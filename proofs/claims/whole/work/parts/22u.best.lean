/-! best -/
theorem mPr_0 {k0 q : Nat} {σ : zS} (j : Nat) : mPr k0 q σ 0 j = if j = 5 then 0 else if j = 4 then σ 6 3 else if j = 3 then σ 6 2 else if j = 2 then σ 6 1 else if j = 1 then σ 6 0 else exd k0 q σ 0 j := by
  unfold mPr
  rw [zrow_at, if_neg (by decide), zrow_at, if_neg (by decide), zrow_at, if_neg (by decide), zup_at, zup_at, zup_at, zup_at, zup_at]
  simp
theorem mPr_r {k0 q : Nat} {σ : zS} : ∀ a, a < 10 → mPr k0 q σ 1 a = σ (q + 2) a ∧ mPr k0 q σ 2 a = σ 7 a ∧ mPr k0 q σ 3 a = σ 8 a := by
  intro a ha
  unfold mPr
  refine ⟨?_, ?_, ?_⟩
  · rw [zrow_at, if_neg (by decide), zrow_at, if_neg (by decide), zrow_at, if_pos rfl, sb_cpy0 ha]
  · rw [zrow_at, if_neg (by decide), zrow_at, if_pos rfl, sb_cpy0 ha]
  · rw [zrow_at, if_pos rfl, sb_cpy0 ha]
/-- what a day is told, but for the detective and the mirrors -/
def TD (σ t : zS) (q na n : Nat) : Prop := t 0 48 = σ 6 2 ∧ t 0 49 = σ 6 3 ∧ (∀ a, a < na → t 22 a = σ (q + 2) a) ∧ ∀ p, p < n → bt (t 0 50) p = true
theorem ask_fm {t t' : zS} (f : ∀ k j, sc k j = false → ¬ (k = 0 ∧ 60 ≤ j ∧ j ≤ 62) → t' k j = t k j) : Fm t t' := by
  intro k j hk
  refine f k j ?_ ?_
  · revert hk
    unfold msc sc
    simp only [Bool.or_eq_false_iff, Bool.and_eq_false_iff, decide_eq_false_iff_not, beq_eq_false_iff_ne]
    omega
  · intro z
    revert hk
    unfold msc
    simp only [Bool.or_eq_false_iff, Bool.and_eq_false_iff, decide_eq_false_iff_not, beq_eq_false_iff_ne]
    omega
theorem ask1 {σ t : zS} {q na n nr : Nat} {how whom v : Int32} (h : RQ σ t q na n nr) (T : TD σ t q na n) (c46 : t 0 46 = how) (c47 : t 0 47 = whom) (cf : cfv na n nr how whom) : ∃ c σ' t', c ≤ 479520 ∧ FX7_costWatched 0 how whom σ = some (nI c, σ') ∧ FX8_ask 0 v t = some (0, t') ∧ RQ σ' t' q na n nr ∧ TD σ' t' q na n ∧ Fx σ σ' ∧ t' 0 46 = how ∧ t' 0 47 = whom ∧ t' 0 2 = t 0 2 ∧ ((t 0 62 = 0 ∨ nI c < t 0 61) → t' 0 62 = 1 ∧ t' 0 60 = v ∧ t' 0 61 = nI c) ∧ (¬ (t 0 62 = 0 ∨ nI c < t 0 61) → t' 0 62 = t 0 62 ∧ t' 0 60 = t 0 60 ∧ t' 0 61 = t 0 61) := by
  have hp := h.2.1
  have hd := hp.d (Or.inr rfl : 35 = 24 ∨ 35 = 35)
  obtain ⟨T1, T2, T3, T4⟩ := T
  have h10 := h.2.2.1.1.1.1
  have h8 := h.2.2.1.1.2.1.1
  generalize hdd : zup (zup (mPr 35 q σ) 0 1 how) 0 2 whom = d
  have d1 : d 0 1 = how := by rw [← hdd, zup_at, if_neg (by omega), zup_at, if_pos ⟨rfl, rfl⟩]
  have d2 : d 0 2 = whom := by rw [← hdd, zup_at, if_pos ⟨rfl, rfl⟩]
  have d3 : d 0 3 = σ 6 2 := by rw [← hdd, zup_at, if_neg (by omega), zup_at, if_neg (by omega), mPr_0]; rfl
  have d4 : d 0 4 = σ 6 3 := by rw [← hdd, zup_at, if_neg (by omega), zup_at, if_neg (by omega), mPr_0]; rfl
  have d5 : d 0 5 = 0 := by rw [← hdd, zup_at, if_neg (by omega), zup_at, if_neg (by omega), mPr_0]; rfl
  have dr : ∀ a, a < 10 → d 1 a = σ (q + 2) a ∧ d 2 a = σ 7 a ∧ d 3 a = σ 8 a := fun a ha => by
    rw [← hdd, zup_n (by decide), zup_n (by decide), zup_n (by decide), zup_n (by decide), zup_n (by decide), zup_n (by decide)]; exact mPr_r a ha
  have hB : ∀ t', (∀ k, k ≠ 23 → t' k = t k) → (∀ a, a < 10 → t' 23 a = t 5 a) → rB t' na n nr 99 d := by
    intro t' k1 k2
    obtain ⟨⟨w1, w2, w3, -, w5⟩, -⟩ := h.2.2.2.1
    refine ⟨⟨?_, ?_, ?_, ?_, fun a ha => ?_, fun p hp => ?_⟩, fun a ha => ?_, ?_⟩
    · rw [k1 0 (by decide), c46, d1]
    · rw [k1 0 (by decide), c47, d2]
    · rw [k1 0 (by decide), T1, d3]
    · rw [k1 0 (by decide), T2, d4]
    · obtain ⟨r1, r2, -⟩ := dr a (by omega)
      exact ⟨by rw [k1 22 (by decide), T3 a ha, r1], by rw [k1 7 (by decide), r2]; exact (w5 a ha).1.symm⟩
    · rw [k1 0 (by decide), T4 p hp, d5, b_0]; rfl
    · obtain ⟨-, -, r3⟩ := dr a (by omega)
      obtain ⟨-, v2, s, v3, v4⟩ := w5 a ha
      exact ⟨by rw [k2 a (by omega), r3]; exact v2.symm, s, v3, by rw [r3]; exact v4⟩
    · unfold cf0; rw [d1, d2]; exact cf
  have hw := hB (zrow t 23 (t 5)) (fun k hk => zrow_n hk) (fun a _ => by rw [zrow_s])
  have hSw := h.2.2.1.fr (show Fr t (zrow t 23 (t 5)) from fun k j hk => by rw [zrow_n (fun z => by subst z; cases hk)])
  obtain ⟨r1, -⟩ := gRun hd hSw hw (by decide)
  obtain ⟨e1, c, c1, c2⟩ := cs_run hSw hw (by decide) (fun a ha => by
    obtain ⟨w, w1, w2⟩ := h.2.2.1.2.2.2 a ha
    exact ⟨w, w1, by rw [(dr a (by omega)).1]; rw [ss_i (by decide) (by decide)] at w2; exact w2⟩)
  obtain ⟨t', a1, a2, a3, a4, a5, a6⟩ := gAsk (v := v) h.2.2.1 hB
  rw [c2] at a5 a6 r1
  have hm : Fm t t' := ask_fm a2
  have e6 : ∀ (e : zS) j, dE 35 q σ e 6 j = σ 6 j := fun e j => by have := hp.1; unfold dE; rw [if_neg (by omega), if_neg (by omega), if_neg (by omega), if_neg (by omega)]
  obtain ⟨b1, b2, b3, b4, b5, b6⟩ := a3
  refine ⟨c, dE 35 q σ (mRu (ss q σ) na n d), t', c1, ?_, a1, (h.m hm).x (Fx_dE hp.1), ⟨?_, ?_, fun a ha => ?_, fun p hp => ?_⟩, Fx_dE hp.1, ?_, ?_, a2 0 2 rfl (by omega), a5, a6⟩
  · unfold FX7_costWatched
    rw [hp.q.1, hp.q.2, zgd_t, zlet_eq, show (0 + 35 : Nat) = 35 from rfl, show (0 + 6 : Nat) = 6 from rfl, fpr hd, zbd_s, zlet_eq, zlet_eq, dw_1, dw_2, hdd, r1, zbd_s]
  · rw [b3, a4 3 (by decide) (by decide), d3, e6]
  · rw [b4, a4 4 (by decide) (by decide), d4, e6]
  · rw [(b5 a ha).1, e1, (dr a (by omega)).1, dE_q hd (by decide) (by decide), ss_i (by decide) (by decide)]
  · rw [b6 p hp, a4 5 (by decide) (by decide), d5, b_0]; rfl
  · rw [b1, a4 1 (by decide) (by decide), d1]
  · rw [b2, a4 2 (by decide) (by decide), d2]
/-- the best so far, on both sides -/
def bI (σ t : zS) (q na n nr : Nat) (how b5 b6 : Int32) : Prop := RQ σ t q na n nr ∧ TD σ t q na n ∧ t 0 46 = how ∧ t 0 2 = 0 ∧ ((t 0 62 = 0 ∧ b5 = -1 ∧ b6 = -1) ∨ (t 0 62 = 1 ∧ t 0 60 = b5 ∧ t 0 61 = b6 ∧ ∃ c, c ≤ 479520 ∧ b6 = nI c))
theorem bI.up {σ t : zS} {q na n nr : Nat} {how b5 b6 v : Int32} (h : bI σ t q na n nr how b5 b6) : bI σ (zup t 0 47 v) q na n nr how b5 b6 := by
  obtain ⟨h1, ⟨T1, T2, T3, T4⟩, h3, h4, h5⟩ := h
  exact ⟨h1.m (Fm.rf.up rfl), ⟨by simpa [zup_at] using T1, by simpa [zup_at] using T2, by simpa [zup_at] using T3, by simpa [zup_at] using T4⟩, by simpa [zup_at] using h3, by simpa [zup_at] using h4, by simpa [zup_at] using h5⟩
/-- asked again when nothing can be better -/
theorem bI.no {σ t : zS} {q na n nr : Nat} {how whom b5 v : Int32} (h : bI σ t q na n nr how b5 0) (c47 : t 0 47 = whom) (cf : cfv na n nr how whom) : ∃ t', FX8_ask 0 v t = some (0, t') ∧ bI σ t' q na n nr how b5 0 ∧ t' 0 47 = whom := by
  obtain ⟨h1, h2, h3, h4, h5⟩ := h
  obtain ⟨c, σ', t', c1, -, a2, a3, ⟨T1, T2, T3, T4⟩, a5, a6, a7, a8, -, a10⟩ := ask1 (v := v) h1 h2 h3 c47 cf
  have h62 : t 0 62 = 1 ∧ t 0 60 = b5 ∧ t 0 61 = 0 := by
    rcases h5 with ⟨-, -, z⟩ | ⟨z1, z2, z3, -⟩
    · exact absurd z (by decide)
    · exact ⟨z1, z2, z3⟩
  have no : ¬ (t 0 62 = 0 ∨ nI c < t 0 61) := by
    rw [h62.1, h62.2.2]
    rintro (z | z)
    · exact absurd z (by decide)
    · exact nI_pos (by omega : c < 2 ^ 31) z
  obtain ⟨z1, z2, z3⟩ := a10 no
  have f := a5
  have hq := h1.2.1.1
  refine ⟨t', a2, ⟨a3.x (fun k j hk => (f k j hk).symm), ⟨by rw [T1]; exact f 6 2 rfl, by rw [T2]; exact f 6 3 rfl, fun a ha => by rw [T3 a ha]; exact f _ _ (xsc_row (by omega) (by omega) (by omega) (by omega) (by omega) (by omega) (by omega) a), T4⟩, a6, a8.trans h4, Or.inr ⟨z1.trans h62.1, z2.trans h62.2.1, z3.trans h62.2.2, 0, by decide, rfl⟩⟩, a7⟩
/-- asked -/
theorem bI.ask {σ t : zS} {q na n nr : Nat} {how whom b5 b6 v : Int32} (h : bI σ t q na n nr how b5 b6) (c47 : t 0 47 = whom) (cf : cfv na n nr how whom) : ∃ c σ' t', c ≤ 479520 ∧ FX7_costWatched 0 how whom σ = some (nI c, σ') ∧ FX8_ask 0 v t = some (0, t') ∧ bI σ' t' q na n nr how (if b6 = -1 then v else if b6 ≤ nI c then b5 else v) (if b6 = -1 then nI c else if b6 ≤ nI c then b6 else nI c) ∧ t' 0 47 = whom := by
  obtain ⟨h1, h2, h3, h4, h5⟩ := h
  obtain ⟨c, σ', t', c1, a1, a2, a3, a4, a5, a6, a7, a8, a9, a10⟩ := ask1 (v := v) h1 h2 h3 c47 cf
  refine ⟨c, σ', t', c1, a1, a2, ⟨a3, a4, a6, a8.trans h4, ?_⟩, a7⟩
  rcases h5 with ⟨z1, z2, z3⟩ | ⟨z1, z2, z3, e, e1, e2⟩
  · obtain ⟨y1, y2, y3⟩ := a9 (Or.inl z1)
    rw [if_pos z3, if_pos z3]
    exact Or.inr ⟨y1, y2, y3, c, c1, rfl⟩
  · have nm : ¬ b6 = -1 := by rw [e2]; exact nI_m1 (by omega)
    rw [if_neg nm, if_neg nm]
    by_cases y : b6 ≤ nI c
    · have no : ¬ (t 0 62 = 0 ∨ nI c < t 0 61) := by
        rw [z1, z3]
        rintro (w | w)
        · exact absurd w (by decide)
        · rw [fa_lt] at w; rw [fa_le] at y; omega
      obtain ⟨y1, y2, y3⟩ := a10 no
      rw [if_pos y, if_pos y]
      exact Or.inr ⟨y1.trans z1, y2.trans z2, y3.trans z3, e, e1, e2⟩
    · have w : nI c < t 0 61 := by rw [z3]; exact fa_of_nle y
      obtain ⟨y1, y2, y3⟩ := a9 (Or.inr w)
      rw [if_neg y, if_neg y]
      exact Or.inr ⟨y1, y2, y3, c, c1, rfl⟩
