/-! what both readers have told so far; v: AISLES, WAYS, MIRRORS, PEOPLE, RULES, the last RULE's end -/
def tN (qt : Nat) (s t : zS) (v : Nat → Nat) (ns : Nat) : Prop := (v 0 ≤ 10 ∧ v 1 ≤ 16 ∧ v 2 ≤ 6 ∧ v 3 ≤ 8 ∧ v 4 ≤ 4) ∧ (s (qt + 1) 0 = nI (v 0) ∧ s (qt + 1) 1 = nI (v 1) ∧ s (qt + 1) 2 = nI (v 2) ∧ s (qt + 7) 0 = nI (v 3) ∧ s (qt + 14) 0 = nI (v 4) ∧ s (qt + 14) 1 = nI ns) ∧ (t 3 9 = nI (v 0) ∧ t 3 10 = nI (v 1) ∧ t 3 11 = nI (v 2) ∧ t 3 12 = nI (v 3) ∧ t 3 13 = nI (v 4) ∧ t 3 17 = nI ns)
def tG (qt : Nat) (s t : zS) : Prop := 0 < s qt 3 ∧ s qt 3 = t 3 14 ∧ (∃ w, w ≤ 999 ∧ s qt 4 = nI w) ∧ s qt 4 = t 3 15 ∧ s qt 5 = t 3 16
def tA (qt : Nat) (s t : zS) (na : Nat) : Prop := (∀ a, a < na → s (qt + 2) a = t 4 (10 + a) ∧ (∃ w, w ≤ 999 ∧ s (qt + 2) a = nI w) ∧ s (qt + 3) a = t 5 (10 + a) ∧ (∃ w, w ≤ 99 ∧ s (qt + 3) a = nI w) ∧ s (qt + 4) a = t 6 (10 + a) ∧ s (qt + 5) a = t 7 (10 + a)) ∧ ∀ a, na ≤ a → a < 10 → s (qt + 4) a = 0 ∧ s (qt + 5) a = 0
def tP1 (qt : Nat) (s t : zS) (na p c k l : Nat) : Prop := (s (qt + 8) p = t 8 (8 + p) ∧ s (qt + 9) p = t 9 (8 + p) ∧ s (qt + 10) p = t 10 (8 + p) ∧ s (qt + 11) p = t 11 (8 + p) ∧ s (qt + 12) p = t 12 (8 + p)) ∧ (s (qt + 9) p = nI c ∧ s (qt + 10) p = nI k ∧ s (qt + 12) p = nI l) ∧ (1 ≤ c ∧ c ≤ 60 ∧ 1 ≤ l ∧ l ≤ 12 ∧ k ≤ l) ∧ ∀ i, i < l → t 13 (96 + (12 * p + i)) = s (qt + 13) (12 * p + i) ∧ ∃ a, a < na ∧ s (qt + 13) (12 * p + i) = nI a
def tP (qt : Nat) (s t : zS) (na np : Nat) : Prop := ∀ p, p < np → ∃ c k l, tP1 qt s t na p c k l
def tQ1 (qt : Nat) (s t : zS) (ns r a b : Nat) : Prop := a ≤ b ∧ b ≤ ns ∧ (r = 0 → a = 0) ∧ (0 < r → s (qt + 15) (r - 1) = nI a ∧ t 14 (4 + (r - 1)) = nI a) ∧ s (qt + 15) r = nI b ∧ t 14 (4 + r) = nI b ∧ ∃ h, hw (fun i => s (qt + 16) (a + i)) (b - a) h
def tQ (qt : Nat) (s t : zS) (nr ns : Nat) : Prop := (∀ i, i < ns → sg (s (qt + 16) i) (t 15 (700 + i))) ∧ ∀ r, r < nr → ∃ a b, tQ1 qt s t ns r a b
def tL (qt : Nat) (s t : zS) (nr e : Nat) : Prop := (nr = 0 → e = 0) ∧ (0 < nr → s (qt + 15) (nr - 1) = nI e ∧ t 14 (4 + (nr - 1)) = nI e)
def tR (qt : Nat) (s t : zS) (v : Nat → Nat) (ns : Nat) : Prop := tN qt s t v ns ∧ tG qt s t ∧ tA qt s t (v 0) ∧ tP qt s t (v 0) (v 3) ∧ tQ qt s t (v 4) ns ∧ tL qt s t (v 4) (v 5)
theorem tR.c {qt : Nat} {s t s' t' : zS} {v : Nat → Nat} {ns : Nat} (h : tR qt s t v ns) (hs : ∀ k, qt ≤ k → k < qt + 18 → s' k = s k) (ht : ∀ k, 3 ≤ k → k ≤ 15 → t' k = t k) : tR qt s' t' v ns := by
  unfold tR tN tG tA tP tP1 tQ tQ1 tL at *
  rw [hs qt (by omega) (by omega), hs (qt + 1) (by omega) (by omega), hs (qt + 2) (by omega) (by omega), hs (qt + 3) (by omega) (by omega), hs (qt + 4) (by omega) (by omega), hs (qt + 5) (by omega) (by omega), hs (qt + 7) (by omega) (by omega), hs (qt + 8) (by omega) (by omega), hs (qt + 9) (by omega) (by omega), hs (qt + 10) (by omega) (by omega), hs (qt + 11) (by omega) (by omega), hs (qt + 12) (by omega) (by omega), hs (qt + 13) (by omega) (by omega), hs (qt + 14) (by omega) (by omega), hs (qt + 15) (by omega) (by omega), hs (qt + 16) (by omega) (by omega), ht 3 (by omega) (by omega), ht 4 (by omega) (by omega), ht 5 (by omega) (by omega), ht 6 (by omega) (by omega), ht 7 (by omega) (by omega), ht 8 (by omega) (by omega), ht 9 (by omega) (by omega), ht 10 (by omega) (by omega), ht 11 (by omega) (by omega), ht 12 (by omega) (by omega), ht 13 (by omega) (by omega), ht 14 (by omega) (by omega), ht 15 (by omega) (by omega)]
  exact h
/-- no FAULT yet, both at the same TOKEN -/
def sA (f : Nat → Int32) (n qt : Nat) (s0 t0 : zS) (v : Nat → Nat) (d : Int32) (p ns : Nat) (s t : zS) : Prop := cS f n qt s0 p s ∧ mS f n t0 p t ∧ s 4 8 = 0 ∧ t 0 25 = 0 ∧ s 4 7 = d ∧ tR qt s t v ns ∧ ns ≤ tB f n p
def sA0 (f : Nat → Int32) (n qt : Nat) (s0 t0 : zS) (v : Nat → Nat) (d : Int32) (p ns : Nat) (s t : zS) : Prop := cS f n qt s0 p s ∧ mS f n t0 p t ∧ s 4 8 = 0 ∧ t 0 25 = 0 ∧ s 4 7 = d ∧ tR qt s t v ns
/-- the same FAULT at the same place -/
def sB (f : Nat → Int32) (n qt : Nat) (s0 t0 : zS) (s t : zS) : Prop := (∃ p, cS f n qt s0 p s) ∧ mF t0 t ∧ ¬ s 4 8 = 0 ∧ s 4 8 = t 0 25 ∧ s 4 9 = t 0 26
section
variable {f : Nat → Int32} {n qt : Nat} {s0 t0 : zS} {v : Nat → Nat} {d : Int32} {p ns : Nat} {s t : zS}
theorem sB.b (h : sB f n qt s0 t0 s t) : ¬ t 0 25 = 0 := by rw [← h.2.2.2.1]; exact h.2.2.1
/-- the class goes on behind a FAULT -/
theorem sB.go (h : sB f n qt s0 t0 s t) {c : zS → Option (Int32 × zS)} (hc : kFl f n qt s0 c) : ∃ r s', c s = some (r, s') ∧ sB f n qt s0 t0 s' t := by
  obtain ⟨⟨p, h1⟩, h2, h3, h4, h5⟩ := h
  obtain ⟨r, s', p', e1, e2, e3, e4⟩ := hc s p h1 h3
  exact ⟨r, s', e1, ⟨p', e2⟩, h2, by rw [e3]; exact h3, e3.trans h4, e4.trans h5⟩
theorem sB.mu (h : sB f n qt s0 t0 s t) {k j : Nat} {x : Int32} (hk : mfr k j = true) (h0 : k ≠ 0) : sB f n qt s0 t0 s (zup t k j x) := by
  obtain ⟨h1, h2, h3, h4, h5⟩ := h
  exact ⟨h1, h2.up hk, h3, by rw [zup_n (fun z => h0 z.symm)]; exact h4, by rw [zup_n (fun z => h0 z.symm)]; exact h5⟩
theorem sA0.tok (he : en f n qt s0 t0) (h : sA0 f n qt s0 t0 v d p ns s t) : ∃ s' t', FX3_readToken 4 s = some (0, s') ∧ FX8_stepOn 0 t = some (0, t') ∧ sA0 f n qt s0 t0 v d (tE f n p) ns s' t' ∧ (∀ x j, ¬ (x = 4 ∧ 3 ≤ j ∧ j ≤ 6) → s' x j = s x j) ∧ ∀ x j, ¬ (x = 0 ∧ (j = 19 ∨ (21 ≤ j ∧ j ≤ 24))) → t' x j = t x j := by
  obtain ⟨h1, h2, h3, h4, h5, h6⟩ := h
  obtain ⟨s', a1, a2, a3⟩ := fTok he h1
  obtain ⟨t', b1, b2, b3⟩ := gTok he h2
  obtain ⟨-, hq, -⟩ := he
  refine ⟨s', t', a1, b1, ⟨a2, b2, ?_, ?_, ?_, h6.c (fun k k1 k2 => funext fun j => a3 k j (by omega)) (fun k k1 k2 => funext fun j => b3 k j (by omega))⟩, a3, b3⟩
  · rw [a3 4 8 (by omega)]; exact h3
  · rw [b3 0 25 (by omega)]; exact h4
  · rw [a3 4 7 (by omega)]; exact h5
theorem sA.z (h : sA f n qt s0 t0 v d p ns s t) : sA0 f n qt s0 t0 v d p ns s t := ⟨h.1, h.2.1, h.2.2.1, h.2.2.2.1, h.2.2.2.2.1, h.2.2.2.2.2.1⟩
theorem sA0.a (h : sA0 f n qt s0 t0 v d p ns s t) (hn : ns ≤ tB f n p) : sA f n qt s0 t0 v d p ns s t := ⟨h.1, h.2.1, h.2.2.1, h.2.2.2.1, h.2.2.2.2.1, h.2.2.2.2.2, hn⟩
theorem sA.tok (he : en f n qt s0 t0) (h : sA f n qt s0 t0 v d p ns s t) : ∃ s' t', FX3_readToken 4 s = some (0, s') ∧ FX8_stepOn 0 t = some (0, t') ∧ sA f n qt s0 t0 v d (tE f n p) ns s' t' ∧ (∀ x j, ¬ (x = 4 ∧ 3 ≤ j ∧ j ≤ 6) → s' x j = s x j) ∧ ∀ x j, ¬ (x = 0 ∧ (j = 19 ∨ (21 ≤ j ∧ j ≤ 24))) → t' x j = t x j := by
  obtain ⟨s', t', a1, a2, a3, a4⟩ := h.z.tok he
  have e1 := tE_b (f := f) h.1.2.2.2.1
  have e2 := tB_b (f := f) e1.2
  have h7 := h.2.2.2.2.2.2
  exact ⟨s', t', a1, a2, a3.a (by omega), a4⟩
theorem tEB (h : p ≤ n) : tB f n p ≤ tB f n (tE f n p) ∧ (tK f n p ≠ 0 → tB f n p < tB f n (tE f n p)) := by
  have e1 := tE_b (f := f) h
  have e2 := tB_b (f := f) e1.2
  refine ⟨by omega, fun k => ?_⟩
  have := tK_b h k
  omega
theorem sA.fail {k : Int32} (hk : ¬ k = 0) (h : sA f n qt s0 t0 v d p ns s t) : ∃ s' t', FX3_fail 4 k s = some (0, s') ∧ FX8_wrong 0 k t = some (0, t') ∧ sB f n qt s0 t0 s' t' := by
  obtain ⟨h1, h2, h3, h4, h5, h6, h7⟩ := h
  refine ⟨zup (zup s 4 8 k) 4 9 (zup s 4 8 k 4 4), zup (zup t 0 25 k) 0 26 (zup t 0 25 k 0 23), ?_, ?_, ⟨p, (h1.up4 (by decide)).up4 (by decide)⟩, (h2.1.up rfl).up rfl, ?_, ?_, ?_⟩
  · unfold FX3_fail FX3_fail_b20
    rw [if_pos h3, zlet_eq, zlet_eq]
  · unfold FX8_wrong
    rw [if_pos h4, zlet_eq, zlet_eq]
  · simp [zup_at]; exact hk
  · simp [zup_at]
  · simp [zup_at]; rw [h1.2.2.2.2.2.1, h2.2.2.2.2.2.1]
theorem tJ_1 : tJ f n p = 1 ↔ tK f n p = 1 := by
  unfold tJ
  split
  · split <;> omega
  · exact Iff.rfl
theorem tJ_2 : tJ f n p = 2 ↔ tK f n p = 2 := by
  unfold tJ
  split
  · split <;> omega
  · exact Iff.rfl
theorem tJ_0 : tJ f n p = 0 ↔ tK f n p = 0 := by
  unfold tJ
  split
  · split <;> omega
  · exact Iff.rfl
theorem tJ_4 : tJ f n p ≤ 4 := by
  have := tK_4 (f := f) (n := n) (p := p)
  unfold tJ
  split
  · split <;> omega
  · omega
theorem sA.k3 (h : sA f n qt s0 t0 v d p ns s t) (j : Nat) (hj : j ≤ 4) : s 4 3 = nI j ↔ tK f n p = j := by
  have := tK_4 (f := f) (n := n) (p := p)
  rw [h.1.2.2.2.2.1]
  exact nI_eq (by omega) (by omega)
theorem sA.m3 (h : sA f n qt s0 t0 v d p ns s t) (j : Nat) (hj : j ≤ 4) : t 0 21 = nI j ↔ tJ f n p = j := by
  have := tJ_4 (f := f) (n := n) (p := p)
  rw [h.2.1.2.2.2.2.1]
  exact nI_eq (by omega) (by omega)
/-- a number's digits -/
theorem tvv_le (h : p ≤ n) (hk : tK f n p = 2) : tvv f (tB f n p) (tE f n p - tB f n p) ≤ 10000 ∧ (tE f n p - tB f n p ≤ 4 → tvv f (tB f n p) (tE f n p - tB f n p) ≤ 9999) ∧ (4 < tE f n p - tB f n p → tvv f (tB f n p) (tE f n p - tB f n p) = 10000) := by
  have hb := (tK_b (f := f) h (by omega)).1
  have hd : ∀ j, j < tE f n p - tB f n p → dg (f (tB f n p + j)) = true := by
    intro j hj
    unfold tK at hk
    rw [if_neg (by omega)] at hk
    by_cases c1 : ltr (f (tB f n p)) = true
    · rw [if_pos c1] at hk; omega
    by_cases c2 : dg (f (tB f n p)) = true
    rotate_left
    · rw [if_neg c1, if_neg c2] at hk; omega
    unfold tE at hj
    rw [if_neg (by omega), if_neg c1, if_pos c2] at hj
    exact scn_i (P := dg) (f := f) (n - tB f n p) (tB f n p) (tB f n p + j) (by omega) (by omega)
  by_cases c : tE f n p - tB f n p ≤ 4
  · have h1 := tvv_b (f := f) (b := tB f n p) _ c hd
    have h2 : (10 : Nat) ^ (tE f n p - tB f n p) ≤ 10 ^ 4 := Nat.pow_le_pow_right (by decide) c
    have h3 : (10 : Nat) ^ 4 = 10000 := by decide
    exact ⟨by omega, fun _ => by omega, fun z => by omega⟩
  · have h1 := tvv_5 (f := f) (b := tB f n p) (i := tE f n p - tB f n p) (by omega)
    exact ⟨by omega, fun z => absurd z c, fun _ => h1⟩
theorem gNum0 {a b : Int32} (h0 : ¬ t 0 25 = 0) : FX8_numberNow 0 a b t = some (0, t) := by
  unfold FX8_numberNow
  rw [if_neg h0]
theorem gRn0 {a b : Int32} (h0 : ¬ t 0 25 = 0) : FX8_readNumber 0 a b t = some (0, t) := by
  unfold FX8_readNumber FX8_readNumber_b18
  rw [gNum0 h0, zbd_s, zlet_eq, if_neg h0]
theorem gPs0 {a : Int32} (h0 : ¬ t 0 25 = 0) : FX8_putSign 0 a t = some (0, t) := by
  unfold FX8_putSign
  rw [if_neg h0]
theorem gWr0 {a : Int32} (h0 : ¬ t 0 25 = 0) : FX8_wrong 0 a t = some (0, t) := by
  unfold FX8_wrong
  rw [if_neg h0]
theorem gMk0 {a : Int32} (h0 : ¬ t 0 25 = 0) : FX8_mark 0 a t = some (0, t) := by
  unfold FX8_mark FX8_mark_b20 FX8_mark_b31
  rw [if_neg h0, if_neg h0]
theorem gAn0 (h0 : ¬ t 0 25 = 0) : FX8_aisleNow 0 t = some (0, t) := by
  unfold FX8_aisleNow FX8_aisleNow_b32 FX8_aisleNow_b44
  rw [gNum0 h0, zbd_s, zlet_eq, if_neg h0, if_neg h0]
/-- the reference looks at a NUMBER -/
theorem sA.numM (he : en f n qt s0 t0) (h : sA f n qt s0 t0 v d p ns s t) {lo hi : Nat} (hl : lo ≤ 9999) (hh : hi ≤ 9999) : (tK f n p = 2 ∧ lo ≤ tvv f (tB f n p) (tE f n p - tB f n p) ∧ tvv f (tB f n p) (tE f n p - tB f n p) ≤ hi ∧ FX8_numberNow 0 (nI lo) (nI hi) t = some (nI (tvv f (tB f n p) (tE f n p - tB f n p)), t)) ∨ (tK f n p = 2 ∧ (tvv f (tB f n p) (tE f n p - tB f n p) < lo ∨ hi < tvv f (tB f n p) (tE f n p - tB f n p)) ∧ ∃ t', FX8_wrong 0 2 t = some (0, t') ∧ FX8_numberNow 0 (nI lo) (nI hi) t = some (0, t')) ∨ (tK f n p ≠ 2 ∧ ∃ t', FX8_wrong 0 1 t = some (0, t') ∧ FX8_numberNow 0 (nI lo) (nI hi) t = some (0, t')) := by
  obtain ⟨h1, h2, h3, h4, h5, h6, h7⟩ := id h
  have hp := h1.2.2.2.1
  have hE := tE_b (f := f) hp
  have w0 : ∀ k : Int32, ¬ k = 0 → ∃ t', FX8_wrong 0 k t = some (0, t') ∧ ¬ t' 0 25 = 0 := by
    intro k hk
    obtain ⟨s', t', -, b, c⟩ := h.fail hk
    exact ⟨t', b, c.b⟩
  unfold FX8_numberNow
  rw [if_pos h4]
  by_cases e : tK f n p = 2
  · rw [if_pos (show t 0 21 = 2 from (h.m3 2 (by decide)).mpr (tJ_2.mpr e)), h2.2.2.2.2.2.1, h2.2.2.2.2.2.2.1, pk_sub hE.1]
    obtain ⟨v1, v2, v3⟩ := tvv_le hp e
    have bad : (∃ t', FX8_wrong 0 2 t = some (0, t') ∧ FX8_numberNow_b54 0 t = some (0, t')) := by
      obtain ⟨t', b1, b2⟩ := w0 2 (by decide)
      refine ⟨t', b1, ?_⟩
      unfold FX8_numberNow_b54 FX8_numberNow_b59 FX8_numberNow_b74
      rw [b1, zbd_s, if_neg b2]
    by_cases c4 : tE f n p - tB f n p ≤ 4
    · rw [if_neg (show ¬ (4 : Int32) < nI (tE f n p - tB f n p) from nI_nlt (a := 4) c4 (by decide)), h2.2.2.2.2.2.2.2 e c4]
      have h22 := h2.2.2.2.2.2.2.2 e c4
      generalize tvv f (tB f n p) (tE f n p - tB f n p) = x at *
      by_cases c5 : x < lo
      · rw [if_pos (nI_lt c5 (by omega))]
        exact Or.inr (Or.inl ⟨e, Or.inl c5, bad⟩)
      rw [if_neg (nI_nlt (by omega) (by omega))]
      by_cases c6 : x ≤ hi
      · rw [if_pos (nI_le c6 (by omega))]
        refine Or.inl ⟨e, by omega, c6, ?_⟩
        unfold FX8_numberNow_b59 FX8_numberNow_b74
        rw [if_pos h4, h22]
      · rw [if_neg (nI_ge (by omega) (by omega))]
        exact Or.inr (Or.inl ⟨e, Or.inr (by omega), bad⟩)
    · rw [if_pos (show (4 : Int32) < nI (tE f n p - tB f n p) from nI_lt (a := 4) (by omega) (by have := he.1; omega))]
      exact Or.inr (Or.inl ⟨e, Or.inr (by have := v3 (by omega); omega), bad⟩)
  · rw [if_neg (show ¬ t 0 21 = 2 from fun z => e (tJ_2.mp ((h.m3 2 (by decide)).mp z)))]
    obtain ⟨t', b1, b2⟩ := w0 1 (by decide)
    refine Or.inr (Or.inr ⟨e, t', b1, ?_⟩)
    unfold FX8_numberNow_b59 FX8_numberNow_b74
    rw [b1, zbd_s, if_neg b2]
end
