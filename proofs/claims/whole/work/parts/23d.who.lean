theorem hi256 : ∀ v, v < 256 → ∀ i, i < 32 → 8 ≤ i → bt (nI v) i = false := by decide +kernel
theorem eq256 {v w : Nat} (hv : v < 256) (hw : w < 256) (h : ∀ p, p < 8 → (bt (nI v) p = true ↔ bt (nI w) p = true)) : nI v = nI w := by
  refine b_ext (fun i hi => ?_)
  by_cases c : i < 8
  · exact Bool.eq_iff_iff.mpr (h i c)
  · rw [hi256 v hv i hi (by omega), hi256 w hw i hi (by omega)]
/-- the reference: who can have done it -/
theorem gTC {σ t : zS} {q na n nr : Nat} (h : RQ σ t q na n nr) : ∃ N t', N ≤ 8 ∧ σ 6 13 = nI N ∧ t 0 37 = nI N ∧ FX8_tellCanHave 0 t = some (0, t') ∧ (∀ k, k ≠ 33 → t' k = t k) ∧ ∀ i, i < N → ∃ v, v < 256 ∧ t' 33 i = nI v ∧ FX7_canHave 0 (nI i) σ = some (nI v, σ) := by
  obtain ⟨-, -, -, ⟨N, N8, n1, n2, n3⟩, -⟩ := id h.2.2.2.1
  have h8 := h.2.2.1.1.2.1.1
  have e3 : t 3 3 = nI n := h.2.2.1.1.2.1.2.2
  have hP := h.2.2.1.1.2.2.2.2.2.1
  simp only [Nat.reduceAdd] at n3
  -- one thing that is missed
  have one : ∀ i, i < N → ∀ u : zS, (∀ k, k ≠ 33 → u k = t k) → ∃ u' v, FX8_tellCanHave_L2 0 (nI i) u = some (.inl (nI (i + 1), u')) ∧ (∀ k, k ≠ 33 → u' k = t k) ∧ (∀ j, j ≠ i → u' 33 j = u 33 j) ∧ v < 256 ∧ u' 33 i = nI v ∧ FX7_canHave 0 (nI i) σ = some (nI v, σ) := by
    intro i hi u hu
    obtain ⟨m1, m2, ⟨a, ha, ea⟩, mm, mm1, mm60, emm⟩ := n3 i hi
    have hi8 : i < 8 := by omega
    have h10 := h.2.2.1.1.1.1
    have nA : ¬ nI a = -1 := nI_m1 (by omega)
    obtain ⟨v0, v1, v2, v3⟩ := fcH (A := nI a) (mm := mm) h hi8 (by rw [m1]; exact ea) (by rw [m2]; exact emm) mm60
    have hs : ∀ (p : Nat) (z : Int32 × zS), p < n → (z.1 = nI p ∧ (∀ k, k ≠ 33 → z.2 k = t k) ∧ (∀ j, j ≠ i → z.2 33 j = u 33 j) ∧ ∃ w, w < 256 ∧ z.2 33 i = nI w ∧ ∀ j, j < 8 → (bt (nI w) j = true ↔ j < p ∧ wat (ss q σ) j (nI a) mm)) → ∃ z', FX8_tellCanHave_L19 0 (nI i) z.1 z.2 = some (.inl z') ∧ (z'.1 = nI (p + 1) ∧ (∀ k, k ≠ 33 → z'.2 k = t k) ∧ (∀ j, j ≠ i → z'.2 33 j = u 33 j) ∧ ∃ w, w < 256 ∧ z'.2 33 i = nI w ∧ ∀ j, j < 8 → (bt (nI w) j = true ↔ j < p + 1 ∧ wat (ss q σ) j (nI a) mm)) := by
      intro p z hp ⟨q1, q2, q3, w, w1, w2, w3⟩
      obtain ⟨y, s⟩ := z
      simp only at q1 q2 q3 w2
      subst q1
      obtain ⟨c, tt, l, hr⟩ := hP p hp
      have hr' := hr
      obtain ⟨-, r9, -, -, r12, s9, -, s12, c1, c60, l1, l12, -, hst⟩ := hr'
      have t9 : t 9 p = nI c := by rw [r9, s9]
      have t12 : t 12 p = nI l := by rw [r12, s12]
      obtain ⟨u', w', y1, y2, y3, y4, y5, y6⟩ := gTC1 (t0 := t) (i := i) (p := p) (c := c) (l := l) (m := mm) (v := w) (A := nI a) hi8 (by omega) ea w1 l12 mm60 (nst_c c60 mm60 l1 l12) s q2 w2
      refine ⟨(nI (p + 1), u'), ?_, rfl, y2, fun j hj => (y3 j hj).trans (q3 j hj), w', y4, y5, fun j hj => ?_⟩
      · show FX8_tellCanHave_L19 0 (nI i) (nI p) s = _
        unfold FX8_tellCanHave_L19
        rw [show (0 + 3 : Nat) = 3 from rfl, show (0 + 12 : Nat) = 12 from rfl, show (0 + 32 : Nat) = 32 from rfl, show (3 : Int32).toNatClampNeg = 3 from rfl, q2 3 (by decide), e3, show ln 1 3 = 18 from rfl, show zin 18 3 _ = _ from zin_n (p := 3) _ (by decide : 3 < 18) (by decide), if_neg (nI_ge hp (by omega)), show ln 1 12 = 16 from rfl, show ln 1 32 = 8 from rfl, zin_n _ (by omega : p < 16) (by decide), zin_n _ hi8 (by decide), nI_clamp (by omega : i < 2 ^ 31), gSc (by omega), zbd_s, zlet_eq, zlet_eq, nI_clamp (by omega : p < 2 ^ 31), q2 32 (by decide), q2 9 (by decide), q2 12 (by decide), t9, t12, emm]
        exact y1
      · rw [y6 j hj, w3 j hj]
        have key : stp t p c l mm (nI a) ↔ wat (ss q σ) p (nI a) mm := by
          rw [wat_s (by omega) mm60 hr nA]
          constructor
          · rintro ⟨s', s1, s2, s3⟩; exact ⟨s', s1, s2, by rw [← (hst s' s1).1]; exact s3⟩
          · rintro ⟨s', s1, s2, s3⟩; exact ⟨s', s1, s2, by rw [(hst s' s1).1]; exact s3⟩
        rw [key]
        constructor
        · rintro (⟨z1, z2⟩ | ⟨z1, z2⟩)
          · exact ⟨by omega, z2⟩
          · exact ⟨by omega, by rw [z1]; exact z2⟩
        · rintro ⟨z1, z2⟩
          by_cases e : j = p
          · exact Or.inr ⟨e, by rw [← e]; exact z2⟩
          · exact Or.inl ⟨by omega, z2⟩
    obtain ⟨⟨y, s⟩, g1, g2, g3, g4, w, w1, w2, w3⟩ := zlp_ex (f := fun z : Int32 × zS => FX8_tellCanHave_L19 0 (nI i) z.1 z.2) (fun p z => z.1 = nI p ∧ (∀ k, k ≠ 33 → z.2 k = t k) ∧ (∀ j, j ≠ i → z.2 33 j = u 33 j) ∧ ∃ w, w < 256 ∧ z.2 33 i = nI w ∧ ∀ j, j < 8 → (bt (nI w) j = true ↔ j < p ∧ wat (ss q σ) j (nI a) mm)) (n := n) (a := (0, zup u 33 i 0)) ⟨rfl, fun k hk => (zup_n hk).trans (hu k hk), fun j hj => by show zup u 33 i 0 33 j = u 33 j; rw [zup_at, if_neg (by omega)], 0, by decide, by show zup u 33 i 0 33 i = nI 0; rw [zup_at, if_pos ⟨rfl, rfl⟩]; rfl, fun j hj => ⟨fun z => absurd z (by rw [(by decide +kernel : ∀ p, p < 8 → bt (nI 0) p = false) j hj]; decide), fun z => by omega⟩⟩ hs
    simp only at g2 g3 g4 w2
    subst g2
    have ev : nI v0 = nI w := eq256 v1 w1 (fun p hp => by rw [v3 p hp, w3 p hp])
    refine ⟨s, w, ?_, g3, g4, w1, w2, by rw [v2, ev]⟩
    unfold FX8_tellCanHave_L2
    rw [hu 0 (by decide), n2, if_neg (nI_ge hi (by omega)), show (0 + 33 : Nat) = 33 from rfl, show ln 1 33 = 8 from rfl, zin_n _ hi8 (by decide), nI_clamp (by omega : i < 2 ^ 31), zlet_eq, zlet_eq, g1]
    refine zlp_end ?_
    show FX8_tellCanHave_L19 0 (nI i) (nI n) s = _
    unfold FX8_tellCanHave_L19 FX8_tellCanHave_b104
    rw [show (0 + 3 : Nat) = 3 from rfl, show (3 : Int32).toNatClampNeg = 3 from rfl, g3 3 (by decide), e3, show ln 1 3 = 18 from rfl, show zin 18 3 _ = _ from zin_n (p := 3) _ (by decide : 3 < 18) (by decide), if_pos (nI_le (Nat.le_refl n) (by omega)), zlet_eq, nI_1]
    rfl
  have hs : ∀ (i : Nat) (z : Int32 × zS), i < N → (z.1 = nI i ∧ (∀ k, k ≠ 33 → z.2 k = t k) ∧ ∀ j, j < i → ∃ v, v < 256 ∧ z.2 33 j = nI v ∧ FX7_canHave 0 (nI j) σ = some (nI v, σ)) → ∃ z', FX8_tellCanHave_L2 0 z.1 z.2 = some (.inl z') ∧ (z'.1 = nI (i + 1) ∧ (∀ k, k ≠ 33 → z'.2 k = t k) ∧ ∀ j, j < i + 1 → ∃ v, v < 256 ∧ z'.2 33 j = nI v ∧ FX7_canHave 0 (nI j) σ = some (nI v, σ)) := by
    intro i z hi ⟨q1, q2, q3⟩
    obtain ⟨y, s⟩ := z
    simp only at q1 q2 q3
    subst q1
    obtain ⟨u', v, y1, y2, y3, y4, y5, y6⟩ := one i hi s q2
    refine ⟨(nI (i + 1), u'), y1, rfl, y2, fun j hj => ?_⟩
    by_cases e : j = i
    · subst e; exact ⟨v, y4, y5, y6⟩
    · obtain ⟨v', z1, z2, z3⟩ := q3 j (by omega)
      exact ⟨v', z1, by show u' 33 j = nI v'; rw [y3 j e]; exact z2, z3⟩
  obtain ⟨⟨y, s⟩, g1, g2, g3, g4⟩ := zlp_ex (f := fun z : Int32 × zS => FX8_tellCanHave_L2 0 z.1 z.2) (fun i z => z.1 = nI i ∧ (∀ k, k ≠ 33 → z.2 k = t k) ∧ ∀ j, j < i → ∃ v, v < 256 ∧ z.2 33 j = nI v ∧ FX7_canHave 0 (nI j) σ = some (nI v, σ)) (n := N) (a := (0, t)) ⟨rfl, fun _ _ => rfl, fun j hj => by omega⟩ hs
  simp only at g2 g3 g4
  subst g2
  refine ⟨N, s, N8, n1, n2, ?_, g3, g4⟩
  unfold FX8_tellCanHave
  rw [zlet_eq, g1]
  refine zlp_end ?_
  show FX8_tellCanHave_L2 0 (nI N) s = _
  unfold FX8_tellCanHave_L2 FX8_tellCanHave_b110
  rw [g3 0 (by decide), n2, if_pos (nI_le (Nat.le_refl N) (by omega))]
  rfl
