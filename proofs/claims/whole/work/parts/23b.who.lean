theorem or_v {v p : Nat} (hv : v < 256) (hp : p < 8) : ∃ w, w < 256 ∧ nI v ||| sb p = nI w := by
  cases hb : bt (nI v) p
  · obtain ⟨w1, w2, -⟩ := cnt_add v hv p hp hb
    exact ⟨_, w1, w2⟩
  · refine ⟨v, hv, b_ext (fun i hi => ?_)⟩
    rw [bt_or (by omega) hi]
    by_cases c : i = p
    · subst c; rw [hb]; rfl
    · rw [decide_eq_false c, Bool.or_false]
theorem wat_1 {S : zS} {p k : Nat} {A : Int32} : wat S p A (k + 1) ↔ wat S p A k ∨ mPl S (nI p) (nI (k + 1)) = A := by
  constructor
  · rintro ⟨j, j1, j2, j3⟩
    by_cases c : j = k + 1
    · subst c; exact Or.inr j3
    · exact Or.inl ⟨j, j1, by omega, j3⟩
  · rintro (⟨j, j1, j2, j3⟩ | h)
    · exact ⟨j, j1, by omega, j3⟩
    · exact ⟨k + 1, by omega, Nat.le_refl _, h⟩
/-- the class: who can have done it -/
theorem fcH {σ t : zS} {q na n nr i mm : Nat} {A : Int32} (h : RQ σ t q na n nr) (hi : i < 8) (hA : σ 12 i = A) (hm : σ 13 i = nI mm) (hm60 : mm ≤ 60) : ∃ v, v < 256 ∧ FX7_canHave 0 (nI i) σ = some (nI v, σ) ∧ ∀ p, p < 8 → (bt (nI v) p = true ↔ p < n ∧ wat (ss q σ) p A mm) := by
  have h8 := h.2.2.1.1.2.1.1
  obtain ⟨-, c2, -⟩ := h.2.2.1.c
  have kq := h.2.1.q
  have hq := h.2.1.1
  have inner : ∀ p, p < n → ∀ v, v < 256 → ∃ w, w < 256 ∧ zlp (fun u : Int32 × Int32 × zS => FX7_canHave_L48 0 A (nI mm) (nI p) u.1 u.2.1 u.2.2) (nI v, 1, σ) = some (.inl (nI w, nI (p + 1), σ)) ∧ ∀ j, j < 8 → (bt (nI w) j = true ↔ bt (nI v) j = true ∨ (j = p ∧ wat (ss q σ) p A mm)) := by
    intro p hp v hv
    have hs : ∀ (k : Nat) (u : Int32 × Int32 × zS), k < mm → (u.2.1 = nI (k + 1) ∧ u.2.2 = σ ∧ ∃ w, w < 256 ∧ u.1 = nI w ∧ ∀ j, j < 8 → (bt (nI w) j = true ↔ bt (nI v) j = true ∨ (j = p ∧ wat (ss q σ) p A k))) → ∃ u', FX7_canHave_L48 0 A (nI mm) (nI p) u.1 u.2.1 u.2.2 = some (.inl u') ∧ (u'.2.1 = nI (k + 1 + 1) ∧ u'.2.2 = σ ∧ ∃ w, w < 256 ∧ u'.1 = nI w ∧ ∀ j, j < 8 → (bt (nI w) j = true ↔ bt (nI v) j = true ∨ (j = p ∧ wat (ss q σ) p A (k + 1)))) := by
      intro k u hk ⟨q1, q2, w, w1, w2, w3⟩
      obtain ⟨x, y, s⟩ := u
      simp only at q1 q2 w2
      subst q1 q2 w2
      have st : FX7_canHave_L48 0 A (nI mm) (nI p) (nI w) (nI (k + 1)) s = some (.inl (if mPl (ss q s) (nI p) (nI (k + 1)) = A then nI w ||| sb p else nI w, nI (k + 1 + 1), s)) := by
        unfold FX7_canHave_L48 FX7_canHave_b82
        rw [if_neg (show ¬ nI mm < nI (k + 1) from nI_nlt (by omega) (by omega)), kq.1, kq.2, zgd_t, zlet_eq, fpl_r hq, zbd_s, nI_1]
        by_cases c : mPl (ss q s) (nI p) (nI (k + 1)) = A
        · rw [if_pos c, if_pos c, fbit, zbd_s, zlet_eq, zlet_eq]
        · rw [if_neg c, if_neg c, zlet_eq]
      refine ⟨_, st, rfl, rfl, ?_⟩
      by_cases c : mPl (ss q s) (nI p) (nI (k + 1)) = A
      · obtain ⟨w', y1, y2⟩ := or_v w1 (by omega : p < 8)
        refine ⟨w', y1, by rw [if_pos c]; exact y2, fun j hj => ?_⟩
        rw [← y2, bt_or (by omega) (by omega), wat_1, Bool.or_eq_true, w3 j hj, decide_eq_true_iff]
        constructor
        · rintro ((z | ⟨z1, z2⟩) | z)
          · exact Or.inl z
          · exact Or.inr ⟨z1, Or.inl z2⟩
          · exact Or.inr ⟨z, Or.inr c⟩
        · rintro (z | ⟨z1, z2⟩)
          · exact Or.inl (Or.inl z)
          · exact Or.inr z1
      · refine ⟨w, w1, by rw [if_neg c], fun j hj => ?_⟩
        rw [wat_1, w3 j hj]
        constructor
        · rintro (z | ⟨z1, z2⟩)
          · exact Or.inl z
          · exact Or.inr ⟨z1, Or.inl z2⟩
        · rintro (z | ⟨z1, z2 | z2⟩)
          · exact Or.inl z
          · exact Or.inr ⟨z1, z2⟩
          · exact absurd z2 c
    obtain ⟨⟨x, y, s⟩, g1, g2, g3, w, w1, w2, w3⟩ := zlp_ex (f := fun u : Int32 × Int32 × zS => FX7_canHave_L48 0 A (nI mm) (nI p) u.1 u.2.1 u.2.2) (fun k u => u.2.1 = nI (k + 1) ∧ u.2.2 = σ ∧ ∃ w, w < 256 ∧ u.1 = nI w ∧ ∀ j, j < 8 → (bt (nI w) j = true ↔ bt (nI v) j = true ∨ (j = p ∧ wat (ss q σ) p A k))) (n := mm) (a := (nI v, 1, σ)) ⟨rfl, rfl, v, hv, rfl, fun j hj => ⟨Or.inl, fun z => z.elim id (fun ⟨_, k, k1, k2, _⟩ => by omega)⟩⟩ hs
    simp only at g2 g3 w2
    subst g2 g3 w2
    refine ⟨w, w1, ?_, w3⟩
    rw [g1]
    refine zlp_end ?_
    show FX7_canHave_L48 0 A (nI mm) (nI p) (nI w) (nI (mm + 1)) s = _
    unfold FX7_canHave_L48 FX7_canHave_b88
    rw [if_pos (show nI mm < nI (mm + 1) from (nI_ltI (by omega) (by omega)).mpr (by omega)), zlet_eq, nI_1]
    rfl
  have hs : ∀ (p : Nat) (u : Int32 × Int32 × zS), p < n → (u.2.1 = nI p ∧ u.2.2 = σ ∧ ∃ w, w < 256 ∧ u.1 = nI w ∧ ∀ j, j < 8 → (bt (nI w) j = true ↔ j < p ∧ wat (ss q σ) j A mm)) → ∃ u', FX7_canHave_L30 0 A (nI mm) u.1 u.2.1 u.2.2 = some (.inl u') ∧ (u'.2.1 = nI (p + 1) ∧ u'.2.2 = σ ∧ ∃ w, w < 256 ∧ u'.1 = nI w ∧ ∀ j, j < 8 → (bt (nI w) j = true ↔ j < p + 1 ∧ wat (ss q σ) j A mm)) := by
    intro p u hp ⟨q1, q2, w, w1, w2, w3⟩
    obtain ⟨x, y, s⟩ := u
    simp only at q1 q2 w2
    subst q1 q2 w2
    obtain ⟨w', y1, y2, y3⟩ := inner p hp w w1
    refine ⟨(nI w', nI (p + 1), s), ?_, rfl, rfl, w', y1, rfl, fun j hj => ?_⟩
    · show FX7_canHave_L30 0 A (nI mm) (nI w) (nI p) s = _
      unfold FX7_canHave_L30
      rw [kq.1, kq.2, zgd_t, zlet_eq, c2, if_neg (nI_ge hp (by omega)), zlet_eq]
      exact y2
    · rw [y3 j hj, w3 j hj]
      constructor
      · rintro (⟨z1, z2⟩ | ⟨z1, z2⟩)
        · exact ⟨by omega, z2⟩
        · exact ⟨by omega, by rw [z1]; exact z2⟩
      · rintro ⟨z1, z2⟩
        by_cases c : j = p
        · exact Or.inr ⟨c, by rw [← c]; exact z2⟩
        · exact Or.inl ⟨by omega, z2⟩
  obtain ⟨⟨x, y, s⟩, g1, g2, g3, w, w1, w2, w3⟩ := zlp_ex (f := fun u : Int32 × Int32 × zS => FX7_canHave_L30 0 A (nI mm) u.1 u.2.1 u.2.2) (fun p u => u.2.1 = nI p ∧ u.2.2 = σ ∧ ∃ w, w < 256 ∧ u.1 = nI w ∧ ∀ j, j < 8 → (bt (nI w) j = true ↔ j < p ∧ wat (ss q σ) j A mm)) (n := n) (a := (0, 0, σ)) ⟨rfl, rfl, 0, by decide, rfl, fun j hj => ⟨fun z => absurd z (by rw [(by decide +kernel : ∀ p, p < 8 → bt (nI 0) p = false) j hj]; decide), fun z => by omega⟩⟩ hs
  simp only at g2 g3 w2
  subst g2 g3 w2
  refine ⟨w, w1, ?_, w3⟩
  unfold FX7_canHave
  rw [show (0 + 6 + 6 : Nat) = 12 from rfl, show (0 + 6 + 7 : Nat) = 13 from rfl, fat', show ln 0 12 = 8 from rfl, rd_n hi (by decide), zbd_s, zlet_eq, fat', show ln 0 13 = 8 from rfl, rd_n hi (by decide), zbd_s, zlet_eq, zlet_eq, zlet_eq, hA, hm]
  refine g1.trans (zlp_end ?_)
  show FX7_canHave_L30 0 A (nI mm) (nI w) (nI n) s = _
  unfold FX7_canHave_L30 FX7_canHave_b94
  rw [kq.1, kq.2, zgd_t, zlet_eq, c2, if_pos (nI_le (Nat.le_refl n) (by omega))]
  rfl
