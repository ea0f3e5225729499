theorem exq_c {f g : Nat → Int32} {N : Nat} {x : Int32} (h : ∀ i, i < N → f i = g i) : exq f N x = exq g N x := by
  have : ∀ b, exq f N x = b ↔ exq g N x = b := by
    intro b
    cases hg : exq g N x
    · have : exq f N x = false := by
        unfold exq at hg ⊢
        rw [List.all_eq_false] at hg ⊢
        obtain ⟨i, h1, h2⟩ := hg
        exact ⟨i, h1, by rw [h i (List.mem_range.mp h1)]; exact h2⟩
      rw [this]
    · have : exq f N x = true := by
        unfold exq at hg ⊢
        rw [List.all_eq_true] at hg ⊢
        exact fun i h1 => by rw [h i (List.mem_range.mp h1)]; exact hg i h1
      rw [this]
  exact (this _).mpr rfl
theorem sb_2 : ∀ n, n ≤ 8 → sb n = nI (2 ^ n) ∧ 2 ^ n ≤ 256 := by decide +kernel
/-- the fewest, on both sides -/
theorem fwl {σ t : zS} {q na n nr N : Nat} (h : RQ σ t q na n nr) (hN : N ≤ 8) (n1 : σ 6 13 = nI N) (n2 : t 0 37 = nI N) (he : ∀ i, i < N → σ 3 i = t 33 i) : ∀ k v x1 x2, v + k = 2 ^ n → ((x1 = -1 ∧ x2 = 9) ∨ ∃ w, w < 256 ∧ x1 = nI w ∧ x2 = nI (cnt w)) → ∃ r, zlp (fun z : Int32 × Int32 × Int32 × zS => FX7_fewest_L39 0 z.1 z.2.1 z.2.2.1 z.2.2.2) (x1, x2, nI v, σ) = some (r, σ) ∧ zlp (fun z : Int32 × Int32 × zS => FX8_who_L49 0 z.1 z.2.1 z.2.2) (x1, nI v, t) = some (r, t) := by
  have h8 := h.2.2.1.1.2.1.1
  have e3 : t 3 3 = nI n := h.2.2.1.1.2.1.2.2
  obtain ⟨-, c2, -⟩ := h.2.2.1.c
  have kq := h.2.1.q
  obtain ⟨p1, p2⟩ := sb_2 n h8
  have p1' : (1 : Int32) <<< (nI n &&& 31) = nI (2 ^ n) := p1
  intro k
  induction k with
  | zero =>
    intro v x1 x2 hv hx
    refine ⟨x1, zlp_end ?_, zlp_end ?_⟩
    · show FX7_fewest_L39 0 x1 x2 (nI v) σ = _
      unfold FX7_fewest_L39 FX7_fewest_b85
      rw [kq.1, kq.2, zgd_t, zlet_eq, c2, fbit, zbd_s, p1, if_pos (nI_le (by omega) (by omega))]
      rfl
    · show FX8_who_L49 0 x1 (nI v) t = _
      unfold FX8_who_L49 FX8_who_b139
      rw [show (0 + 3 : Nat) = 3 from rfl, show (3 : Int32).toNatClampNeg = 3 from rfl, show ln 1 3 = 18 from rfl, show zin 18 3 _ = _ from zin_n (p := 3) _ (by decide : 3 < 18) (by decide), e3, p1', if_pos (nI_le (by omega) (by omega))]
      rfl
  | succ k ih =>
    intro v x1 x2 hv hx
    have v8 : v < 256 := by omega
    have c8 : cnt v ≤ 8 := fb_ct_le _ 8
    have up := nI_1 v
    have sc : FX7_fewest_L39 0 x1 x2 (nI v) σ = if (!decide (x2 ≤ nI (cnt v)) && exq (t 33) N (nI v)) = true then some (.inl (nI v, nI (cnt v), nI (v + 1), σ)) else some (.inl (x1, x2, nI (v + 1), σ)) := by
      unfold FX7_fewest_L39 FX7_fewest_b79
      rw [kq.1, kq.2, zgd_t, zlet_eq, c2, fbit, zbd_s, p1, if_neg (nI_ge (by omega) (by omega)), fbc v8, zbd_s]
      by_cases c : x2 ≤ nI (cnt v)
      · rw [if_pos c, decide_eq_true c, zlet_eq, nI_1]; rfl
      · rw [if_neg c, decide_eq_false c, fex hN n1, zbd_s, exq_c (x := nI v) he]
        cases exq (t 33) N (nI v)
        · rw [if_pos (show b01 false = 0 from rfl), zlet_eq, nI_1]; rfl
        · rw [if_neg (show ¬ b01 true = 0 from by decide), zlet_eq, fbc v8, zbd_s, zlet_eq, zlet_eq, nI_1]; rfl
    have fin : ∀ y : Bool, FX8_who_b82 0 x1 (nI v) (b01 y) t = if (y && exq (t 33) N (nI v)) = true then some (.inl (nI v, nI (v + 1), t)) else some (.inl (x1, nI (v + 1), t)) := by
      intro y
      rw [gex hN n2]
      unfold FX8_who_b126 FX8_who_b133
      cases (y && exq (t 33) N (nI v))
      · rw [if_pos (show b01 false = 0 from rfl), zlet_eq, nI_1]; rfl
      · rw [if_neg (show ¬ b01 true = 0 from by decide), zlet_eq, zlet_eq, nI_1]; rfl
    have sm : FX8_who_L49 0 x1 (nI v) t = if (!decide (x2 ≤ nI (cnt v)) && exq (t 33) N (nI v)) = true then some (.inl (nI v, nI (v + 1), t)) else some (.inl (x1, nI (v + 1), t)) := by
      rw [← fin]
      unfold FX8_who_L49 FX8_who_b77
      rw [show (0 + 3 : Nat) = 3 from rfl, show (3 : Int32).toNatClampNeg = 3 from rfl, show ln 1 3 = 18 from rfl, show zin 18 3 _ = _ from zin_n (p := 3) _ (by decide : 3 < 18) (by decide), e3, p1', if_neg (nI_ge (by omega) (by omega))]
      rcases hx with ⟨z1, z2⟩ | ⟨w, w1, w2, w3⟩
      · rw [if_pos z1, z2, decide_eq_false (show ¬ (9 : Int32) ≤ nI (cnt v) from nI_ge (b := 9) (by omega) (by decide))]
        rfl
      · rw [if_neg (show ¬ x1 = -1 from by rw [w2]; exact nI_m1 (by omega)), gbo t v v8, zbd_s, w2, gbo t w w1, zbd_s, w3]
        by_cases c : nI (cnt w) ≤ nI (cnt v)
        · rw [if_pos c, decide_eq_true c]; rfl
        · rw [if_neg c, decide_eq_false c]; rfl
    cases hb : (!decide (x2 ≤ nI (cnt v)) && exq (t 33) N (nI v))
    · rw [hb, if_neg (by decide)] at sc sm
      obtain ⟨r, y1, y2⟩ := ih (v + 1) x1 x2 (by omega) hx
      exact ⟨r, (zlp_step (a' := (x1, x2, nI (v + 1), σ)) sc).trans y1, (zlp_step (a' := (x1, nI (v + 1), t)) sm).trans y2⟩
    · rw [hb, if_pos rfl] at sc sm
      obtain ⟨r, y1, y2⟩ := ih (v + 1) (nI v) (nI (cnt v)) (by omega) (Or.inr ⟨v, v8, rfl, rfl⟩)
      exact ⟨r, (zlp_step (a' := (nI v, nI (cnt v), nI (v + 1), σ)) sc).trans y1, (zlp_step (a' := (nI v, nI (v + 1), t)) sm).trans y2⟩
