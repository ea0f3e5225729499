/-! a ROUTE on both sides -/
section
variable {f : Nat → Int32} {n qt : Nat} {s0 t0 : zS} {v : Nat → Nat} {d : Int32} {p ns : Nat} {s t : zS}
/-- one goes on to the line's end behind a FAULT -/
theorem sB.fin (h : sB f n qt s0 t0 s t) {c : zS → Option (Int32 × zS)} {m : Option (Int32 × zS)} {b : Int32} {t' : zS} (hc : kFl f n qt s0 c) (hm : m = some (b, t')) (hu : ∀ s', sB f n qt s0 t0 s' t → sB f n qt s0 t0 s' t') : ∃ r s' b t', c s = some (r, s') ∧ m = some (b, t') ∧ lP f n qt s0 t0 v d p ns s' t' := by
  obtain ⟨r, s', e, B⟩ := h.go hc
  exact ⟨r, s', b, t', e, hm, Or.inr (hu s' B)⟩
theorem sB.finA {c : zS → Option (Int32 × zS)} {m : Option (Int32 × zS)} {b : Int32} {t' : zS} (hc : kFl f n qt s0 c) (hm : m = some (b, t')) (hu : ∀ s', sB f n qt s0 t0 s' t → sB f n qt s0 t0 s' t') : ∀ s, sB f n qt s0 t0 s t → ∃ r s' b t', c s = some (r, s') ∧ m = some (b, t') ∧ lP f n qt s0 t0 v d p ns s' t' := fun s h => h.fin hc hm hu
theorem rtB (hq : qt = 46 ∨ qt = 64) {p : Nat} (h : cS f n qt s0 p s) (h8 : ¬ s 4 8 = 0) (x1 x2 x3 x4 x5 : Int32) : (if x5 = x3 then FX3_readRoute_b73 4 x1 x2 x3 x4 x5 s else if x2 ≤ 0 then FX3_readRoute_b77 4 x1 x2 x3 x4 x5 s else zgd (kd 0 (s 4 1).toNatClampNeg == 5) (zlet (s 4 1).toNatClampNeg (fun q_15 => zbd (FX1_joins (q_15 + 1) x3 x5 s) (fun r_17 σ_16 => if r_17 = 0 then FX3_readRoute_b77 4 x1 x2 x3 x4 x5 σ_16 else FX3_readRoute_b73 4 x1 x2 x3 x4 x5 σ_16)))) = some (.inl (x2, x3, x4 + 1, s)) := by
  have h91 : FX3_readRoute_b91 4 x1 x2 x3 x4 x5 s = some (.inl (x2, x3, x4 + 1, s)) := by
    unfold FX3_readRoute_b91 FX3_readRoute_b129
    rw [if_neg h8, zlet_eq]
  have h78 : ∀ y0, FX3_readRoute_b78 4 x1 x2 x3 x4 x5 y0 s = some (.inl (x2, x3, x4 + 1, s)) := by
    intro y0
    unfold FX3_readRoute_b78 FX3_fail FX3_fail_b20
    rw [zlet_eq, if_neg h8, zbd_s, h91]
    split <;> rfl
  unfold FX3_readRoute_b73 FX3_readRoute_b77
  rw [h.ptr hq, fjos, zbd_s, h78, h78]
  split
  · rfl
  split
  · rfl
  split <;> rfl
/-- what a ROUTE has been so far -/
def rtC (qt : Nat) (s t : zS) (na np i : Nat) : Prop := ∀ j, j < i → t 13 (96 + (12 * np + j)) = s (qt + 13) (12 * np + j) ∧ ∃ a, a < na ∧ s (qt + 13) (12 * np + j) = nI a
theorem e_Route (he : en f n qt s0 t0) {v : Nat → Nat} {d : Int32} {ns : Nat} (h8 : v 3 < 8) : ∀ k i p s t la, i + k = 12 → sA f n qt s0 t0 v d p ns s t → rtC qt s t (v 0) (v 3) i → (i = 0 → la = 0) → (0 < i → la < v 0 ∧ s (qt + 13) (12 * v 3 + (i - 1)) = nI la) → ∃ i' s' t', zlp (fun q : Int32 × Int32 × Int32 × zS => FX3_readRoute_L7 4 (nI (v 3)) q.1 q.2.1 q.2.2.1 q.2.2.2) (nI i, nI la, nI i, s) = some (nI i', s') ∧ zlp (fun q : Int32 × zS => FX8_readPerson_L90 0 (nI (8 + v 3)) q.1 q.2) (nI i, t) = FX8_readPerson_b220 0 (nI (8 + v 3)) (nI i') t' ∧ i' ≤ 12 ∧ ((∃ p', sA f n qt s0 t0 v d p' ns s' t' ∧ tB f n p ≤ tB f n p' ∧ i ≤ i' ∧ (tK f n p = 2 → i < i') ∧ rtC qt s' t' (v 0) (v 3) i' ∧ (∀ a b, a ≠ 13 → s' (qt + a) b = s (qt + a) b) ∧ ∀ a b, 3 ≤ a → a ≠ 13 → t' a b = t a b) ∨ sB f n qt s0 t0 s' t') := by
  obtain ⟨n7, hq, -⟩ := id he
  have l13 : ln 0 (qt + 13) = 96 := by rcases hq with rfl | rfl <;> rfl
  have l4 : ln 0 (qt + 4) = 10 := by rcases hq with rfl | rfl <;> rfl
  intro k
  -- the class stops, the reference goes to the end
  have cB : ∀ (x2 x3 x4 : Int32) (s : zS), ¬ s 4 8 = 0 → zlp (fun q : Int32 × Int32 × Int32 × zS => FX3_readRoute_L7 4 (nI (v 3)) q.1 q.2.1 q.2.2.1 q.2.2.2) (x2, x3, x4, s) = some (x2, s) := by
    intro x2 x3 x4 s hs
    refine zlp_end ?_
    show FX3_readRoute_L7 4 (nI (v 3)) x2 x3 x4 s = _
    unfold FX3_readRoute_L7 FX3_readRoute_b135
    rw [if_neg hs]
    split <;> rfl
  have mB : ∀ (x3 : Int32) (t : zS), ¬ t 0 25 = 0 → zlp (fun q : Int32 × zS => FX8_readPerson_L90 0 (nI (8 + v 3)) q.1 q.2) (x3, t) = FX8_readPerson_b220 0 (nI (8 + v 3)) x3 t := by
    intro x3 t ht
    refine zlp_exit ?_
    show FX8_readPerson_L90 0 (nI (8 + v 3)) x3 t = _
    unfold FX8_readPerson_L90
    rw [if_neg ht]
  have m187 : ∀ (x3 x4 : Int32) (t : zS), ¬ t 0 25 = 0 → FX8_readPerson_b187 0 (nI (8 + v 3)) x3 x4 t = some (.inl (x3, t)) := by
    intro x3 x4 t ht
    unfold FX8_readPerson_b187
    rw [if_neg ht]
  have idx : ∀ i, i ≤ 12 → 12 * nI (8 + v 3) + nI i = nI (96 + (12 * v 3 + i)) := fun i hi => by
    rw [show (12 : Int32) = nI 12 from rfl, pk_mul, nI_add, show 12 * (8 + v 3) + i = 96 + (12 * v 3 + i) from by omega]
  have m116 : ∀ (i : Nat) (t t1 : zS), i ≤ 12 → FX8_aisleNow 0 t = some (0, t1) → ¬ t1 0 25 = 0 → FX8_readPerson_b116 0 (nI (8 + v 3)) (nI i) t = some (.inl (nI i, t1)) := by
    intro i t t1 hi h1 h2
    unfold FX8_readPerson_b116 FX8_readPerson_b143
    rw [h1, zbd_s, zlet_eq]
    by_cases c : i = 0
    · rw [if_pos (by rw [c]; rfl), zlet_eq, if_neg h2, m187 _ _ _ h2]
    · rw [if_neg (nI_ne0 (by omega) (by omega)), idx i hi, show nI (96 + (12 * v 3 + i)) - 1 = nI (96 + (12 * v 3 + (i - 1))) from by
        obtain ⟨j, rfl⟩ : ∃ j, i = j + 1 := ⟨i - 1, by omega⟩
        rw [show 96 + (12 * v 3 + (j + 1)) = 96 + (12 * v 3 + j) + 1 from by omega, nI_pred]; rfl, show (0 + 13 : Nat) = 13 from rfl, show ln 1 13 = 192 from rfl, zin_n _ (by omega : 96 + (12 * v 3 + (i - 1)) < 192) (by decide), zlet_eq, if_neg h2, m187 _ _ _ h2]
  have main : ∀ i p s t la, i ≤ 12 → sA f n qt s0 t0 v d p ns s t → rtC qt s t (v 0) (v 3) i → (i = 0 → la = 0) → (0 < i → la < v 0 ∧ s (qt + 13) (12 * v 3 + (i - 1)) = nI la) → (i < 12 → ∀ a p s1 t1, a < v 0 → sA f n qt s0 t0 v d p ns s1 t1 → rtC qt s1 t1 (v 0) (v 3) (i + 1) → s1 (qt + 13) (12 * v 3 + i) = nI a → ∃ i' s' t', zlp (fun q : Int32 × Int32 × Int32 × zS => FX3_readRoute_L7 4 (nI (v 3)) q.1 q.2.1 q.2.2.1 q.2.2.2) (nI (i + 1), nI a, nI (i + 1), s1) = some (nI i', s') ∧ zlp (fun q : Int32 × zS => FX8_readPerson_L90 0 (nI (8 + v 3)) q.1 q.2) (nI (i + 1), t1) = FX8_readPerson_b220 0 (nI (8 + v 3)) (nI i') t' ∧ i' ≤ 12 ∧ ((∃ p', sA f n qt s0 t0 v d p' ns s' t' ∧ tB f n p ≤ tB f n p' ∧ (i + 1 ≤ i') ∧ rtC qt s' t' (v 0) (v 3) i' ∧ (∀ a b, a ≠ 13 → s' (qt + a) b = s1 (qt + a) b) ∧ ∀ a b, 3 ≤ a → a ≠ 13 → t' a b = t1 a b) ∨ sB f n qt s0 t0 s' t')) → ∃ i' s' t', zlp (fun q : Int32 × Int32 × Int32 × zS => FX3_readRoute_L7 4 (nI (v 3)) q.1 q.2.1 q.2.2.1 q.2.2.2) (nI i, nI la, nI i, s) = some (nI i', s') ∧ zlp (fun q : Int32 × zS => FX8_readPerson_L90 0 (nI (8 + v 3)) q.1 q.2) (nI i, t) = FX8_readPerson_b220 0 (nI (8 + v 3)) (nI i') t' ∧ i' ≤ 12 ∧ ((∃ p', sA f n qt s0 t0 v d p' ns s' t' ∧ tB f n p ≤ tB f n p' ∧ i ≤ i' ∧ (tK f n p = 2 → i < i') ∧ rtC qt s' t' (v 0) (v 3) i' ∧ (∀ a b, a ≠ 13 → s' (qt + a) b = s (qt + a) b) ∧ ∀ a b, 3 ≤ a → a ≠ 13 → t' a b = t a b) ∨ sB f n qt s0 t0 s' t') := by
    intro i p s t la hi h hr hl0 hl hnext
    obtain ⟨⟨v10, -⟩, -⟩ := h.2.2.2.2.2.1.1
    have hp := h.1.2.2.2.1
    by_cases e2 : tK f n p = 2
    rotate_left
    · refine ⟨i, s, t, zlp_end ?_, zlp_exit ?_, hi, Or.inl ⟨p, h, Nat.le_refl _, Nat.le_refl _, fun z => absurd z e2, hr, fun _ _ _ => rfl, fun _ _ _ _ => rfl⟩⟩
      · show FX3_readRoute_L7 4 (nI (v 3)) (nI i) (nI la) (nI i) s = _
        unfold FX3_readRoute_L7 FX3_readRoute_b135
        rw [if_neg (show ¬ (12 : Int32) < nI i from nI_nlt (a := 12) hi (by decide)), if_pos h.2.2.1, if_neg (show ¬ s 4 3 = 2 from fun z => e2 ((h.k3 2 (by decide)).mp z))]
        rfl
      · show FX8_readPerson_L90 0 (nI (8 + v 3)) (nI i) t = _
        unfold FX8_readPerson_L90
        rw [if_pos h.2.2.2.1, if_neg (show ¬ t 0 21 = 2 from fun z => e2 (tJ_2.mp ((h.m3 2 (by decide)).mp z)))]
    have cL : FX3_readRoute_L7 4 (nI (v 3)) (nI i) (nI la) (nI i) s = if nI i = 12 then zbd (FX3_fail 4 2 s) (fun _ σ_18 => FX3_readRoute_b41 4 (nI (v 3)) (nI i) (nI la) (nI i) σ_18) else FX3_readRoute_b41 4 (nI (v 3)) (nI i) (nI la) (nI i) s := by
      unfold FX3_readRoute_L7
      rw [if_neg (show ¬ (12 : Int32) < nI i from nI_nlt (a := 12) hi (by decide)), if_pos h.2.2.1, if_pos (show s 4 3 = 2 from (h.k3 2 (by decide)).mpr e2)]
    have mL : FX8_readPerson_L90 0 (nI (8 + v 3)) (nI i) t = if nI i = 12 then zbd (FX8_wrong 0 2 t) (fun _ σ_15 => FX8_readPerson_b116 0 (nI (8 + v 3)) (nI i) σ_15) else FX8_readPerson_b116 0 (nI (8 + v 3)) (nI i) t := by
      unfold FX8_readPerson_L90
      rw [if_pos h.2.2.2.1, if_pos (show t 0 21 = 2 from (h.m3 2 (by decide)).mpr (tJ_2.mpr e2))]
    have stop : ∀ (s1 t1 : zS) (x4 : Int32), sB f n qt s0 t0 s1 t1 → FX3_readRoute_L7 4 (nI (v 3)) (nI i) (nI la) (nI i) s = some (.inl (nI i, nI la, x4, s1)) → FX8_readPerson_L90 0 (nI (8 + v 3)) (nI i) t = some (.inl (nI i, t1)) → ∃ i' s' t', zlp (fun q : Int32 × Int32 × Int32 × zS => FX3_readRoute_L7 4 (nI (v 3)) q.1 q.2.1 q.2.2.1 q.2.2.2) (nI i, nI la, nI i, s) = some (nI i', s') ∧ zlp (fun q : Int32 × zS => FX8_readPerson_L90 0 (nI (8 + v 3)) q.1 q.2) (nI i, t) = FX8_readPerson_b220 0 (nI (8 + v 3)) (nI i') t' ∧ i' ≤ 12 ∧ ((∃ p', sA f n qt s0 t0 v d p' ns s' t' ∧ tB f n p ≤ tB f n p' ∧ i ≤ i' ∧ (tK f n p = 2 → i < i') ∧ rtC qt s' t' (v 0) (v 3) i' ∧ (∀ a b, a ≠ 13 → s' (qt + a) b = s (qt + a) b) ∧ ∀ a b, 3 ≤ a → a ≠ 13 → t' a b = t a b) ∨ sB f n qt s0 t0 s' t') := fun s1 t1 x4 B e1 e2 => ⟨i, s1, t1, (zlp_step (f := fun q : Int32 × Int32 × Int32 × zS => FX3_readRoute_L7 4 (nI (v 3)) q.1 q.2.1 q.2.2.1 q.2.2.2) (a := (nI i, nI la, nI i, s)) e1).trans (cB _ _ _ _ B.2.2.1), (zlp_step (f := fun q : Int32 × zS => FX8_readPerson_L90 0 (nI (8 + v 3)) q.1 q.2) (a := (nI i, t)) e2).trans (mB _ _ B.b), hi, Or.inr B⟩
    by_cases c12 : i = 12
    · have x12 : nI i = 12 := by rw [c12]; rfl
      obtain ⟨s1, t1, g1, g2, B1⟩ := h.fail (k := 2) (by decide)
      obtain ⟨x, s2, g3, B2⟩ := B1.go (k_here he)
      obtain ⟨⟨p2, C2⟩, -⟩ := id B2
      refine stop s2 t1 (nI i + 1) B2 ?_ ?_
      · rw [cL, if_pos x12, g1, zbd_s]
        unfold FX3_readRoute_b41
        rw [g3, zbd_s, zlet_eq]
        exact rtB hq C2 B2.2.2.1 _ _ _ _ _
      · rw [mL, if_pos x12, g2, zbd_s]
        exact m116 i t1 t1 hi (gAn0 B1.b) B1.b
    have x12 : ¬ nI i = 12 := fun z => c12 ((nI_eq (b := 12) (by omega) (by decide)).mp z)
    rw [if_neg x12] at cL mL
    rcases h.here he with ⟨a, ha, j1, j2, -⟩ | ⟨x, s1, t1, j1, j2, B1⟩
    rotate_left
    · obtain ⟨⟨p2, C2⟩, -⟩ := id B1
      refine stop s1 t1 (nI i + 1) B1 ?_ ?_
      · rw [cL]
        unfold FX3_readRoute_b41
        rw [j1, zbd_s, zlet_eq]
        exact rtB hq C2 B1.2.2.1 _ _ _ _ _
      · rw [mL]
        exact m116 i t t1 hi j2 B1.b
    -- an AISLE
    have la10 : la < 10 := by
      by_cases c : i = 0
      · rw [hl0 c]; decide
      · have := (hl (by omega)).1; omega
    have cE : FX3_readRoute_b41 4 (nI (v 3)) (nI i) (nI la) (nI i) s = if a = la ∨ (0 < i ∧ bt (s (qt + 4) la) a = true) then FX3_readRoute_b73 4 (nI (v 3)) (nI i) (nI la) (nI i) (nI a) s else FX3_readRoute_b77 4 (nI (v 3)) (nI i) (nI la) (nI i) (nI a) s := by
      unfold FX3_readRoute_b41
      rw [j1, zbd_s, zlet_eq, h.1.ptr hq, fjos, show qt + 1 + 3 = qt + 4 from rfl, l4, rd_n la10 (by decide), hds_n (by omega : a < 32), zbd_s]
      by_cases c1 : a = la
      · rw [if_pos (by rw [c1]), if_pos (Or.inl c1)]
      rw [if_neg (fun z => c1 ((nI_eq (by omega) (by omega)).mp z))]
      by_cases c2 : i = 0
      · rw [if_pos (by rw [c2]; decide), if_neg (by rintro (z | ⟨z, -⟩) <;> omega)]
      rw [if_neg (nI_nle (by omega) (by omega))]
      cases c3 : bt (s (qt + 4) la) a
      · rw [b01_f, if_pos rfl, if_neg (by rintro (z | ⟨-, z⟩); exact c1 z; cases z)]
      · rw [b01_t, if_neg (by decide), if_pos (Or.inr ⟨by omega, rfl⟩)]
    have mE : FX8_readPerson_b116 0 (nI (8 + v 3)) (nI i) t = if a = la ∨ (0 < i ∧ bt (s (qt + 4) la) a = true) then FX8_readPerson_b187 0 (nI (8 + v 3)) (nI i) (nI a) t else FX8_readPerson_b181 0 (nI (8 + v 3)) (nI i) (nI a) t := by
      have key : FX8_readPerson_b143 0 (nI (8 + v 3)) (nI i) (nI a) (nI la) t = if a = la ∨ (0 < i ∧ bt (s (qt + 4) la) a = true) then FX8_readPerson_b187 0 (nI (8 + v 3)) (nI i) (nI a) t else FX8_readPerson_b181 0 (nI (8 + v 3)) (nI i) (nI a) t := by
        unfold FX8_readPerson_b143
        rw [zlet_eq, if_pos h.2.2.2.1]
        by_cases c1 : a = la
        · rw [if_pos (by rw [c1]), if_pos (Or.inl c1)]
        rw [if_neg (fun z => c1 ((nI_eq (by omega) (by omega)).mp z))]
        by_cases c2 : i = 0
        · rw [if_pos (by rw [c2]; rfl), if_neg (by rintro (z | ⟨z, -⟩) <;> omega)]
        have ej := (h.2.2.2.2.2.1.2.2.1.1 la (hl (by omega)).1).2.2.2.2.1
        rw [if_neg (nI_ne0 (by omega) (by omega)), show (10 : Int32) + nI la = nI (10 + la) from nI_add 10 la, show (0 + 6 : Nat) = 6 from rfl, show ln 1 6 = 20 from rfl, zin_n _ (by omega : 10 + la < 20) (by decide), nI_clamp (by omega : 10 + la < 2 ^ 31), ← ej]
        cases c3 : bt (s (qt + 4) la) a
        · rw [if_pos ((bt_0 (by omega : a < 32)).mpr c3), if_neg (by rintro (z | ⟨-, z⟩); exact c1 z; cases z)]
        · rw [if_neg (fun z => by rw [(bt_0 (by omega : a < 32)).mp z] at c3; cases c3), if_pos (Or.inr ⟨by omega, rfl⟩)]
      unfold FX8_readPerson_b116
      rw [j2, zbd_s, zlet_eq]
      by_cases c : i = 0
      · have l0 := hl0 c
        subst l0
        rw [if_pos (by rw [c]; rfl)]
        exact key
      · obtain ⟨q1, q2⟩ := hl (by omega)
        have q3 := (hr (i - 1) (by omega)).1
        rw [if_neg (nI_ne0 (by omega) (by omega)), idx i hi, show nI (96 + (12 * v 3 + i)) - 1 = nI (96 + (12 * v 3 + (i - 1))) from by
          obtain ⟨j, rfl⟩ : ∃ j, i = j + 1 := ⟨i - 1, by omega⟩
          rw [show 96 + (12 * v 3 + (j + 1)) = 96 + (12 * v 3 + j) + 1 from by omega, nI_pred]; rfl, show (0 + 13 : Nat) = 13 from rfl, show ln 1 13 = 192 from rfl, zin_n _ (by omega : 96 + (12 * v 3 + (i - 1)) < 192) (by decide), nI_clamp (by omega : 96 + (12 * v 3 + (i - 1)) < 2 ^ 31), q3, q2]
        exact key
    rw [cE] at cL
    rw [mE] at mL
    by_cases ok : a = la ∨ (0 < i ∧ bt (s (qt + 4) la) a = true)
    rotate_left
    · rw [if_neg ok] at cL mL
      obtain ⟨s1, t1, g1, g2, B1⟩ := h.fail (k := 6) (by decide)
      refine stop s1 t1 (nI i + 1) B1 ?_ ?_
      · rw [cL]
        unfold FX3_readRoute_b77 FX3_readRoute_b78 FX3_readRoute_b91 FX3_readRoute_b129
        rw [zlet_eq, if_pos rfl, g1, zbd_s, if_neg B1.2.2.1, zlet_eq]
      · rw [mL]
        unfold FX8_readPerson_b181
        rw [g2, zbd_s, m187 _ _ _ B1.b]
    · rw [if_pos ok] at cL mL
      have h' := (h.fc (i := 13) (j := 12 * v 3 + i) (x := nI a) he (by decide) (by unfold tsc; omega)).fm (k := 13) (j := 96 + (12 * v 3 + i)) (x := nI a) (by decide) (by unfold mfr; simp) (by unfold trc; omega)
      obtain ⟨s1, t1, g1, g2, A1, g4, g5⟩ := h'.tok he
      have hE := tEB (f := f) hp
      have c2 : FX3_readRoute_L7 4 (nI (v 3)) (nI i) (nI la) (nI i) s = some (.inl (nI (i + 1), nI a, nI (i + 1), s1)) := by
        rw [cL]
        unfold FX3_readRoute_b73 FX3_readRoute_b78 FX3_readRoute_b91 FX3_readRoute_b129
        rw [zlet_eq, if_neg (by decide), if_pos h.2.2.1, h.1.ptr hq, show nI (v 3) * 12 + nI i = nI (12 * v 3 + i) from by rw [show (12 : Int32) = nI 12 from rfl, pk_mul, nI_add, Nat.mul_comm], show qt + 7 + 6 = qt + 13 from rfl, fput', l13, pt_n (by omega : 12 * v 3 + i < 96) (by decide), zbd_s, zlet_eq, zlet_eq, g1, zbd_s, zlet_eq, nI_1]
      have m2 : FX8_readPerson_L90 0 (nI (8 + v 3)) (nI i) t = some (.inl (nI (i + 1), t1)) := by
        rw [mL]
        unfold FX8_readPerson_b187
        rw [if_pos h.2.2.2.1, idx i hi, show (0 + 13 : Nat) = 13 from rfl, show ln 1 13 = 192 from rfl, zin_n _ (by omega : 96 + (12 * v 3 + i) < 192) (by decide), nI_clamp (by omega : 96 + (12 * v 3 + i) < 2 ^ 31), zlet_eq, zlet_eq, g2, zbd_s, nI_1]
      have r1 : rtC qt s1 t1 (v 0) (v 3) (i + 1) := by
        intro j hj
        rw [g4 (qt + 13) _ (by omega), g5 13 _ (by omega)]
        by_cases e : j = i
        · subst e
          rw [zup_at, if_pos ⟨rfl, rfl⟩, zup_at, if_pos ⟨rfl, rfl⟩]
          exact ⟨rfl, a, ha, rfl⟩
        · rw [zup_at, if_neg (by omega), zup_at, if_neg (by omega)]
          exact hr j (by omega)
      have w1 : s1 (qt + 13) (12 * v 3 + i) = nI a := by rw [g4 (qt + 13) _ (by omega), zup_at, if_pos ⟨rfl, rfl⟩]
      obtain ⟨i', s', t', y1, y2, y3, y4⟩ := hnext (by omega) a _ s1 t1 ha A1 r1 w1
      refine ⟨i', s', t', (zlp_step (f := fun q : Int32 × Int32 × Int32 × zS => FX3_readRoute_L7 4 (nI (v 3)) q.1 q.2.1 q.2.2.1 q.2.2.2) (a := (nI i, nI la, nI i, s)) c2).trans y1, (zlp_step (f := fun q : Int32 × zS => FX8_readPerson_L90 0 (nI (8 + v 3)) q.1 q.2) (a := (nI i, t)) m2).trans y2, y3, y4.imp ?_ id⟩
      rintro ⟨p', z1, z2, z3, z4, z5, z6⟩
      refine ⟨p', z1, by omega, by omega, fun _ => by omega, z4, fun x y hx => ?_, fun x y hx hy => ?_⟩
      · rw [z5 x y hx, g4 (qt + x) y (by omega), zup_n (by omega)]
      · rw [z6 x y hx hy, g5 x y (by omega), zup_n (by omega)]
  induction k with
  | zero =>
    intro i p s t la hi h hr hl0 hl
    exact main i p s t la (by omega) h hr hl0 hl (fun z => by omega)
  | succ k ih =>
    intro i p s t la hi h hr hl0 hl
    exact main i p s t la (by omega) h hr hl0 hl (fun _ a p1 s1 t1 ha A1 r1 w1 => by
      obtain ⟨i', s', t', y1, y2, y3, y4⟩ := ih (i + 1) p1 s1 t1 a (by omega) A1 r1 (fun z => by omega) (fun _ => ⟨ha, w1⟩)
      exact ⟨i', s', t', y1, y2, y3, y4.imp (fun ⟨p', z1, z2, z3, _, z4⟩ => ⟨p', z1, z2, z3, z4⟩) id⟩)
end
