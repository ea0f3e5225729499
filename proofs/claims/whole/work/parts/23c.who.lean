theorem sec_neg : ∀ c, c ≤ 60 → ∀ m, m < c → nI m - nI c + 1 ≤ 0 := by decide +kernel
theorem sec_pos : ∀ c, c ≤ 60 → ∀ m, m ≤ 60 → c ≤ m → nI m - nI c + 1 = nI (m - c + 1) := by decide +kernel
/-- how many of his steps count -/
def nst (c l m : Nat) : Nat := if m < c then 0 else if m - c + 1 < l then m - c + 1 else l
theorem nst_i {c l m i : Nat} : i < nst c l m ↔ i < l ∧ c + i ≤ m := by unfold nst; split <;> (try split) <;> omega
theorem nst_c {c l m : Nat} (hc : c ≤ 60) (hm : m ≤ 60) (hl : 1 ≤ l) (hl2 : l ≤ 12) : (nst c l m = 0 ∧ (if nI m - nI c + 1 < nI l then nI m - nI c + 1 else nI l) ≤ 0) ∨ (if nI m - nI c + 1 < nI l then nI m - nI c + 1 else nI l) = nI (nst c l m) := by
  unfold nst
  by_cases e : m < c
  · have := sec_neg c hc m e
    have l0 : (0 : Int32) < nI l := (nI_ltI (a := 0) (by decide) (by omega)).mpr (by omega)
    have lt : nI m - nI c + 1 < nI l := by rw [fa_lt] at *; rw [fa_le] at this; omega
    exact Or.inl ⟨if_pos e, by rw [if_pos lt]; exact this⟩
  · rw [if_neg e, sec_pos c hc m hm (by omega)]
    refine Or.inr ?_
    by_cases e2 : m - c + 1 < l
    · rw [if_pos e2, if_pos ((nI_ltI (by omega) (by omega)).mpr e2)]
    · rw [if_neg e2, if_neg (fun z => e2 ((nI_ltI (by omega) (by omega)).mp z))]
def stp (S : zS) (p c l m : Nat) (A : Int32) : Prop := ∃ j, j < l ∧ c + j ≤ m ∧ S 13 (12 * p + j) = A
/-- the reference's turn on one of his steps -/
theorem gTC1 {t0 : zS} {i p c l m v : Nat} {A : Int32} {x3 : Int32} (hi : i < 8) (hp : p < 8) (hA : t0 31 i = A) (hv : v < 256) (hl : l ≤ 12) (hm60 : m ≤ 60) (hx : (nst c l m = 0 ∧ x3 ≤ 0) ∨ x3 = nI (nst c l m)) : ∀ u : zS, (∀ k, k ≠ 33 → u k = t0 k) → u 33 i = nI v → ∃ u' w, zlp (fun z : Int32 × zS => FX8_tellCanHave_L53 0 (nI i) (nI p) x3 z.1 z.2) (0, u) = some (.inl (nI (p + 1), u')) ∧ (∀ k, k ≠ 33 → u' k = t0 k) ∧ (∀ j, j ≠ i → u' 33 j = u 33 j) ∧ w < 256 ∧ u' 33 i = nI w ∧ ∀ j, j < 8 → (bt (nI w) j = true ↔ bt (nI v) j = true ∨ (j = p ∧ stp t0 p c l m A)) := by
  intro u hu hui
  have hK : nst c l m ≤ 12 := by unfold nst; split <;> (try split) <;> omega
  have hs : ∀ (k : Nat) (z : Int32 × zS), k < nst c l m → (z.1 = nI k ∧ (∀ k, k ≠ 33 → z.2 k = t0 k) ∧ (∀ j, j ≠ i → z.2 33 j = u 33 j) ∧ ∃ w, w < 256 ∧ z.2 33 i = nI w ∧ ∀ j, j < 8 → (bt (nI w) j = true ↔ bt (nI v) j = true ∨ (j = p ∧ ∃ s, s < k ∧ t0 13 (12 * p + s) = A))) → ∃ z', FX8_tellCanHave_L53 0 (nI i) (nI p) x3 z.1 z.2 = some (.inl z') ∧ (z'.1 = nI (k + 1) ∧ (∀ k, k ≠ 33 → z'.2 k = t0 k) ∧ (∀ j, j ≠ i → z'.2 33 j = u 33 j) ∧ ∃ w, w < 256 ∧ z'.2 33 i = nI w ∧ ∀ j, j < 8 → (bt (nI w) j = true ↔ bt (nI v) j = true ∨ (j = p ∧ ∃ s, s < k + 1 ∧ t0 13 (12 * p + s) = A))) := by
    intro k z hk ⟨q1, q2, q3, w, w1, w2, w3⟩
    obtain ⟨y, s⟩ := z
    simp only at q1 q2 q3 w2
    subst q1
    have hx3 : x3 = nI (nst c l m) := hx.resolve_left (fun z => by omega)
    have e12 : 12 * nI p + nI k = nI (12 * p + k) := by rw [show (12 : Int32) = nI 12 from rfl, pk_mul, nI_add]
    have st : FX8_tellCanHave_L53 0 (nI i) (nI p) x3 (nI k) s = some (.inl (nI (k + 1), if t0 13 (12 * p + k) = A then zup s 33 i (nI w ||| sb p) else s)) := by
      unfold FX8_tellCanHave_L53 FX8_tellCanHave_b92
      rw [hx3, if_neg (nI_ge hk (by omega)), show (0 + 13 : Nat) = 13 from rfl, show (0 + 31 : Nat) = 31 from rfl, show (0 + 33 : Nat) = 33 from rfl, e12, show ln 1 13 = 192 from rfl, show ln 1 31 = 8 from rfl, show ln 1 33 = 8 from rfl, zin_n _ (by omega : 12 * p + k < 192) (by decide), zin_n _ hi (by decide), nI_clamp (by omega : 12 * p + k < 2 ^ 31), nI_clamp (by omega : i < 2 ^ 31), q2 13 (by decide), q2 31 (by decide), hA, w2, nI_1]
      by_cases c : t0 13 (12 * p + k) = A
      · rw [if_pos c, if_pos c, zin_n _ hi (by decide), zin_n _ hi (by decide), zlet_eq, zlet_eq]
        rfl
      · rw [if_neg c, if_neg c, zlet_eq]
    refine ⟨_, st, rfl, ?_⟩
    by_cases c : t0 13 (12 * p + k) = A
    · obtain ⟨w', y1, y2⟩ := or_v w1 hp
      simp only [if_pos c]
      refine ⟨fun k' hk' => by rw [zup_n hk']; exact q2 k' hk', fun j hj => by rw [zup_at, if_neg (by omega)]; exact q3 j hj, w', y1, by rw [zup_at, if_pos ⟨rfl, rfl⟩]; exact y2, fun j hj => ?_⟩
      rw [← y2, bt_or (by omega) (by omega), Bool.or_eq_true, w3 j hj, decide_eq_true_iff]
      constructor
      · rintro ((z | ⟨z1, s', z2, z3⟩) | z)
        · exact Or.inl z
        · exact Or.inr ⟨z1, s', by omega, z3⟩
        · exact Or.inr ⟨z, k, by omega, c⟩
      · rintro (z | ⟨z1, -⟩)
        · exact Or.inl (Or.inl z)
        · exact Or.inr z1
    · simp only [if_neg c]
      refine ⟨q2, q3, w, w1, w2, fun j hj => ?_⟩
      rw [w3 j hj]
      constructor
      · rintro (z | ⟨z1, s', z2, z3⟩)
        · exact Or.inl z
        · exact Or.inr ⟨z1, s', by omega, z3⟩
      · rintro (z | ⟨z1, s', z2, z3⟩)
        · exact Or.inl z
        · exact Or.inr ⟨z1, s', (by
            by_cases e : s' = k
            · subst e; exact absurd z3 c
            · omega), z3⟩
  obtain ⟨⟨y, s⟩, g1, g2, g3, g4, w, w1, w2, w3⟩ := zlp_ex (f := fun z : Int32 × zS => FX8_tellCanHave_L53 0 (nI i) (nI p) x3 z.1 z.2) (fun k z => z.1 = nI k ∧ (∀ k, k ≠ 33 → z.2 k = t0 k) ∧ (∀ j, j ≠ i → z.2 33 j = u 33 j) ∧ ∃ w, w < 256 ∧ z.2 33 i = nI w ∧ ∀ j, j < 8 → (bt (nI w) j = true ↔ bt (nI v) j = true ∨ (j = p ∧ ∃ s, s < k ∧ t0 13 (12 * p + s) = A))) (n := nst c l m) (a := (0, u)) ⟨rfl, hu, fun _ _ => rfl, v, hv, hui, fun j hj => ⟨Or.inl, fun z => z.elim id (fun ⟨_, s, h, _⟩ => by omega)⟩⟩ hs
  simp only at g2 g3 g4 w2
  subst g2
  refine ⟨s, w, ?_, g3, g4, w1, w2, fun j hj => ?_⟩
  · rw [g1]
    refine zlp_end ?_
    show FX8_tellCanHave_L53 0 (nI i) (nI p) x3 (nI (nst c l m)) s = _
    have le : x3 ≤ nI (nst c l m) := by
      rcases hx with ⟨z1, z2⟩ | z
      · rw [z1]; exact z2
      · rw [z, fa_le]; omega
    unfold FX8_tellCanHave_L53 FX8_tellCanHave_b98
    rw [if_pos le, zlet_eq, nI_1]
    rfl
  · rw [w3 j hj]
    constructor
    · rintro (z | ⟨z1, s', z2, z3⟩)
      · exact Or.inl z
      · exact Or.inr ⟨z1, s', (nst_i.mp z2).1, (nst_i.mp z2).2, z3⟩
    · rintro (z | ⟨z1, s', z2, z3, z4⟩)
      · exact Or.inl z
      · exact Or.inr ⟨z1, s', nst_i.mpr ⟨z2, z3⟩, z4⟩
