def mxG (G : Nat → Nat → Int32) (b : Nat) : Nat → Int32
  | 0 => G 0 b
  | k + 1 => if mxG G b k < G (k + 1) b then G (k + 1) b else mxG G b k
theorem fmg {σ t : zS} {q na n nr b : Nat} {G : Nat → Nat → Int32} (h : RQ σ t q na n nr) (hg : g7 σ na G) (hb : b < na) : FX7_mostGain 0 (nI b) σ = some (mxG G b (na - 1), σ) := by
  have h10 := h.2.2.1.1.1.1
  obtain ⟨c1, -, -⟩ := h.2.2.1.c
  have kq := h.2.1.q
  have key : ∀ k i, i + k = na → 1 ≤ i → zlp (fun z : Int32 × Int32 × zS => FX7_mostGain_L9 0 (nI b) z.1 z.2.1 z.2.2) (mxG G b (i - 1), nI i, σ) = some (mxG G b (na - 1), σ) := by
    intro k
    induction k with
    | zero =>
      intro i hi h1
      refine zlp_end ?_
      show FX7_mostGain_L9 0 (nI b) (mxG G b (i - 1)) (nI i) σ = _
      unfold FX7_mostGain_L9 FX7_mostGain_b40
      rw [kq.1, kq.2, zgd_t, zlet_eq, c1, if_pos (nI_le (by omega) (by omega)), show i = na from by omega]
      rfl
    | succ k ih =>
      intro i hi h1
      obtain ⟨j, rfl⟩ : ∃ j, i = j + 1 := ⟨i - 1, by omega⟩
      refine (zlp_step (a' := (mxG G b (j + 1), nI (j + 1 + 1), σ)) ?_).trans (ih (j + 1 + 1) (by omega) (by omega))
      show FX7_mostGain_L9 0 (nI b) (mxG G b j) (nI (j + 1)) σ = _
      unfold FX7_mostGain_L9
      rw [kq.1, kq.2, zgd_t, zlet_eq, c1, if_neg (nI_ge (by omega) (by omega)), hg (j + 1) b (by omega) hb, zbd_s, zlet_eq, zlet_eq, nI_1]
      rfl
  unfold FX7_mostGain
  rw [show FX7_gain 0 0 (nI b) σ = some (G 0 b, σ) from hg 0 b (by omega) hb, zbd_s, zlet_eq, zlet_eq]
  exact key (na - 1) 1 (by omega) (Nat.le_refl 1)
theorem gmb {σ t : zS} {q na n nr b : Nat} {G : Nat → Nat → Int32} (h : RQ σ t q na n nr) (hg : g8 t na G) (hb : b < na) : FX8_mostBy 0 (nI b) t = some (mxG G b (na - 1), t) := by
  have h10 := h.2.2.1.1.1.1
  have e0 : t 3 0 = nI na := h.2.2.1.1.1.2.2
  have key : ∀ k i, i + k = na → 1 ≤ i → zlp (fun z : Int32 × Int32 × zS => FX8_mostBy_L9 0 (nI b) z.1 z.2.1 z.2.2) (mxG G b (i - 1), nI i, t) = some (mxG G b (na - 1), t) := by
    intro k
    induction k with
    | zero =>
      intro i hi h1
      refine zlp_end ?_
      show FX8_mostBy_L9 0 (nI b) (mxG G b (i - 1)) (nI i) t = _
      unfold FX8_mostBy_L9 FX8_mostBy_b36
      rw [show (0 + 3 : Nat) = 3 from rfl, show (0 : Int32).toNatClampNeg = 0 from rfl, e0, show ln 1 3 = 18 from rfl, show zin 18 0 _ = _ from zin_n (p := 0) _ (by decide : 0 < 18) (by decide), if_pos (nI_le (by omega) (by omega)), show i = na from by omega]
      rfl
    | succ k ih =>
      intro i hi h1
      obtain ⟨j, rfl⟩ : ∃ j, i = j + 1 := ⟨i - 1, by omega⟩
      refine (zlp_step (a' := (mxG G b (j + 1), nI (j + 1 + 1), t)) ?_).trans (ih (j + 1 + 1) (by omega) (by omega))
      show FX8_mostBy_L9 0 (nI b) (mxG G b j) (nI (j + 1)) t = _
      unfold FX8_mostBy_L9
      rw [show (0 + 3 : Nat) = 3 from rfl, show (0 : Int32).toNatClampNeg = 0 from rfl, e0, show ln 1 3 = 18 from rfl, show zin 18 0 _ = _ from zin_n (p := 0) _ (by decide : 0 < 18) (by decide), if_neg (nI_ge (by omega) (by omega)), hg (j + 1) b (by omega) hb, zbd_s, zlet_eq, zlet_eq, nI_1]
      rfl
  unfold FX8_mostBy
  rw [show FX8_gain 0 0 (nI b) t = some (G 0 b, t) from hg 0 b (by omega) hb, zbd_s, zlet_eq, zlet_eq]
  exact key (na - 1) 1 (by omega) (Nat.le_refl 1)
