/-! game: the gains are the same; the couples that rest, the safest aisle -/
def gG (t S : zS) (a b : Nat) : Int32 := if a = b ∨ bt (t 7 b) a = true then -((S 0 4) / 10) else S 2 a
theorem zgd_n10 {β : Type} (r : Option β) : zgd ((10 : Nat) != 0) r = r := Eq.trans rfl rfl
theorem FX7_gnG {σ t : zS} {q na n nr : Nat} (h : RQ σ t q na n nr) : g7 σ na (gG t (ss q σ)) := by
  intro a b ha hb
  have h10 := h.2.2.1.1.1.1
  have kq := h.2.1.q
  have e2 : σ (q + 1 + 1) = ss q σ 2 := (ss_i (by decide) (by decide)).symm
  have e0 : σ q 4 = ss q σ 0 4 := by rw [ss_i (by decide) (by decide)]; rfl
  have k1 : FX7_gain_b28 0 (nI a) 0 σ = some (ss q σ 2 a, σ) := by
    unfold FX7_gain_b28 FX7_gain_b61
    rw [zlet_eq, if_pos rfl, kq.1, kq.2, zgd_t, zlet_eq, fat', e2, ql_2 (h.2.1.d (Or.inr rfl)), rd_n (by omega : a < 10) (by decide), zbd_s]
  have k2 : FX7_gain_b28 0 (nI a) 1 σ = some (-((ss q σ 0 4) / 10), σ) := by
    unfold FX7_gain_b28 FX7_gain_b61
    rw [zlet_eq, if_neg (by decide), kq.1, kq.2, zgd_t, zlet_eq, e0, zgd_n10]
  unfold FX7_gain FX7_gain_b23 gG
  by_cases c : a = b
  · rw [if_pos (by rw [c]), if_pos (Or.inl c), k2]
  rw [if_neg (fun z => c ((nI_eq (by omega : a < 2 ^ 31) (by omega : b < 2 ^ 31)).mp z)), show (0 + 6 + 1 : Nat) = 7 from rfl, fat', show ln 0 7 = 10 from rfl, rd_n (by omega : b < 10) (by decide), zbd_s, fw7 h hb, fholds _ (by omega : a < 32), zbd_s]
  cases e : bt (t 7 b) a
  · rw [b01_f, if_pos rfl, k1, if_neg (by simp [c])]
  · rw [b01_t, if_neg (by decide), k2, if_pos (Or.inr rfl)]
theorem FX8_gnG {σ t : zS} {q na n nr : Nat} (h : RQ σ t q na n nr) : g8 t na (gG t (ss q σ)) := by
  intro a b ha hb
  obtain ⟨⟨h10, -, -⟩, -, -, ⟨-, e6, -⟩, hA, -⟩ := id h.2.2.1.1
  have k2 : FX8_gain_b18 0 t = some (-((ss q σ 0 4) / 10), t) := by
    unfold FX8_gain_b18 FX8_gain_b38
    rw [show (0 + 3 : Nat) = 3 from rfl, show (6 : Int32) = nI 6 from rfl, show ln 1 3 = 18 from rfl, zin_n _ (by decide : 6 < 18) (by decide), show (nI 6).toNatClampNeg = 6 from rfl, e6, zgd_n10]
  unfold FX8_gain gG
  by_cases c : a = b
  · rw [if_pos (by rw [c]), if_pos (Or.inl c), k2]
  rw [if_neg (fun z => c ((nI_eq (by omega : b < 2 ^ 31) (by omega : a < 2 ^ 31)).mp z).symm), show (0 + 7 : Nat) = 7 from rfl, show ln 1 7 = 20 from rfl, zin_n _ (by omega : b < 20) (by decide), nI_clamp (by omega : b < 2 ^ 31), fisOf _ (by omega : a < 32), zbd_s]
  cases e : bt (t 7 b) a
  · rw [b01_f, if_pos rfl, if_neg (by simp [c]), show (0 + 4 : Nat) = 4 from rfl, show ln 1 4 = 20 from rfl, zin_n _ (by omega : a < 20) (by decide), nI_clamp (by omega : a < 2 ^ 31), (hA a ha).1]
    rfl
  · rw [b01_t, if_neg (by decide), k2, if_pos (Or.inr rfl)]
/-- what the inner loop makes of the number and the first -/
def rst (G : Nat → Nat → Int32) (na a : Nat) (k : Nat) (z : Int32 × Int32) : Int32 × Int32 := fo (fun b z => if rsq G na a b = true then (z.1 + 1, if z.2 = -1 then 10 * nI a + nI b else z.2) else z) k z
def rso (G : Nat → Nat → Int32) (na : Nat) (k : Nat) : Int32 × Int32 := fo (fun a z => rst G na a na z) k (0, -1)
theorem fri {σ t : zS} {q na n nr a : Nat} {x1 : Int32} {G : Nat → Nat → Int32} (h : RQ σ t q na n nr) (hg : g7 σ na G) (ha : a < na) (z : Int32 × Int32) : zlp (fun w : Int32 × Int32 × Int32 × zS => FX7_resting_L25 0 x1 (nI a) w.1 w.2.1 w.2.2.1 w.2.2.2) (z.1, z.2, 0, σ) = some (.inl ((rst G na a na z).1, (rst G na a na z).2, nI (a + 1), σ)) := by
  have h10 := h.2.2.1.1.1.1
  obtain ⟨c1, -, -⟩ := h.2.2.1.c
  have kq := h.2.1.q
  refine zlp_for (fun b => ((rst G na a b z).1, (rst G na a b z).2, nI b, σ)) na (fun b hb => ?_) ?_
  · show FX7_resting_L25 0 x1 (nI a) (rst G na a b z).1 (rst G na a b z).2 (nI b) σ = _
    have e : rst G na a (b + 1) z = if rsq G na a b = true then ((rst G na a b z).1 + 1, if (rst G na a b z).2 = -1 then 10 * nI a + nI b else (rst G na a b z).2) else rst G na a b z := rfl
    rw [e]
    generalize rst G na a b z = y
    unfold FX7_resting_L25 FX7_resting_b71 FX7_resting_b72
    rw [kq.1, kq.2, zgd_t, zlet_eq, c1, if_neg (nI_ge (by omega) (by omega)), frs h hg ha hb, zbd_s, zlet_eq, nI_1]
    cases r : rsq G na a b
    · rfl
    · rw [b01_t, if_neg (by decide), if_pos rfl, zlet_eq]
      by_cases c : y.2 = -1
      · rw [if_pos c, if_pos c]; rfl
      · rw [if_neg c, if_neg c]; rfl
  · show FX7_resting_L25 0 x1 (nI a) (rst G na a na z).1 (rst G na a na z).2 (nI na) σ = _
    unfold FX7_resting_L25 FX7_resting_b78
    rw [kq.1, kq.2, zgd_t, zlet_eq, c1, if_pos (nI_le (Nat.le_refl _) (by omega)), zlet_eq, nI_1]
    rfl
theorem fro {σ t : zS} {q na n nr : Nat} {x1 : Int32} {G : Nat → Nat → Int32} (h : RQ σ t q na n nr) (hg : g7 σ na G) : FX7_resting 0 x1 σ = some (if x1 = 0 then (rso G na na).1 else (rso G na na).2, σ) := by
  have h10 := h.2.2.1.1.1.1
  obtain ⟨c1, -, -⟩ := h.2.2.1.c
  have kq := h.2.1.q
  unfold FX7_resting
  rw [zlet_eq, zlet_eq, zlet_eq]
  refine zlp_for (fun a => ((rso G na a).1, (rso G na a).2, nI a, σ)) na (fun a ha => ?_) ?_
  · show FX7_resting_L7 0 x1 (rso G na a).1 (rso G na a).2 (nI a) σ = _
    have e : rso G na (a + 1) = rst G na a na (rso G na a) := rfl
    rw [e]
    generalize rso G na a = y
    unfold FX7_resting_L7
    rw [kq.1, kq.2, zgd_t, zlet_eq, c1, if_neg (nI_ge (by omega) (by omega)), zlet_eq]
    exact fri h hg ha y
  · show FX7_resting_L7 0 x1 (rso G na na).1 (rso G na na).2 (nI na) σ = _
    generalize rso G na na = y
    unfold FX7_resting_L7 FX7_resting_b84 FX7_resting_b93
    rw [kq.1, kq.2, zgd_t, zlet_eq, c1, if_pos (nI_le (Nat.le_refl _) (by omega))]
    by_cases c : x1 = 0
    · rw [if_pos c, if_pos c]; rfl
    · rw [if_neg c, if_neg c]; rfl
/-- the safest of the first k + 1 -/
def sfs (G : Nat → Nat → Int32) (na : Nat) : Nat → Nat
  | 0 => 0
  | k + 1 => if mxG G (k + 1) (na - 1) < mxG G (sfs G na k) (na - 1) then k + 1 else sfs G na k
theorem sfs_le {G : Nat → Nat → Int32} {na : Nat} : ∀ k, sfs G na k ≤ k := by
  intro k
  induction k with
  | zero => exact Nat.le_refl 0
  | succ k ih => unfold sfs; split <;> omega
theorem fsf {σ t : zS} {q na n nr : Nat} {x1 : Int32} {G : Nat → Nat → Int32} (h : RQ σ t q na n nr) (hg : g7 σ na G) : FX7_safest 0 x1 σ = some (if na = 0 then -1 else if x1 = 2 then nI (sfs G na (na - 1)) else mxG G (sfs G na (na - 1)) (na - 1), σ) := by
  have h10 := h.2.2.1.1.1.1
  obtain ⟨c1, -, -⟩ := h.2.2.1.c
  have kq := h.2.1.q
  unfold FX7_safest
  rw [kq.1, kq.2, zgd_t, zlet_eq, c1]
  by_cases c : na = 0
  · rw [if_pos (by rw [c]; rfl), if_pos c]
  rw [if_neg (nI_ne0 (by omega) (by omega)), if_neg c, zlet_eq, show FX7_mostGain 0 0 σ = _ from fmg (b := 0) h hg (by omega), zbd_s, zlet_eq, zlet_eq]
  have key : ∀ k i, i + k = na → 1 ≤ i → zlp (fun w : Int32 × Int32 × Int32 × zS => FX7_safest_L26 0 x1 w.1 w.2.1 w.2.2.1 w.2.2.2) (nI (sfs G na (i - 1)), mxG G (sfs G na (i - 1)) (na - 1), nI i, σ) = some (if x1 = 2 then nI (sfs G na (na - 1)) else mxG G (sfs G na (na - 1)) (na - 1), σ) := by
    intro k
    induction k with
    | zero =>
      intro i hi h1
      refine zlp_end ?_
      show FX7_safest_L26 0 x1 (nI (sfs G na (i - 1))) (mxG G (sfs G na (i - 1)) (na - 1)) (nI i) σ = _
      unfold FX7_safest_L26 FX7_safest_b67 FX7_safest_b77
      rw [kq.1, kq.2, zgd_t, zlet_eq, c1, if_pos (nI_le (by omega) (by omega)), show i = na from by omega]
      by_cases c2 : x1 = 2
      · rw [if_pos c2, if_pos c2]; rfl
      · rw [if_neg c2, if_neg c2]; rfl
    | succ k ih =>
      intro i hi h1
      obtain ⟨j, rfl⟩ : ∃ j, i = j + 1 := ⟨i - 1, by omega⟩
      refine (zlp_step (a' := (nI (sfs G na (j + 1)), mxG G (sfs G na (j + 1)) (na - 1), nI (j + 1 + 1), σ)) ?_).trans (ih (j + 1 + 1) (by omega) (by omega))
      show FX7_safest_L26 0 x1 (nI (sfs G na j)) (mxG G (sfs G na j) (na - 1)) (nI (j + 1)) σ = _
      unfold FX7_safest_L26 FX7_safest_b61
      rw [kq.1, kq.2, zgd_t, zlet_eq, c1, if_neg (nI_ge (by omega) (by omega)), fmg h hg (by omega : j + 1 < na), zbd_s, zlet_eq, zlet_eq, zlet_eq, zlet_eq, zlet_eq, nI_1]
      have e : sfs G na (j + 1) = if mxG G (j + 1) (na - 1) < mxG G (sfs G na j) (na - 1) then j + 1 else sfs G na j := rfl
      rw [e]
      by_cases c2 : mxG G (j + 1) (na - 1) < mxG G (sfs G na j) (na - 1)
      · rw [if_pos c2, if_neg (fa_of_lt c2).2.1]
      · rw [if_neg c2, if_pos (fa_of_nlt c2)]
  exact key (na - 1) 1 (by omega) (Nat.le_refl 1)
/-- the reference -/
theorem gri {σ t : zS} {q na n nr a : Nat} {x1 x4 : Int32} {G : Nat → Nat → Int32} (h : RQ σ t q na n nr) (hg : g8 t na G) (ha : a < na) (hx : (x4 = -1 ∧ a = 0) ∨ (1 ≤ a ∧ x4 = nI (sfs G na (a - 1)))) (z : Int32 × Int32) : zlp (fun w : Int32 × Int32 × Int32 × zS => FX8_game_L47 0 x1 x4 (nI a) w.1 w.2.1 w.2.2.1 w.2.2.2) (z.1, z.2, 0, t) = some (.inl ((rst G na a na z).1, (rst G na a na z).2, nI (sfs G na a), nI (a + 1), t)) := by
  have h10 := h.2.2.1.1.1.1
  have e0 : t 3 0 = nI na := h.2.2.1.1.1.2.2
  have z0 : ∀ {β : Type} (r : Option β), zin (ln 1 (0 + 3)) 0 r = r := fun r => zin_n (p := 0) r (by decide : 0 < 18) (by decide)
  refine zlp_for (fun b => ((rst G na a b z).1, (rst G na a b z).2, nI b, t)) na (fun b hb => ?_) ?_
  · show FX8_game_L47 0 x1 x4 (nI a) (rst G na a b z).1 (rst G na a b z).2 (nI b) t = _
    have e : rst G na a (b + 1) z = if rsq G na a b = true then ((rst G na a b z).1 + 1, if (rst G na a b z).2 = -1 then 10 * nI a + nI b else (rst G na a b z).2) else rst G na a b z := rfl
    rw [e]
    generalize rst G na a b z = y
    unfold FX8_game_L47 FX8_game_b92 FX8_game_b93
    rw [z0, show (0 + 3 : Nat) = 3 from rfl, show (0 : Int32).toNatClampNeg = 0 from rfl, e0, if_neg (nI_ge (by omega) (by omega)), grs h hg ha hb, zbd_s, zlet_eq, nI_1]
    cases r : rsq G na a b
    · rfl
    · rw [b01_t, if_neg (by decide), if_pos rfl, zlet_eq]
      by_cases c : y.2 = -1
      · rw [if_pos c, if_pos c]; rfl
      · rw [if_neg c, if_neg c]; rfl
  · show FX8_game_L47 0 x1 x4 (nI a) (rst G na a na z).1 (rst G na a na z).2 (nI na) t = _
    generalize rst G na a na z = y
    unfold FX8_game_L47
    rw [z0, show (0 + 3 : Nat) = 3 from rfl, show (0 : Int32).toNatClampNeg = 0 from rfl, e0, if_pos (nI_le (Nat.le_refl _) (by omega))]
    unfold FX8_game_b99 FX8_game_b120 FX8_game_b124
    rcases hx with ⟨rfl, rfl⟩ | ⟨h1, rfl⟩
    · rw [if_pos rfl, zlet_eq, zlet_eq]; rfl
    · obtain ⟨j, rfl⟩ : ∃ j, a = j + 1 := ⟨a - 1, by omega⟩
      have hj := sfs_le (G := G) (na := na) j
      rw [show j + 1 - 1 = j from rfl, if_neg (nI_m1 (by omega)), gmb h hg ha, zbd_s, gmb h hg (by omega : sfs G na j < na), zbd_s, zlet_eq, zlet_eq, nI_1]
      have e : sfs G na (j + 1) = if mxG G (j + 1) (na - 1) < mxG G (sfs G na j) (na - 1) then j + 1 else sfs G na j := rfl
      rw [e]
      by_cases c2 : mxG G (j + 1) (na - 1) < mxG G (sfs G na j) (na - 1)
      · rw [if_pos c2, if_neg (fa_of_lt c2).2.1]; rfl
      · rw [if_neg c2, if_pos (fa_of_nlt c2)]; rfl
theorem rel_game {σ τ : zS} (h : RR σ τ) (x : Int32) : relX (FX7_game 0 x σ) (FX8_game 0 x τ) := by
  obtain ⟨q, na, n, nr, h⟩ := h
  have h0 : RQ σ (zup τ 0 2 0) q na n nr := h.m (Fm.rf.up rfl)
  have t0 : zup τ 0 2 0 0 2 = 0 := by rw [zup_at, if_pos ⟨rfl, rfl⟩]
  unfold FX8_game
  rw [zlet_eq]
  generalize zup τ 0 2 0 = t at *
  have hR : RR σ t := ⟨q, na, n, nr, h0⟩
  have h10 := h0.2.2.1.1.1.1
  have e0 : t 3 0 = nI na := h0.2.2.1.1.1.2.2
  have z0 : ∀ {β : Type} (r : Option β), zin (ln 1 (0 + 3)) 0 r = r := fun r => zin_n (p := 0) r (by decide : 0 < 18) (by decide)
  rw [gIn2 (a := 0) (b := 3) (a' := 0) (b' := 3) rfl rfl, zbd_s]
  unfold FX7_game FX7_game_b9 FX7_game_b35
  simp only [b01_eq0]
  by_cases y1 : x < 0
  · rw [if_pos y1, decide_eq_true y1]; simp only [Bool.not_true, Bool.false_and, if_true]; exact relX_1 hR
  rw [if_neg y1, decide_eq_false y1]
  by_cases y2 : 3 < x
  · rw [if_neg (fun z => (fa_of_lt y2).2.1 z), decide_eq_true y2]; simp only [Bool.not_true, Bool.and_false, if_true]; exact relX_1 hR
  rw [if_pos (fa_of_nlt y2), decide_eq_false y2, if_neg (show ¬ (!false && !false) = false from by decide), zlet_eq, zlet_eq, zlet_eq, zlet_eq]
  have hg7 := FX7_gnG h0
  have hg8 := FX8_gnG h0
  generalize gG t (ss q σ) = G at *
  have hl : zlp (fun w : Int32 × Int32 × Int32 × Int32 × zS => FX8_game_L33 0 x w.1 w.2.1 w.2.2.1 w.2.2.2.1 w.2.2.2.2) (0, -1, -1, 0, t) = FX8_game_b130 0 x (rso G na na).1 (rso G na na).2 (if na = 0 then -1 else nI (sfs G na (na - 1))) t := by
    refine (zlp_to (fun a => ((rso G na a).1, (rso G na a).2, (if a = 0 then -1 else nI (sfs G na (a - 1))), nI a, t)) na (fun a ha => ?_)).trans (zlp_exit ?_)
    · show FX8_game_L33 0 x (rso G na a).1 (rso G na a).2 (if a = 0 then -1 else nI (sfs G na (a - 1))) (nI a) t = _
      have e : rso G na (a + 1) = rst G na a na (rso G na a) := rfl
      rw [e]
      generalize rso G na a = y
      unfold FX8_game_L33
      rw [z0, show (0 + 3 : Nat) = 3 from rfl, show (0 : Int32).toNatClampNeg = 0 from rfl, e0, if_neg (nI_ge ha (by omega)), zlet_eq, if_neg (by omega : ¬ a + 1 = 0)]
      refine gri h0 hg8 ha ?_ y
      by_cases c : a = 0
      · rw [if_pos c]; exact Or.inl ⟨rfl, c⟩
      · rw [if_neg c]; exact Or.inr ⟨by omega, rfl⟩
    · show FX8_game_L33 0 x (rso G na na).1 (rso G na na).2 (if na = 0 then -1 else nI (sfs G na (na - 1))) (nI na) t = _
      unfold FX8_game_L33
      rw [z0, show (0 + 3 : Nat) = 3 from rfl, show (0 : Int32).toNatClampNeg = 0 from rfl, e0, if_pos (nI_le (Nat.le_refl _) (by omega))]
  rw [hl]
  unfold FX8_game_b130 FX8_game_b158 FX8_game_b169
  by_cases y3 : 2 ≤ x
  · rw [if_pos y3, fsf h0 hg7, zbd_s]
    have n0 : ¬ x = 0 := fun z => by subst z; revert y3; decide
    have n1 : ¬ x = 1 := fun z => by subst z; revert y3; decide
    rw [if_neg n0, if_neg n1]
    by_cases c : na = 0
    · rw [if_pos c, if_pos c, if_pos rfl]
      by_cases c2 : x = 2
      · rw [if_pos c2]; exact relX_0 hR t0
      · rw [if_neg c2]; exact relX_0 hR t0
    · have hj := sfs_le (G := G) (na := na) (na - 1)
      rw [if_neg c, if_neg c]
      by_cases c2 : x = 2
      · rw [if_pos c2, if_pos c2]; exact relX_0 hR t0
      · rw [if_neg c2, if_neg c2, if_neg (nI_m1 (by omega)), gmb h0 hg8 (by omega), zbd_s]; exact relX_0 hR t0
  · rw [if_neg y3, fro h0 hg7, zbd_s]
    by_cases c : x = 0
    · rw [if_pos c, if_pos c]; exact relX_0 hR t0
    · have n1 : x = 1 := by
        have q0 : (0 : Int32).toInt = 0 := rfl
        have q2 : (2 : Int32).toInt = 2 := rfl
        have q1 : (1 : Int32).toInt = 1 := rfl
        rw [fa_lt] at y1
        rw [fa_le] at y3
        rw [fa_eq] at c
        rw [fa_eq]
        omega
      rw [if_neg c, if_neg c, if_pos n1]; exact relX_0 hR t0
