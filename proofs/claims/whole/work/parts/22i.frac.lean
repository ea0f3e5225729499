/-! fractions, signs -/
def frc (u l : Nat) (x : Int32) : Int32 := if l = 0 then x else if x = 0 then nI (u / Nat.gcd u l) else nI (l / Nat.gcd u l)
theorem euc {a b : Nat} (ha : a < 2 ^ 31) (h0 : 0 < b) (hb : b < 2 ^ 31) : nI a - nI a / nI b * nI b = nI (a % b) := pk_rem ha h0 hb
theorem fgcd {x0 x1 x2 : Int32} {σ : zS} : ∀ (k a b i : Nat), a < 2 ^ 31 → b < 2 ^ 31 → b < 2 ^ k → i + 2 * k ≤ 64 → zlp (fun q : Int32 × Int32 × Int32 × zS => FX7_fraction_L8 x0 x1 x2 q.1 q.2.1 q.2.2.1 q.2.2.2) (nI a, nI b, nI i, σ) = FX7_fraction_b39 x0 x1 x2 (nI (Nat.gcd a b)) σ := by
  have fin : ∀ a i : Nat, zlp (fun q : Int32 × Int32 × Int32 × zS => FX7_fraction_L8 x0 x1 x2 q.1 q.2.1 q.2.2.1 q.2.2.2) (nI a, nI 0, nI i, σ) = FX7_fraction_b39 x0 x1 x2 (nI (Nat.gcd a 0)) σ := by
    intro a i
    refine zlp_exit ?_
    show FX7_fraction_L8 x0 x1 x2 (nI a) (nI 0) (nI i) σ = _
    unfold FX7_fraction_L8
    rw [Nat.gcd_zero_right, if_pos (show nI 0 = 0 from rfl)]
    split <;> rfl
  have step : ∀ a b i : Nat, a < 2 ^ 31 → b < 2 ^ 31 → 0 < b → i < 64 → zlp (fun q : Int32 × Int32 × Int32 × zS => FX7_fraction_L8 x0 x1 x2 q.1 q.2.1 q.2.2.1 q.2.2.2) (nI a, nI b, nI i, σ) = zlp (fun q : Int32 × Int32 × Int32 × zS => FX7_fraction_L8 x0 x1 x2 q.1 q.2.1 q.2.2.1 q.2.2.2) (nI b, nI (a % b), nI (i + 1), σ) := by
    intro a b i ha hb h0 hi
    refine zlp_step ?_
    show FX7_fraction_L8 x0 x1 x2 (nI a) (nI b) (nI i) σ = _
    have hn : ¬ nI b = 0 := nI_ne0 h0 hb
    unfold FX7_fraction_L8
    rw [if_neg (show ¬ (64 : Int32) ≤ nI i from nI_ge (b := 64) hi (by decide)), if_neg hn, show (nI b != 0) = true from bne_iff_ne.mpr hn]
    simp only [zgd_t, zlet_eq, euc ha h0 hb, nI_1]
  intro k
  induction k with
  | zero => intro a b i ha hb hk hi; rw [show b = 0 from by omega]; exact fin a i
  | succ k ih =>
    intro a b i ha hb hk hi
    rcases Nat.eq_zero_or_pos b with h0 | h0
    · subst h0; exact fin a i
    · rw [step a b i ha hb h0 (by omega)]
      have hr : a % b < b := Nat.mod_lt _ h0
      rcases Nat.eq_zero_or_pos (a % b) with h1 | h1
      · rw [h1, fin b (i + 1), Nat.gcd_zero_right, ← Nat.gcd_comm b a, Nat.gcd_rec, h1, Nat.gcd_zero_left]
      · rw [step b (a % b) (i + 1) hb (by omega) h1 (by omega)]
        have hr2 : b % (a % b) < a % b := Nat.mod_lt _ h1
        have hr3 : b % (a % b) + (a % b) ≤ b := by
          have := Nat.div_add_mod b (a % b)
          have h4 : 1 ≤ b / (a % b) := (Nat.one_le_div_iff h1).mpr (by omega)
          have h5 : (a % b) * 1 ≤ (a % b) * (b / (a % b)) := Nat.mul_le_mul_left _ h4
          omega
        have hp : 2 ^ (k + 1) = 2 * 2 ^ k := by rw [Nat.pow_succ]; omega
        rw [ih (a % b) (b % (a % b)) (i + 1 + 1) (by omega) (by omega) (by omega) (by omega)]
        congr 2
        rw [Nat.gcd_comm a b, Nat.gcd_rec b a, Nat.gcd_comm (a % b) (b % (a % b)), ← Nat.gcd_rec]
theorem ffr {u l : Nat} {x : Int32} {σ : zS} (hu : u < 2 ^ 31) (hl : l < 2 ^ 31) : FX7_fraction (nI u) (nI l) x σ = some (frc u l x, σ) := by
  unfold FX7_fraction
  rw [zlet_eq, zlet_eq, zlet_eq]
  refine (fgcd 32 u l 0 hu hl (by omega) (by decide)).trans ?_
  unfold FX7_fraction_b39 FX7_fraction_b47 FX7_fraction_b58 frc
  by_cases h0 : l = 0
  · subst h0
    rw [if_pos (show nI 0 = 0 from rfl), if_pos rfl]
  · have hg : 0 < Nat.gcd u l := Nat.gcd_pos_of_pos_right u (by omega)
    have hg2 : Nat.gcd u l ≤ l := Nat.gcd_le_right u (by omega)
    have hn : ¬ nI (Nat.gcd u l) = 0 := nI_ne0 hg (by omega)
    rw [if_neg (nI_ne0 (by omega) hl), if_neg hn, if_neg h0, show (nI (Nat.gcd u l) != 0) = true from bne_iff_ne.mpr hn]
    simp only [zgd_t, pk_div hu hg (by omega : Nat.gcd u l < 2 ^ 31), pk_div hl hg (by omega : Nat.gcd u l < 2 ^ 31)]
    split <;> rfl
theorem ggcd {τ : zS} : ∀ (b a : Nat), a < 2 ^ 31 → b < 2 ^ 31 → zlp (fun q : Int32 × Int32 × zS => FX8_common_L4 q.1 q.2.1 q.2.2) (nI a, nI b, τ) = some (nI (Nat.gcd a b), τ) := by
  intro b
  induction b using Nat.strongRecOn with
  | ind b ih =>
    intro a ha hb
    rcases Nat.eq_zero_or_pos b with h0 | h0
    · subst h0
      refine zlp_end ?_
      show FX8_common_L4 (nI a) (nI 0) τ = _
      unfold FX8_common_L4 FX8_common_b21
      rw [Nat.gcd_zero_right, if_pos (show nI 0 = 0 from rfl)]
      rfl
    · have hn : ¬ nI b = 0 := nI_ne0 h0 hb
      have hr : a % b < b := Nat.mod_lt _ h0
      have : zlp (fun q : Int32 × Int32 × zS => FX8_common_L4 q.1 q.2.1 q.2.2) (nI a, nI b, τ) = zlp (fun q : Int32 × Int32 × zS => FX8_common_L4 q.1 q.2.1 q.2.2) (nI b, nI (a % b), τ) := by
        refine zlp_step ?_
        show FX8_common_L4 (nI a) (nI b) τ = _
        unfold FX8_common_L4
        rw [if_neg hn, show (nI b != 0) = true from bne_iff_ne.mpr hn]
        simp only [zgd_t, zlet_eq, euc ha h0 hb]
      rw [this, ih (a % b) hr b hb (by omega)]
      congr 3
      rw [Nat.gcd_comm a b, Nat.gcd_rec b a, Nat.gcd_comm]
theorem gpt {u l : Nat} {x : Int32} {τ : zS} (hu : u < 2 ^ 31) (hl : l < 2 ^ 31) : FX8_part (nI u) (nI l) x τ = some (frc u l x, τ) := by
  unfold FX8_part FX8_part_b25 frc
  by_cases h0 : l = 0
  · subst h0
    rw [if_pos (show nI 0 = 0 from rfl), if_pos rfl]
  · have hg : 0 < Nat.gcd u l := Nat.gcd_pos_of_pos_right u (by omega)
    have hg2 : Nat.gcd u l ≤ l := Nat.gcd_le_right u (by omega)
    have hn : ¬ nI (Nat.gcd u l) = 0 := nI_ne0 hg (by omega)
    have hc : FX8_common (nI l) (nI u) τ = some (nI (Nat.gcd u l), τ) := by
      unfold FX8_common
      rw [zlet_eq, zlet_eq]
      refine (ggcd u l hl hu).trans ?_
      rw [Nat.gcd_comm]
    rw [if_neg (nI_ne0 (by omega) hl), if_neg h0, hc, zbd_s, zlet_eq, show (nI (Nat.gcd u l) != 0) = true from bne_iff_ne.mpr hn]
    simp only [zgd_t, pk_div hu hg (by omega : Nat.gcd u l < 2 ^ 31), pk_div hl hg (by omega : Nat.gcd u l < 2 ^ 31)]
    split <;> rfl
/-- how many were told, had it, from a coat on -/
def sgT (gc : Nat → Int32) (x : Int32) (N : Nat) : Nat := fb_ct (fun i => !decide (gc i < x)) N
def sgH (gc gh : Nat → Int32) (x : Int32) (N : Nat) : Nat := fb_ct (fun i => !decide (gc i < x) && decide (gh i = 1)) N
theorem sgH_le {gc gh : Nat → Int32} {x : Int32} {N : Nat} : sgH gc gh x N ≤ sgT gc x N := fb_ct_sub (fun k _ h => by simp only [Bool.and_eq_true] at h; exact h.1)
theorem sgT_le {gc : Nat → Int32} {x : Int32} {N : Nat} : sgT gc x N ≤ N := fb_ct_le _ _
theorem ftF {σ : zS} {gc : Nat → Int32} {N : Nat} {x : Int32} (hN : N ≤ 12) (h6 : σ 6 10 = nI N) (hc : ∀ i, i < N → σ 10 i = gc i) : FX6_toldFrom 6 x σ = some (nI (sgT gc x N), σ) := by
  unfold FX6_toldFrom
  rw [zlet_eq, zlet_eq]
  refine zlp_for (fun i => (nI (sgT gc x i), nI i, σ)) N (fun i hi => ?_) ?_
  · show FX6_toldFrom_L4 6 x (nI (sgT gc x i)) (nI i) σ = some (.inl (nI (sgT gc x (i + 1)), nI (i + 1), σ))
    unfold FX6_toldFrom_L4 FX6_toldFrom_b30
    simp only [h6, if_neg (nI_ge hi (by omega : N < 2 ^ 31)), Nat.reduceAdd, fat', show ln 0 10 = 12 from rfl, rd_n (by omega : i < 12) (by decide : 12 < 2 ^ 31), zbd_s, zlet_eq, hc i hi, nI_1]
    rw [show sgT gc x (i + 1) = sgT gc x i + (if (!decide (gc i < x)) = true then 1 else 0) from rfl]
    by_cases c : gc i < x
    · rw [if_pos c, decide_eq_true c, if_neg (by decide)]; rw [Int32.add_zero]; rfl
    · rw [if_neg c, decide_eq_false c, if_pos (show (!false) = true from rfl)]
  · show FX6_toldFrom_L4 6 x (nI (sgT gc x N)) (nI N) σ = _
    unfold FX6_toldFrom_L4 FX6_toldFrom_b38
    rw [h6, if_pos (nI_le (Nat.le_refl N) (by omega))]
    rfl
theorem fhF {σ : zS} {gc gh : Nat → Int32} {N : Nat} {x : Int32} (hN : N ≤ 12) (h6 : σ 6 10 = nI N) (hc : ∀ i, i < N → σ 10 i = gc i ∧ σ 11 i = gh i ∧ (gh i = 0 ∨ gh i = 1)) : FX6_hadFrom 6 x σ = some (nI (sgH gc gh x N), σ) := by
  unfold FX6_hadFrom
  rw [zlet_eq, zlet_eq]
  refine zlp_for (fun i => (nI (sgH gc gh x i), nI i, σ)) N (fun i hi => ?_) ?_
  · show FX6_hadFrom_L4 6 x (nI (sgH gc gh x i)) (nI i) σ = some (.inl (nI (sgH gc gh x (i + 1)), nI (i + 1), σ))
    obtain ⟨k1, k2, k3⟩ := hc i hi
    unfold FX6_hadFrom_L4 FX6_hadFrom_b37
    simp only [h6, if_neg (nI_ge hi (by omega : N < 2 ^ 31)), Nat.reduceAdd, fat', show ln 0 10 = 12 from rfl, show ln 0 11 = 12 from rfl, rd_n (by omega : i < 12) (by decide : 12 < 2 ^ 31), zbd_s, zlet_eq, k1, k2, nI_1]
    rw [show sgH gc gh x (i + 1) = sgH gc gh x i + (if (!decide (gc i < x) && decide (gh i = 1)) = true then 1 else 0) from rfl]
    by_cases c : gc i < x
    · rw [if_pos c, decide_eq_true c, if_neg (by simp)]; rw [Int32.add_zero]; rfl
    · rw [if_neg c, decide_eq_false c]
      rcases k3 with z | z
      · rw [z, if_neg (by decide), Int32.add_zero]; rfl
      · rw [z, if_pos (by decide), nI_1]
  · show FX6_hadFrom_L4 6 x (nI (sgH gc gh x N)) (nI N) σ = _
    unfold FX6_hadFrom_L4 FX6_hadFrom_b45
    rw [h6, if_pos (nI_le (Nat.le_refl N) (by omega))]
    rfl
theorem gsg0 {τ : zS} {N : Nat} {x : Int32} (hN : N ≤ 12) (h6 : τ 0 36 = nI N) (hc : ∀ i, i < N → τ 30 i = 0 ∨ τ 30 i = 1) : FX8_signed 0 x 0 τ = some (nI (sgH (τ 29) (τ 30) x N), τ) := by
  unfold FX8_signed
  rw [zlet_eq, zlet_eq]
  refine zlp_for (fun i => (nI (sgH (τ 29) (τ 30) x i), nI i, τ)) N (fun i hi => ?_) ?_
  · show FX8_signed_L5 0 x 0 (nI (sgH (τ 29) (τ 30) x i)) (nI i) τ = some (.inl (nI (sgH (τ 29) (τ 30) x (i + 1)), nI (i + 1), τ))
    unfold FX8_signed_L5 FX8_signed_b45
    simp only [zlet_eq, zbd_s, zgd_t, zinr_s, Nat.zero_add, rn_3, rn_4, rn_5, rn_6, rn_7, rn_8, rn_9, rn_10, rn_11, rn_12, rn_13, rn_14, rn_15, rn_16, rn_17, rn_18, rn_19, rn_20, rn_21, rn_22, rn_23, rn_24, rn_25, rn_26, rn_27, rn_28, rn_29, rn_30, rn_31, rn_32, rn_33, rn_34, rn_35, rn_36, rn_37, rn_38, rn_39, rn_40, tn_0, tn_1, tn_2, tn_3, tn_4, tn_5, tn_6, tn_7, tn_8, zi_18_0, zi_18_1, zi_18_2, zi_18_3, zi_18_4, zi_18_5, zi_18_6, zi_18_7, zi_18_8, zi_7_0, zi_7_1, zi_7_2, zi_7_3, zi_7_4, zi_7_5, zi_7_6, zi_64_0, h6, if_neg (nI_ge hi (by omega : N < 2 ^ 31)), zin_n _ (by omega : i < 12) (by decide : 12 < 2 ^ 31), nI_clamp (by omega : i < 2 ^ 31), nI_1, if_true]
    rw [show sgH (τ 29) (τ 30) x (i + 1) = sgH (τ 29) (τ 30) x i + (if (!decide (τ 29 i < x) && decide (τ 30 i = 1)) = true then 1 else 0) from rfl]
    by_cases c : τ 29 i < x
    · rw [if_pos c, decide_eq_true c, if_neg (by simp)]; rw [Int32.add_zero]; rfl
    · rw [if_neg c, decide_eq_false c]
      rcases hc i hi with z | z
      · rw [z, if_neg (by decide), Int32.add_zero]; rfl
      · rw [z, if_pos (by decide), nI_1]
  · show FX8_signed_L5 0 x 0 (nI (sgH (τ 29) (τ 30) x N)) (nI N) τ = _
    unfold FX8_signed_L5 FX8_signed_b53
    rw [h6, if_pos (nI_le (Nat.le_refl N) (by omega))]
    rfl
theorem gsg1 {τ : zS} {N : Nat} {x : Int32} (hN : N ≤ 12) (h6 : τ 0 36 = nI N) : FX8_signed 0 x 1 τ = some (nI (sgT (τ 29) x N), τ) := by
  unfold FX8_signed
  rw [zlet_eq, zlet_eq]
  refine zlp_for (fun i => (nI (sgT (τ 29) x i), nI i, τ)) N (fun i hi => ?_) ?_
  · show FX8_signed_L5 0 x 1 (nI (sgT (τ 29) x i)) (nI i) τ = some (.inl (nI (sgT (τ 29) x (i + 1)), nI (i + 1), τ))
    unfold FX8_signed_L5 FX8_signed_b45
    simp only [zlet_eq, zbd_s, zgd_t, zinr_s, Nat.zero_add, rn_3, rn_4, rn_5, rn_6, rn_7, rn_8, rn_9, rn_10, rn_11, rn_12, rn_13, rn_14, rn_15, rn_16, rn_17, rn_18, rn_19, rn_20, rn_21, rn_22, rn_23, rn_24, rn_25, rn_26, rn_27, rn_28, rn_29, rn_30, rn_31, rn_32, rn_33, rn_34, rn_35, rn_36, rn_37, rn_38, rn_39, rn_40, tn_0, tn_1, tn_2, tn_3, tn_4, tn_5, tn_6, tn_7, tn_8, zi_18_0, zi_18_1, zi_18_2, zi_18_3, zi_18_4, zi_18_5, zi_18_6, zi_18_7, zi_18_8, zi_7_0, zi_7_1, zi_7_2, zi_7_3, zi_7_4, zi_7_5, zi_7_6, zi_64_0, h6, if_neg (nI_ge hi (by omega : N < 2 ^ 31)), zin_n _ (by omega : i < 12) (by decide : 12 < 2 ^ 31), nI_clamp (by omega : i < 2 ^ 31), nI_1, show ¬ (1 : Int32) = 0 from by decide, if_false]
    rw [show sgT (τ 29) x (i + 1) = sgT (τ 29) x i + (if (!decide (τ 29 i < x)) = true then 1 else 0) from rfl]
    by_cases c : τ 29 i < x
    · rw [if_pos c, decide_eq_true c, if_neg (by decide)]; rw [Int32.add_zero]; rfl
    · rw [if_neg c, decide_eq_false c, if_pos (show (!false) = true from rfl)]
  · show FX8_signed_L5 0 x 1 (nI (sgT (τ 29) x N)) (nI N) τ = _
    unfold FX8_signed_L5 FX8_signed_b53
    rw [h6, if_pos (nI_le (Nat.le_refl N) (by omega))]
    rfl
theorem rel_odds {σ τ : zS} (h : RR σ τ) (x y : Int32) : relX (FX7_odds 0 x y σ) (FX8_odds 0 x y τ) := by
  have h0 := h.code 0
  have hcode : zup τ 0 2 0 0 2 = 0 := by rw [zup_at, if_pos ⟨rfl, rfl⟩]
  obtain ⟨q, na, n, nr, h⟩ := h0
  obtain ⟨-, -, ⟨N, s1, s2, s3, s4⟩, -, -⟩ := id h.2.2.2.1
  unfold FX7_odds FX7_odds_b9 FX7_odds_b27 FX8_odds FX8_odds_b14 FX8_odds_b56
  simp only [zlet_eq, gIn4 (by decide : 10 < 2 ^ 31) (show (9 : Int64) = Int32.toInt64 (nI 10 - 1) from by decide), zbd_s, b01_eq0]
  generalize zup τ 0 2 0 = t at *
  have hR : RR σ t := ⟨q, na, n, nr, h⟩
  simp only [Nat.reduceAdd] at s4
  by_cases y0 : y < 0
  · rw [if_pos y0, if_pos y0]; exact relX_1 hR
  rw [if_neg y0, if_neg y0]
  by_cases y1 : y ≤ 1
  · rw [if_pos y1, if_pos y1]
    cases hx : isn x 10
    · rw [if_pos rfl]
      have : ¬ (¬ x < 0 ∧ x ≤ 9) := fun z => by rw [isn10.mp z] at hx; cases hx
      by_cases c1 : x < 0
      · rw [if_pos c1]; exact relX_2 hR
      · rw [if_neg c1, if_neg (fun z => this ⟨c1, z⟩)]; exact relX_2 hR
    · obtain ⟨c1, c2⟩ := isn10.mpr hx
      have b1 := sgT_le (gc := t 29) (x := x) (N := N)
      have b2 := sgH_le (gc := t 29) (gh := t 30) (x := x) (N := N)
      rw [if_neg c1, if_pos c2, if_neg (by decide), show (0 : Nat) + 6 = 6 from rfl, fhF s1 s2 s4, zbd_s, ftF s1 s2 (fun i hi => (s4 i hi).1), zbd_s, ffr (by omega) (by omega), zbd_s, gsg0 s1 s3 (fun i hi => (s4 i hi).2.2), zbd_s, gsg1 s1 s3, zbd_s, gpt (by omega) (by omega), zbd_s]
      exact relX_0 hR hcode
  · rw [if_neg y1, if_neg y1]; exact relX_1 hR
theorem rel_line {σ τ : zS} (h : RR σ τ) : relI (FX7_line 0 σ) (FX8_line 0 τ) := by
  have h0 := h.code 0
  obtain ⟨q, na, n, nr, h⟩ := h0
  obtain ⟨-, -, ⟨N, s1, s2, s3, s4⟩, -, -⟩ := id h.2.2.2.1
  unfold FX7_line FX8_line
  simp only [zlet_eq]
  generalize zup τ 0 2 0 = t at *
  simp only [Nat.reduceAdd] at s4
  have key : ∀ i : Nat, (nI (sgH (t 29) (t 30) (nI i) N) ≤ nI (sgT (t 29) (nI i) N) - nI (sgH (t 29) (t 30) (nI i) N)) ↔ (2 * nI (sgH (t 29) (t 30) (nI i) N) ≤ nI (sgT (t 29) (nI i) N)) := by
    intro i
    have b1 := sgT_le (gc := t 29) (x := nI i) (N := N)
    have b2 := sgH_le (gc := t 29) (gh := t 30) (x := nI i) (N := N)
    rw [pk_sub b2, show (2 : Int32) = nI 2 from rfl, pk_mul, nI_leI (by omega) (by omega), nI_leI (by omega) (by omega)]
    omega
  have c : zlp (fun q : Int32 × zS => FX7_line_L2 0 q.1 q.2) (nI 0, σ) = some (match fst0 (fun i => !decide (2 * nI (sgH (t 29) (t 30) (nI i) N) ≤ nI (sgT (t 29) (nI i) N))) 10 with | some a => (nI a, σ) | none => (-1, σ)) := by
    refine zlp_fst (fun i => (nI i, σ)) 10 (fun i => !decide (2 * nI (sgH (t 29) (t 30) (nI i) N) ≤ nI (sgT (t 29) (nI i) N))) (-1, σ) (fun i => (nI i, σ)) (fun i hi => ?_) ?_
    · show FX7_line_L2 0 (nI i) σ = _
      unfold FX7_line_L2 FX7_line_b31
      rw [if_neg (show ¬ (9 : Int32) < nI i from nI_nlt (a := 9) (by omega) (by decide)), show (0 : Nat) + 6 = 6 from rfl, fhF s1 s2 s4, zbd_s, zlet_eq, ftF s1 s2 (fun i hi => (s4 i hi).1), zbd_s, zlet_eq, nI_1]
      by_cases cc : 2 * nI (sgH (t 29) (t 30) (nI i) N) ≤ nI (sgT (t 29) (nI i) N)
      · rw [if_pos ((key i).mpr cc), decide_eq_true cc]; rfl
      · rw [if_neg (fun z => cc ((key i).mp z)), decide_eq_false cc]; rfl
    · show FX7_line_L2 0 (nI 10) σ = _
      unfold FX7_line_L2 FX7_line_b39
      rw [if_pos (by decide)]
      rfl
  have m : zlp (fun q : Int32 × zS => FX8_line_L7 0 q.1 q.2) (nI 0, t) = some (match fst0 (fun i => !decide (2 * nI (sgH (t 29) (t 30) (nI i) N) ≤ nI (sgT (t 29) (nI i) N))) 10 with | some a => (nI a, t) | none => (-1, t)) := by
    refine zlp_fst (fun i => (nI i, t)) 10 (fun i => !decide (2 * nI (sgH (t 29) (t 30) (nI i) N) ≤ nI (sgT (t 29) (nI i) N))) (-1, t) (fun i => (nI i, t)) (fun i hi => ?_) ?_
    · show FX8_line_L7 0 (nI i) t = _
      unfold FX8_line_L7 FX8_line_b30
      rw [if_neg (show ¬ (10 : Int32) ≤ nI i from nI_ge (b := 10) hi (by decide)), gsg0 s1 s3 (fun i hi => (s4 i hi).2.2), zbd_s, gsg1 s1 s3, zbd_s, zlet_eq, nI_1]
      by_cases cc : 2 * nI (sgH (t 29) (t 30) (nI i) N) ≤ nI (sgT (t 29) (nI i) N)
      · rw [if_pos cc, decide_eq_true cc]; rfl
      · rw [if_neg cc, decide_eq_false cc]; rfl
    · show FX8_line_L7 0 (nI 10) t = _
      unfold FX8_line_L7 FX8_line_b38
      rw [if_pos (by decide)]
      rfl
  have c' : zlp (fun q : Int32 × zS => FX7_line_L2 0 q.1 q.2) (0, σ) = _ := c
  have m' : zlp (fun q : Int32 × zS => FX8_line_L7 0 q.1 q.2) (0, t) = _ := m
  rw [c', m']
  cases fst0 (fun i => !decide (2 * nI (sgH (t 29) (t 30) (nI i) N) ≤ nI (sgT (t 29) (nI i) N))) 10 with
  | none => exact ⟨-1, σ, t, rfl, rfl, q, na, n, nr, h⟩
  | some a => exact ⟨nI a, σ, t, rfl, rfl, q, na, n, nr, h⟩
theorem rel_gate {σ τ : zS} (h : RR σ τ) (x1 x2 x3 x4 x5 : Int32) : relX (FX7_gate 0 x1 x2 x3 x4 x5 σ) (FX8_gate 0 x1 x2 x3 x4 x5 τ) := by
  have h0 := h.code 0
  have hcode : zup τ 0 2 0 0 2 = 0 := by rw [zup_at, if_pos ⟨rfl, rfl⟩]
  unfold FX7_gate FX7_gate_b11 FX7_gate_b61 FX8_gate FX8_gate_b16 FX8_gate_b70
  simp only [zlet_eq, gIn2 (a := 1) (b := 99) (a' := 1) (b' := 99) (by decide) (by decide), gIn2 (a := 0) (a' := 0) (b := Int32.toInt64 x2) (b' := x2) (by decide) rfl, gIn2 (a := 0) (b := 10) (a' := 0) (b' := 10) (by decide) (by decide), zbd_s, b01_eq0]
  generalize zup τ 0 2 0 = t at *
  by_cases y0 : x5 < 0
  · rw [if_pos y0, if_pos y0]; exact relX_1 h0
  rw [if_neg y0, if_neg y0]
  by_cases y1 : x5 ≤ 1
  · rw [if_pos y1, if_pos y1]
    by_cases a1 : x2 < 1
    · simp only [a1, decide_true, Bool.not_true, Bool.false_and, if_true]; exact relX_2 h0
    by_cases a2 : 99 < x2
    · simp only [a1, a2, decide_true, decide_false, Bool.not_true, Bool.not_false, Bool.and_false, if_true, if_false]; exact relX_2 h0
    by_cases a3 : x1 < 0
    · simp only [a1, a2, a3, decide_true, decide_false, Bool.not_true, Bool.not_false, Bool.and_true, Bool.false_and, if_true, if_false, Bool.true_eq_false]; exact relX_2 h0
    by_cases a4 : x2 < x1
    · simp only [a1, a2, a3, a4, decide_true, decide_false, Bool.not_true, Bool.not_false, Bool.and_true, Bool.and_false, if_true, if_false, Bool.true_eq_false]; exact relX_2 h0
    by_cases a5 : x3 < 0
    · simp only [a1, a2, a3, a4, a5, decide_true, decide_false, Bool.not_true, Bool.not_false, Bool.and_true, Bool.false_and, if_true, if_false, Bool.true_eq_false]; exact relX_2 h0
    by_cases a6 : 10 < x3
    · simp only [a1, a2, a3, a4, a5, a6, decide_true, decide_false, Bool.not_true, Bool.not_false, Bool.and_true, Bool.and_false, if_true, if_false, Bool.true_eq_false]; exact relX_2 h0
    by_cases a7 : x4 < 0
    · simp only [a1, a2, a3, a4, a5, a6, a7, decide_true, decide_false, Bool.not_true, Bool.not_false, Bool.and_true, Bool.false_and, if_true, if_false, Bool.true_eq_false]; exact relX_2 h0
    by_cases a8 : 10 < x4
    · have a8' : ¬ x4 ≤ 10 := by rw [fa_le]; rw [fa_lt] at a8; omega
      simp only [a1, a2, a3, a4, a5, a6, a7, a8, a8', decide_true, decide_false, Bool.not_true, Bool.not_false, Bool.and_true, Bool.and_false, if_true, if_false, Bool.true_eq_false]; exact relX_2 h0
    have a8' : x4 ≤ 10 := by rw [fa_le]; rw [fa_lt] at a8; omega
    obtain ⟨u1, v1, rfl⟩ := nI_of a3
    obtain ⟨u3, v3, rfl⟩ := nI_of a5
    obtain ⟨u4, v4, rfl⟩ := nI_of a7
    have a0 : ¬ x2 < 0 := fun z => a1 (by rw [fa_lt] at *; have e1 : (0 : Int32).toInt = 0 := rfl; have e2 : (1 : Int32).toInt = 1 := rfl; omega)
    obtain ⟨u2, v2, rfl⟩ := nI_of a0
    have w2 : u2 ≤ 99 := by rcases Nat.lt_or_ge 99 u2 with z | z; exact absurd (nI_lt (a := 99) z v2) a2; exact z
    have w1 : u1 ≤ u2 := by rcases Nat.lt_or_ge u2 u1 with z | z; exact absurd (nI_lt z v1) a4; exact z
    have w3 : u3 ≤ 10 := by rcases Nat.lt_or_ge 10 u3 with z | z; exact absurd (nI_lt (a := 10) z v3) a6; exact z
    have w4 : u4 ≤ 10 := by rcases Nat.lt_or_ge 10 u4 with z | z; exact absurd (nI_lt (a := 10) z v4) a8; exact z
    have e1 : u1 * u3 ≤ 99 * 10 := Nat.mul_le_mul (by omega) w3
    have e2 : (u2 - u1) * u4 ≤ 99 * 10 := Nat.mul_le_mul (by omega) w4
    simp only [a1, a2, a3, a4, a5, a6, a7, a8, a8', decide_false, Bool.not_false, Bool.and_true, if_true, if_false, Bool.true_eq_false, pk_sub w1, pk_mul, nI_add, ffr (by omega : u1 * u3 < 2 ^ 31) (by omega : u1 * u3 + (u2 - u1) * u4 < 2 ^ 31), gpt (by omega : u1 * u3 < 2 ^ 31) (by omega : u1 * u3 + (u2 - u1) * u4 < 2 ^ 31), zbd_s]
    exact relX_0 h0 hcode
  · rw [if_neg y1, if_neg y1]; exact relX_1 h0
