/-! an EXPR on both sides -/
def eP (f : Nat → Int32) (n qt : Nat) (s0 t0 : zS) (D : Nat) (v : Nat → Nat) (d : Int32) (p ns : Nat) (s s' t' : zS) : Prop := (∃ p' ns', sA f n qt s0 t0 v d p' ns' s' t' ∧ ns' + tB f n p ≤ ns + tB f n p' ∧ tB f n p < tB f n p' ∧ seg (s' (qt + 16)) ns ns' D ∧ ∀ i, i < ns → s' (qt + 16) i = s (qt + 16) i) ∨ sB f n qt s0 t0 s' t'
def eR (f : Nat → Int32) (n qt : Nat) (s0 t0 : zS) (D : Nat) (c m : zS → Option (Int32 × zS)) : Prop := ∀ v d p ns s t, sA f n qt s0 t0 v d p ns s t → ∃ r s' b t', c s = some (r, s') ∧ m t = some (b, t') ∧ eP f n qt s0 t0 D v d p ns s s' t'
theorem m8_n {x : Nat} (h : x < 2 ^ 31) : (-8 : Int32) < nI x := by
  rw [fa_lt, nI_toInt h]
  have : (-8 : Int32).toInt = -8 := rfl
  omega
theorem fstI_v {w : Nat → Bool} : ∀ m i, fstI w m i = -1 ∨ ∃ j, i ≤ j ∧ j < i + m ∧ w j = true ∧ fstI w m i = nI j := by
  intro m
  induction m with
  | zero => intro i; exact Or.inl rfl
  | succ m ih =>
    intro i
    show (if w i = true then nI i else fstI w m (i + 1)) = -1 ∨ _
    by_cases c : w i = true
    · exact Or.inr ⟨i, Nat.le_refl i, by omega, c, if_pos c⟩
    · rw [if_neg c]
      rcases ih (i + 1) with h | ⟨j, h1, h2, h3, h4⟩
      · exact Or.inl h
      · exact Or.inr ⟨j, by omega, by omega, h3, by show (if w i = true then nI i else fstI w m (i + 1)) = nI j; rw [if_neg c]; exact h4⟩
theorem val_sg : ∀ j, j < 7 → (-8 : Int32) < -1 - nI j ∧ ¬ nI j = -1 := by decide +kernel
section
variable {f : Nat → Int32} {n qt : Nat} {s0 t0 : zS}
theorem gEx0 {k : Nat} {x y : Int32} {t : zS} (hk : 1 ≤ k) (h0 : ¬ t 0 25 = 0) : FGY k 0 0 x y t = some (0, t) := by
  obtain ⟨k, rfl⟩ : ∃ j, k = j + 1 := ⟨k - 1, by omega⟩
  show FX8_readExpression (FGY k) 0 x t = _
  unfold FX8_readExpression
  rw [if_neg h0]
theorem gPa0 {k : Nat} {x y : Int32} {t : zS} (hk : 1 ≤ k) (h0 : ¬ t 0 25 = 0) : FGY k 5 0 x y t = some (0, t) := by
  obtain ⟨k, rfl⟩ : ∃ j, k = j + 1 := ⟨k - 1, by omega⟩
  show FX8_readPart (FGY k) 0 x t = _
  unfold FX8_readPart
  rw [if_neg h0]
theorem gPr0 {k : Nat} {x y : Int32} {t : zS} (hk : 2 ≤ k) (h0 : ¬ t 0 25 = 0) : FGY k 4 0 x y t = some (0, t) := by
  obtain ⟨k, rfl⟩ : ∃ j, k = j + 1 := ⟨k - 1, by omega⟩
  show FX8_readProduct (FGY k) 0 x t = _
  unfold FX8_readProduct
  rw [gPa0 (by omega) h0, zbd_s]
  refine zlp_end ?_
  show FX8_readProduct_L5 (FGY k) 0 x t = _
  unfold FX8_readProduct_L5 FX8_readProduct_b57
  rw [gSg0 h0, zbd_s, if_pos rfl, gSg0 h0, zbd_s, if_pos rfl]
  rfl
theorem gSu0 {k : Nat} {x y : Int32} {t : zS} (hk : 3 ≤ k) (h0 : ¬ t 0 25 = 0) : FGY k 3 0 x y t = some (0, t) := by
  obtain ⟨k, rfl⟩ : ∃ j, k = j + 1 := ⟨k - 1, by omega⟩
  show FX8_readSum (FGY k) 0 x t = _
  unfold FX8_readSum
  rw [gPr0 (by omega) h0, zbd_s]
  refine zlp_end ?_
  show FX8_readSum_L5 (FGY k) 0 x t = _
  unfold FX8_readSum_L5 FX8_readSum_b57
  rw [gSg0 h0, zbd_s, if_pos rfl, gSg0 h0, zbd_s, if_pos rfl]
  rfl
theorem gNl0 {G : zGr} {N : Nat} {t : zS} (hN : N < 2 ^ 31) (h0 : ¬ t 0 25 = 0) : FX8_readNot_b94 G 0 (nI N) t = some (0, t) := by
  unfold FX8_readNot_b94
  rw [zlet_eq]
  refine zlp_for (fun i => (nI i, t)) N (fun i hi => ?_) ?_
  · show FX8_readNot_L96 G 0 (nI N) (nI i) t = _
    unfold FX8_readNot_L96
    rw [if_neg (nI_ge hi hN), gPs0 h0, zbd_s, zlet_eq, nI_1]
  · show FX8_readNot_L96 G 0 (nI N) (nI N) t = _
    unfold FX8_readNot_L96 FX8_readNot_b113
    rw [if_pos (nI_le (Nat.le_refl N) hN)]
    rfl
theorem gNt0 {k : Nat} {x : Int32} {c : Nat} {t : zS} (hk : 3 ≤ k) (hc : c < 2 ^ 31) (h0 : ¬ t 0 25 = 0) : zlp (fun q : Int32 × zS => FX8_readNot_L2 (FGY k) 0 x q.1 q.2) (nI c, t) = some (0, t) := by
  refine zlp_end ?_
  show FX8_readNot_L2 (FGY k) 0 x (nI c) t = _
  unfold FX8_readNot_L2 FX8_readNot_b40
  rw [gWd0 h0, zbd_s, if_pos rfl, gSu0 hk h0, zbd_s, gSg0 h0, zbd_s, if_pos rfl, gSg0 h0, zbd_s, if_pos rfl, gNl0 hc h0]
  rfl
theorem gNo0 {k : Nat} {x y : Int32} {t : zS} (hk : 4 ≤ k) (h0 : ¬ t 0 25 = 0) : FGY k 2 0 x y t = some (0, t) := by
  obtain ⟨k, rfl⟩ : ∃ j, k = j + 1 := ⟨k - 1, by omega⟩
  show FX8_readNot (FGY k) 0 x t = _
  unfold FX8_readNot
  rw [zlet_eq]
  exact gNt0 (c := 0) (by omega) (by decide) h0
theorem gAd0 {k : Nat} {x y : Int32} {t : zS} (hk : 5 ≤ k) (h0 : ¬ t 0 25 = 0) : FGY k 1 0 x y t = some (0, t) := by
  obtain ⟨k, rfl⟩ : ∃ j, k = j + 1 := ⟨k - 1, by omega⟩
  show FX8_readAnd (FGY k) 0 x t = _
  unfold FX8_readAnd
  rw [gNo0 (by omega) h0, zbd_s]
  refine zlp_end ?_
  show FX8_readAnd_L5 (FGY k) 0 x t = _
  unfold FX8_readAnd_L5 FX8_readAnd_b33
  rw [gWd0 h0, zbd_s, if_pos rfl]
  rfl
/-- a sign put behind an expression's part -/
theorem upd_o {F : Nat → Int32} {i j : Nat} {x : Int32} (h : j ≠ i) : upd F i x j = F j := pk_un h
theorem upd_i {F : Nat → Int32} {i : Nat} {x : Int32} : upd F i x i = x := pk_us
theorem e_Part (he : en f n qt s0 t0) {w a b D : Nat} (ih : eR f n qt s0 t0 D (fun s => FGX a 0 4 (nI (w + 1)) 0 s) (fun t => FGY b 0 0 (nI (w + 1)) 0 t)) (hk : kFl f n qt s0 (fun s => FGX a 0 4 (nI (w + 1)) 0 s)) (hb : 1 ≤ b) : eR f n qt s0 t0 D (fun s => FGX (a + 1) 6 4 (nI w) 0 s) (fun t => FGY (b + 1) 5 0 (nI w) 0 t) := by
  intro v d p ns s t h
  obtain ⟨n7, hq, -⟩ := id he
  have hp := h.1.2.2.2.1
  have hE := tE_b (f := f) hp
  have hB2 := tB_b (f := f) hE.2
  have h7 := h.2.2.2.2.2.2
  show ∃ r s' b' t', FX3_readPart (FGX a) 4 (nI w) s = some (r, s') ∧ FX8_readPart (FGY b) 0 (nI w) t = some (b', t') ∧ eP f n qt s0 t0 D v d p ns s s' t'
  unfold FX3_readPart FX3_readPart_b82 FX8_readPart FX8_readPart_b56 FX8_readPart_b74
  rw [if_pos h.2.2.2.1]
  by_cases e2 : tK f n p = 2
  · have hB1 := tK_b hp (by omega : tK f n p ≠ 0)
    rw [if_pos (show s 4 3 = 2 from (h.k3 2 (by decide)).mpr e2), if_pos (show t 0 21 = 2 from (h.m3 2 (by decide)).mpr (tJ_2.mpr e2)), h.1.ptr hq]
    rcases h.num he (lo := 0) (hi := 9999) (by decide) (by decide) with ⟨x, s1, t1, -, hx, c1, c2, -, A1, fs, ft⟩ | ⟨x, s1, t1, c1, c2, B1⟩
    · obtain ⟨s2, t2, g1, g2, g3, g4, g5, g6⟩ := A1.add he (x := nI x) (y := nI x) (Or.inl ⟨rfl, m8_n (by omega)⟩) (by omega)
      rw [show FX3_readNumber 4 0 9999 s = _ from c1, show FX8_readNumber 0 0 9999 t = _ from c2, zbd_s, zbd_s, g1, g2, zbd_s, zbd_s]
      refine ⟨_, s2, _, t2, rfl, rfl, Or.inl ⟨_, _, g3, by omega, by omega, seg.one (by rw [g4, upd_i]; exact m8_n (by omega)), fun i hi => ?_⟩⟩
      rw [g4, upd_o (by omega), fs (qt + 16) i (by omega)]
    · obtain ⟨r, s2, g1, B2⟩ := B1.go (k_add he (x := fun _ => x))
      rw [show FX3_readNumber 4 0 9999 s = _ from c1, show FX8_readNumber 0 0 9999 t = _ from c2, zbd_s, zbd_s, show FX4_add (qt + 14) x s1 = _ from g1, zbd_s, gPs0 B2.b, zbd_s]
      exact ⟨_, s2, _, t1, rfl, rfl, Or.inr B2⟩
  rw [if_neg (show ¬ s 4 3 = 2 from fun z => e2 ((h.k3 2 (by decide)).mp z)), if_neg (show ¬ t 0 21 = 2 from fun z => e2 (tJ_2.mp ((h.m3 2 (by decide)).mp z)))]
  by_cases e1 : tK f n p = 1
  · have hB1 := tK_b hp (by omega : tK f n p ≠ 0)
    rw [if_pos (show s 4 3 = 1 from (h.k3 1 (by decide)).mpr e1), if_pos (show t 0 21 = 1 from (h.m3 1 (by decide)).mpr (tJ_1.mpr e1)), fVa he h.1, zbd_s, gVa he h.2.1 h.2.2.2.1, zbd_s, zlet_eq]
    unfold FX3_readValue FX3_readValue_b30
    rcases fstI_v (w := fun j => tW f n p (14 + j)) 7 0 with hv | ⟨j, -, hj, -, hv⟩
    · have hv : tVa f n p = -1 := hv
      obtain ⟨s1, t1, g1, g2, B1⟩ := h.fail (k := 3) (by decide)
      rw [hv, if_pos rfl, if_pos rfl, g1, zbd_s, zbd_s, g2, zbd_s, gPs0 B1.b, zbd_s, if_neg B1.b]
      exact ⟨_, s1, _, t1, rfl, rfl, Or.inr B1⟩
    · have hv : tVa f n p = nI j := hv
      obtain ⟨j1, j2⟩ := val_sg j (by omega)
      obtain ⟨s1, t1, g1, g2, g3, g4, g5, g6⟩ := h.z.add he (x := -1 - nI j) (y := -1 - nI j) (Or.inl ⟨rfl, j1⟩) (by omega)
      obtain ⟨s2, t2, k1, k2, k3, k4, k5⟩ := g3.tok he
      rw [hv, if_neg j2, if_neg j2, h.1.ptr hq, g1, zbd_s, k1, zbd_s, zbd_s, g2, zbd_s, if_pos g3.2.2.2.1, k2, zbd_s]
      refine ⟨_, s2, _, t2, rfl, rfl, Or.inl ⟨_, _, k3.a (by omega), by omega, by omega, seg.one ?_, fun i hi => ?_⟩⟩
      · rw [k4 (qt + 16) ns (by omega), g4, upd_i]; exact j1
      · rw [k4 (qt + 16) i (by omega), g4, upd_o (by omega)]
  rw [if_neg (show ¬ s 4 3 = 1 from fun z => e1 ((h.k3 1 (by decide)).mp z)), if_neg (show ¬ t 0 21 = 1 from fun z => e1 (tJ_1.mp ((h.m3 1 (by decide)).mp z))), fSg h.1, zbd_s]
  unfold FX8_mark FX8_mark_b20 FX8_mark_b31
  rw [if_pos h.2.2.2.1, gSg he h.2.1 h.2.2.2.1 (by decide), zbd_s]
  cases e3 : tS f n p 40
  · obtain ⟨s1, t1, g1, g2, B1⟩ := h.fail (k := 1) (by decide)
    rw [b01_f, if_pos rfl, if_pos rfl, g1, zbd_s, g2, zbd_s, if_neg B1.b, zbd_s, gEx0 hb B1.b, zbd_s, if_neg B1.b, if_neg B1.b, zbd_s]
    exact ⟨_, s1, _, t1, rfl, rfl, Or.inr B1⟩
  · have e3' : tK f n p = 3 := by
      unfold tS at e3
      rw [Bool.and_eq_true, decide_eq_true_iff] at e3
      exact e3.1
    have hB1 := tK_b hp (by omega : tK f n p ≠ 0)
    obtain ⟨s1, t1, g1, g2, A1, g4, g5⟩ := h.tok he
    rw [b01_t, if_neg (by decide), if_neg (by decide), if_pos h.2.2.2.1, g1, zbd_s, g2, zbd_s, zbd_s, nI_1]
    obtain ⟨r2, s2, b2, t2, c1, c2, hP⟩ := ih v d _ ns s1 t1 A1
    rw [show FGX a 0 4 (nI (w + 1)) 0 s1 = _ from c1, zbd_s, show FGY b 0 0 (nI (w + 1)) 0 t1 = _ from c2, zbd_s]
    rcases hP with ⟨p2, ns2, A2, q1, q2, q3, q4⟩ | B2
    · have h22 := A2.1.2.2.2.1
      have hE2 := tE_b (f := f) h22
      have hBB := tB_b (f := f) hE2.2
      unfold FX3_readSign FX3_readSign_b20
      rw [fSg A2.1, zbd_s, if_pos A2.2.2.2.1, gSg he A2.2.1 A2.2.2.2.1 (by decide), zbd_s]
      cases e4 : tS f n p2 41
      · obtain ⟨s3, t3, k1, k2, B3⟩ := A2.fail (k := 1) (by decide)
        rw [b01_f, if_pos rfl, if_pos rfl, k1, zbd_s, zbd_s, k2, zbd_s, if_neg B3.b, zbd_s]
        exact ⟨_, s3, _, t3, rfl, rfl, Or.inr B3⟩
      · obtain ⟨s3, t3, k1, k2, A3, k4, k5⟩ := A2.tok he
        rw [b01_t, if_neg (by decide), if_neg (by decide), if_pos A2.2.2.2.1, k1, zbd_s, zbd_s, k2, zbd_s, zbd_s]
        refine ⟨_, s3, _, t3, rfl, rfl, Or.inl ⟨_, ns2, A3, by omega, by omega, q3.cg (fun i _ _ => (k4 (qt + 16) i (by omega)).symm), fun i hi => ?_⟩⟩
        rw [k4 (qt + 16) i (by omega), q4 i hi, g4 (qt + 16) i (by omega)]
    · obtain ⟨r3, s3, k1, B3⟩ := B2.go (k_rsig he (c := 41))
      rw [show FX3_readSign 4 41 s2 = _ from k1, zbd_s, if_neg B3.b, if_neg B3.b, zbd_s]
      exact ⟨_, s3, _, t2, rfl, rfl, Or.inr B3⟩
end
