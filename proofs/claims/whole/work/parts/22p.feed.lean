/-! the tape -/
theorem RQ.tape {σ σ' τ τ' : zS} {q na n nr : Nat} (h : RQ σ τ q na n nr) (f : ∀ k j, ¬ (k = 0 ∧ j = 0) → k ≠ 5 → σ' k j = σ k j) (g : ∀ k j, ¬ (k = 0 ∧ (j = 2 ∨ j = 18)) → k ≠ 17 → τ' k j = τ k j) (hT : rTp σ' τ') : RQ σ' τ' q na n nr := by
  obtain ⟨-, h2, h3, h4, h5, h6, h7⟩ := h
  have f0 : ∀ j, j ≠ 0 → σ' 0 j = σ 0 j := fun j hj => f 0 j (by omega) (by omega)
  have fr : ∀ k, k ≠ 0 → k ≠ 5 → σ' k = σ k := fun k h0 hk => funext fun j => f k j (by omega) hk
  have hq := h2.1
  have fs : ss q σ' = ss q σ := by
    funext i j
    unfold ss
    split
    · rfl
    · exact f _ _ (by omega) (by omega)
  have g0 : ∀ j, (j ≠ 2 ∧ j ≠ 18) → τ' 0 j = τ 0 j := fun j hj => g 0 j (by omega) (by omega)
  have gr : ∀ k, k ≠ 0 → k ≠ 17 → τ' k = τ k := fun k k0 k1 => funext fun j => g k j (by omega) k1
  refine ⟨hT, ?_, ?_, ?_, ?_, ?_, ?_⟩
  · unfold rPt at *
    rw [f0 2 (by decide), fr 4 (by decide) (by decide)]
    exact h2
  · rw [fs]
    unfold rSh rS rP rF rR at *
    rw [gr 3 (by decide) (by decide), gr 4 (by decide) (by decide), gr 6 (by decide) (by decide), gr 8 (by decide) (by decide), gr 9 (by decide) (by decide), gr 10 (by decide) (by decide), gr 11 (by decide) (by decide), gr 12 (by decide) (by decide), gr 13 (by decide) (by decide), gr 14 (by decide) (by decide), gr 15 (by decide) (by decide), gr 18 (by decide) (by decide)]
    exact h3
  · unfold rNw at *
    have hh := h4.x (σ' := σ') (fun i hi => fr _ (by omega) (by omega))
    have e0 : ∀ j, 29 ≤ j → j ≤ 37 → τ' 0 j = τ 0 j := fun j a b => g0 j (by omega)
    exact hh.cp h3.1.1.1 (fun _ _ => rfl) (fun _ _ => rfl) (fun _ _ => rfl) (fun _ _ => rfl) (fun _ _ => rfl) (fun _ _ => rfl) (fun _ _ => rfl) (fun _ _ => rfl) (fun _ _ => rfl) (fun i hi => e0 _ (by omega) (by omega)) (fun a _ => by rw [gr 7 (by decide) (by decide)]) (fun a _ => by rw [gr 5 (by decide) (by decide)]) (e0 35 (by decide) (by decide)) (fun a _ => by rw [gr 19 (by decide) (by decide)]) (e0 36 (by decide) (by decide)) (fun a _ => by rw [gr 29 (by decide) (by decide)]) (fun a _ => by rw [gr 30 (by decide) (by decide)]) (e0 37 (by decide) (by decide)) (fun a _ => by rw [gr 31 (by decide) (by decide)]) (fun a _ => by rw [gr 32 (by decide) (by decide)]) (fun a _ => by rw [gr 16 (by decide) (by decide)])
  · unfold rPi at *
    rw [f0 6 (by decide), g0 72 (by decide), g0 73 (by decide), g0 74 (by decide), g0 75 (by decide), gr 34 (by decide) (by decide), gr 35 (by decide) (by decide), gr 36 (by decide) (by decide), gr 37 (by decide) (by decide), gr 38 (by decide) (by decide), gr 39 (by decide) (by decide), gr 40 (by decide) (by decide)]
    exact h5.imp id (fun ⟨a, b, c⟩ => ⟨a, b, c.x (fun i hi => fr _ (by omega) (by omega))⟩)
  · exact h6.x hq (f0 9 (by decide)) fs (fun j hj => by rw [fr 6 (by decide) (by decide)]) (fr 7 (by decide) (by decide)) (fr 8 (by decide) (by decide)) (fun k k1 k2 => fr _ (by omega) (by omega))
  · unfold rLd at *
    rw [f0 12 (by decide), fr 2 (by decide) (by decide), g0 65 (by decide), gr 28 (by decide) (by decide)]
    exact h7
theorem zgd_n40 {β : Type} (r : Option β) : zgd ((4 : Nat) != 0) r = r := Eq.trans rfl rfl
def byt (x : Int32) (i : Nat) : Int32 := (x >>> (nI (24 - 8 * i) &&& 31)) &&& 255
theorem ftb1 {x y : Int32} {s : zS} {p : Nat} (hp : p < 700) (h : s 0 0 = nI p) (hy : ¬ y < 0) : FX7_tellBytes_L3 0 x y s = some (.inl (y + (-8), zup (zup s 5 p ((x >>> (y &&& 31)) &&& 255)) 0 0 (nI (p + 1)))) := by
  unfold FX7_tellBytes_L3
  rw [if_neg hy, show (0 + 4 + 1 : Nat) = 5 from rfl, h, fput', show ln 0 5 = 700 from rfl, pt_n hp (by decide), zbd_s, zlet_eq, zlet_eq, zup_n (by decide : 0 ≠ 5), h, nI_1]
theorem ftb {x : Int32} {σ : zS} {f : Nat} (hf : f + 4 ≤ 700) (h : σ 0 0 = nI f) : ∃ σ', FX7_tellBytes 0 x σ = some (0, σ') ∧ σ' 0 0 = nI (f + 4) ∧ (∀ k j, ¬ (k = 0 ∧ j = 0) → k ≠ 5 → σ' k j = σ k j) ∧ (∀ i, i < 4 → σ' 5 (f + i) = byt x i) ∧ ∀ j, (j < f ∨ f + 4 ≤ j) → σ' 5 j = σ 5 j := by
  unfold FX7_tellBytes
  rw [zlet_eq]
  refine ⟨zup (zup (zup (zup (zup (zup (zup (zup σ 5 f (byt x 0)) 0 0 (nI (f + 1))) 5 (f + 1) (byt x 1)) 0 0 (nI (f + 2))) 5 (f + 2) (byt x 2)) 0 0 (nI (f + 3))) 5 (f + 3) (byt x 3)) 0 0 (nI (f + 4)), ?_, by rw [zup_at, if_pos ⟨rfl, rfl⟩], fun k j k1 k2 => ?_, fun i hi => ?_, fun j hj => ?_⟩
  · refine (zlp_step (a' := (16, _)) (show FX7_tellBytes_L3 0 x 24 σ = _ from ftb1 (by omega) h (by decide))).trans ?_
    refine (zlp_step (a' := (8, _)) (show FX7_tellBytes_L3 0 x 16 (zup (zup σ 5 f (byt x 0)) 0 0 (nI (f + 1))) = _ from ftb1 (p := f + 1) (by omega) (by rw [zup_at, if_pos ⟨rfl, rfl⟩]) (by decide))).trans ?_
    refine (zlp_step (a' := (0, _)) (show FX7_tellBytes_L3 0 x 8 (zup (zup (zup (zup σ 5 f (byt x 0)) 0 0 (nI (f + 1))) 5 (f + 1) (byt x 1)) 0 0 (nI (f + 2))) = _ from ftb1 (p := f + 2) (by omega) (by rw [zup_at, if_pos ⟨rfl, rfl⟩]) (by decide))).trans ?_
    refine (zlp_step (a' := (-8, _)) (show FX7_tellBytes_L3 0 x 0 (zup (zup (zup (zup (zup (zup σ 5 f (byt x 0)) 0 0 (nI (f + 1))) 5 (f + 1) (byt x 1)) 0 0 (nI (f + 2))) 5 (f + 2) (byt x 2)) 0 0 (nI (f + 3))) = _ from ftb1 (p := f + 3) (by omega) (by rw [zup_at, if_pos ⟨rfl, rfl⟩]) (by decide))).trans ?_
    refine zlp_end ?_
    show FX7_tellBytes_L3 0 x (-8) _ = _
    unfold FX7_tellBytes_L3 FX7_tellBytes_b44
    rw [if_pos (by decide)]
    rfl
  · rw [zup_at, if_neg k1, zup_n k2, zup_at, if_neg k1, zup_n k2, zup_at, if_neg k1, zup_n k2, zup_at, if_neg k1, zup_n k2]
  · rcases (by omega : i = 0 ∨ i = 1 ∨ i = 2 ∨ i = 3) with z | z | z | z <;> subst z <;> simp [zup_at]
  · simp [zup_at, show j ≠ f from by omega, show j ≠ f + 1 from by omega, show j ≠ f + 2 from by omega, show j ≠ f + 3 from by omega]
def xs5 (x1 x2 x3 x4 x5 : Int32) (k : Nat) : Int32 := if k = 0 then x1 else if k = 1 then x2 else if k = 2 then x3 else if k = 3 then x4 else x5
theorem gfd1 {x1 x2 x3 x4 x5 : Int32} {t : zS} {p i : Nat} (hp : p < 700) (h : t 0 18 = nI p) (hi : i < 20) : FX8_feed_L23 0 x1 x2 x3 x4 x5 (nI i) t = some (.inl (nI (i + 1), zup (zup t 17 p (byt (xs5 x1 x2 x3 x4 x5 (i / 4)) (i % 4))) 0 18 (nI (p + 1)))) := by
  have key : ∀ y, FX8_feed_b76 0 x1 x2 x3 x4 x5 (nI i) y t = some (.inl (nI (i + 1), zup (zup t 17 p (byt y (i % 4))) 0 18 (nI (p + 1)))) := by
    intro y
    have e : (24 : Int32) - 8 * (nI i - nI i / 4 * 4) = nI (24 - 8 * (i % 4)) := (by decide +kernel : ∀ i, i < 20 → (24 : Int32) - 8 * (nI i - nI i / 4 * 4) = nI (24 - 8 * (i % 4))) i hi
    unfold FX8_feed_b76 byt
    rw [zlet_eq, zgd_n40]
    rw [h, show (0 + 17 : Nat) = 17 from rfl, show ln 1 17 = 700 from rfl, zin_n _ hp (by decide : 700 < 2 ^ 31), zlet_eq, zlet_eq, zlet_eq, nI_clamp (by omega : p < 2 ^ 31), zup_n (by decide : 0 ≠ 17), h, nI_1, nI_1, e]
  unfold FX8_feed_L23 xs5
  rw [if_neg (show ¬ (20 : Int32) ≤ nI i from nI_ge (b := 20) hi (by decide))]
  by_cases a4 : i < 4
  · rw [if_neg (show ¬ (4 : Int32) ≤ nI i from nI_ge (b := 4) a4 (by decide)), key, if_pos (by omega)]
  rw [if_pos (show (4 : Int32) ≤ nI i from nI_le (a := 4) (by omega) (by omega)), if_neg (by omega : ¬ i / 4 = 0)]
  by_cases a8 : i < 8
  · rw [if_neg (show ¬ (8 : Int32) ≤ nI i from nI_ge (b := 8) a8 (by decide)), key, if_pos (by omega)]
  rw [if_pos (show (8 : Int32) ≤ nI i from nI_le (a := 8) (by omega) (by omega)), if_neg (by omega : ¬ i / 4 = 1)]
  by_cases a12 : i < 12
  · rw [if_neg (show ¬ (12 : Int32) ≤ nI i from nI_ge (b := 12) a12 (by decide)), key, if_pos (by omega)]
  rw [if_pos (show (12 : Int32) ≤ nI i from nI_le (a := 12) (by omega) (by omega)), if_neg (by omega : ¬ i / 4 = 2)]
  by_cases a16 : i < 16
  · rw [if_neg (show ¬ (16 : Int32) ≤ nI i from nI_ge (b := 16) a16 (by decide)), key, if_pos (by omega)]
  rw [if_pos (show (16 : Int32) ≤ nI i from nI_le (a := 16) (by omega) (by omega)), if_neg (by omega : ¬ i / 4 = 3), key]
theorem byt_m1 {x : Int32} {i : Nat} : ¬ byt x i = -1 := by
  intro h
  have e : bt (byt x i) 31 = true := by rw [h]; exact b_m1 31 (by decide)
  unfold byt at e
  rw [b_and, b_255, decide_eq_false (by decide), Bool.and_false] at e
  cases e
theorem rel_feed {σ τ : zS} (h : RR σ τ) (x1 x2 x3 x4 x5 : Int32) : relI (FX7_feed 0 x1 x2 x3 x4 x5 σ) (FX8_feed 0 x1 x2 x3 x4 x5 τ) := by
  have h0 := h.code 0
  obtain ⟨q, na, n, nr, h⟩ := h0
  unfold FX7_feed FX8_feed
  rw [zlet_eq]
  generalize zup τ 0 2 0 = t at *
  obtain ⟨⟨f, f1, f2, f3⟩, f4, f5⟩ := id h.1
  rw [f2, f3]
  by_cases c : ¬ nI f + 20 ≤ 700
  · rw [if_neg c, if_neg c]
    exact ⟨-1, _, _, rfl, rfl, q, na, n, nr, h⟩
  have c := Decidable.not_not.mp c
  rw [if_pos c, if_pos c]
  have hf : f + 20 ≤ 700 := by
    rw [show nI f + 20 = nI (f + 20) from nI_add f 20] at c
    exact (nI_leI (by omega) (by decide : 700 < 2 ^ 31)).mp c
  obtain ⟨s1, a1, b1, c1, d1, e1⟩ := ftb (x := x1) (by omega : f + 4 ≤ 700) f2
  obtain ⟨s2, a2, b2, c2, d2, e2⟩ := ftb (x := x2) (by omega : f + 4 + 4 ≤ 700) b1
  obtain ⟨s3, a3, b3, c3, d3, e3⟩ := ftb (x := x3) (by omega : f + 4 + 4 + 4 ≤ 700) b2
  obtain ⟨s4, a4, b4, c4, d4, e4⟩ := ftb (x := x4) (by omega : f + 4 + 4 + 4 + 4 ≤ 700) b3
  obtain ⟨s5, a5, b5, c5, d5, e5⟩ := ftb (x := x5) (by omega : f + 4 + 4 + 4 + 4 + 4 ≤ 700) b4
  rw [a1, zbd_s, a2, zbd_s, a3, zbd_s, a4, zbd_s, a5, zbd_s, zlet_eq, b5]
  have hs : ∀ (i : Nat) (w : Int32 × zS), i < 20 → (w.1 = nI i ∧ w.2 0 18 = nI (f + i) ∧ (∀ k j, ¬ (k = 0 ∧ j = 18) → k ≠ 17 → w.2 k j = t k j) ∧ (∀ j, j < i → w.2 17 (f + j) = byt (xs5 x1 x2 x3 x4 x5 (j / 4)) (j % 4)) ∧ ∀ j, (j < f ∨ f + i ≤ j) → w.2 17 j = t 17 j) → ∃ w', FX8_feed_L23 0 x1 x2 x3 x4 x5 w.1 w.2 = some (.inl w') ∧ (w'.1 = nI (i + 1) ∧ w'.2 0 18 = nI (f + (i + 1)) ∧ (∀ k j, ¬ (k = 0 ∧ j = 18) → k ≠ 17 → w'.2 k j = t k j) ∧ (∀ j, j < i + 1 → w'.2 17 (f + j) = byt (xs5 x1 x2 x3 x4 x5 (j / 4)) (j % 4)) ∧ ∀ j, (j < f ∨ f + (i + 1) ≤ j) → w'.2 17 j = t 17 j) := by
    intro i w hi ⟨q1, q2, q3, q4, q5⟩
    obtain ⟨x, u⟩ := w
    simp only at q1 q2 q3 q4 q5
    subst q1
    refine ⟨_, gfd1 (by omega) q2 hi, rfl, ?_, fun k j k1 k2 => ?_, fun j hj => ?_, fun j hj => ?_⟩
    · show zup (zup u 17 (f + i) (byt (xs5 x1 x2 x3 x4 x5 (i / 4)) (i % 4))) 0 18 (nI (f + i + 1)) 0 18 = _
      rw [zup_at, if_pos ⟨rfl, rfl⟩, Nat.add_assoc]
    · show zup (zup u 17 (f + i) (byt (xs5 x1 x2 x3 x4 x5 (i / 4)) (i % 4))) 0 18 (nI (f + i + 1)) k j = _
      rw [zup_at, if_neg k1, zup_n k2]; exact q3 k j k1 k2
    · show zup (zup u 17 (f + i) (byt (xs5 x1 x2 x3 x4 x5 (i / 4)) (i % 4))) 0 18 (nI (f + i + 1)) 17 (f + j) = _
      rw [zup_n (by decide), zup_at]
      by_cases cj : j = i
      · subst cj; rw [if_pos ⟨rfl, rfl⟩]
      · rw [if_neg (by omega)]; exact q4 j (by omega)
    · show zup (zup u 17 (f + i) (byt (xs5 x1 x2 x3 x4 x5 (i / 4)) (i % 4))) 0 18 (nI (f + i + 1)) 17 j = _
      rw [zup_n (by decide), zup_at, if_neg (by omega)]; exact q5 j (by omega)
  obtain ⟨⟨x, u⟩, g1, g2, g3, g4, g5, g6⟩ := zlp_ex (f := fun w : Int32 × zS => FX8_feed_L23 0 x1 x2 x3 x4 x5 w.1 w.2) (fun i w => w.1 = nI i ∧ w.2 0 18 = nI (f + i) ∧ (∀ k j, ¬ (k = 0 ∧ j = 18) → k ≠ 17 → w.2 k j = t k j) ∧ (∀ j, j < i → w.2 17 (f + j) = byt (xs5 x1 x2 x3 x4 x5 (j / 4)) (j % 4)) ∧ ∀ j, (j < f ∨ f + i ≤ j) → w.2 17 j = t 17 j) (n := 20) (a := (0, t)) ⟨rfl, f3, fun _ _ _ _ => rfl, fun j hj => by omega, fun _ _ => rfl⟩ hs
  simp only at g2 g3 g4 g5 g6
  subst g2
  have hm : zlp (fun w : Int32 × zS => FX8_feed_L23 0 x1 x2 x3 x4 x5 w.1 w.2) (0, t) = some (nI (f + 20), u) := by
    rw [g1]
    refine zlp_end ?_
    show FX8_feed_L23 0 x1 x2 x3 x4 x5 (nI 20) u = _
    unfold FX8_feed_L23 FX8_feed_b120
    rw [if_pos (by decide), g3]
    rfl
  refine ⟨nI (f + 20), s5, u, rfl, hm, q, na, n, nr, h.tape (fun k j k1 k2 => ?_) (fun k j k1 k2 => g4 k j (by omega) k2) ⟨⟨f + 20, hf, b5, g3⟩, ?_, fun j hj => ?_⟩⟩
  · rw [c5 k j k1 k2, c4 k j k1 k2, c3 k j k1 k2, c2 k j k1 k2, c1 k j k1 k2]
  · rw [c5 0 1 (by decide) (by decide), c4 0 1 (by decide) (by decide), c3 0 1 (by decide) (by decide), c2 0 1 (by decide) (by decide), c1 0 1 (by decide) (by decide), g4 0 27 (by decide) (by decide)]; exact f4
  · by_cases o : j < f ∨ f + 20 ≤ j
    · rw [g6 j o, e5 j (by omega), e4 j (by omega), e3 j (by omega), e2 j (by omega), e1 j (by omega)]; exact f5 j hj
    · obtain ⟨i, rfl⟩ : ∃ i, j = f + i := ⟨j - f, by omega⟩
      have hi : i < 20 := by omega
      rw [g5 i hi]
      suffices hh : s5 5 (f + i) = byt (xs5 x1 x2 x3 x4 x5 (i / 4)) (i % 4) from ⟨hh, by rw [hh]; exact byt_m1⟩
      by_cases z1 : i < 4
      · rw [e5 _ (by omega), e4 _ (by omega), e3 _ (by omega), e2 _ (by omega), d1 i z1, show i / 4 = 0 from by omega, show i % 4 = i from by omega]; rfl
      by_cases z2 : i < 8
      · rw [e5 _ (by omega), e4 _ (by omega), e3 _ (by omega), show f + i = f + 4 + (i - 4) from by omega, d2 _ (by omega), show i / 4 = 1 from by omega, show i % 4 = i - 4 from by omega]; rfl
      by_cases z3 : i < 12
      · rw [e5 _ (by omega), e4 _ (by omega), show f + i = f + 4 + 4 + (i - 8) from by omega, d3 _ (by omega), show i / 4 = 2 from by omega, show i % 4 = i - 8 from by omega]; rfl
      by_cases z4 : i < 16
      · rw [e5 _ (by omega), show f + i = f + 4 + 4 + 4 + (i - 12) from by omega, d4 _ (by omega), show i / 4 = 3 from by omega, show i % 4 = i - 12 from by omega]; rfl
      · rw [show f + i = f + 4 + 4 + 4 + 4 + (i - 16) from by omega, d5 _ (by omega), show i / 4 = 4 from by omega, show i % 4 = i - 16 from by omega]; rfl
