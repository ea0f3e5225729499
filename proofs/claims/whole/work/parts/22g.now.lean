/-! calls that change what is now -/
def Fn (σ σ' : zS) : Prop := ∀ k j, (k < 6 ∨ 14 < k) → ¬ (k = 0 ∧ j = 9) → σ' k j = σ k j
def Gn (τ τ' : zS) : Prop := ∀ k j, (k ≠ 5 ∧ k ≠ 7 ∧ k ≠ 16 ∧ k ≠ 19 ∧ ¬ (29 ≤ k ∧ k ≤ 32)) → ¬ (k = 0 ∧ (j = 2 ∨ (29 ≤ j ∧ j ≤ 37))) → msc k j = false → τ' k j = τ k j
theorem Fn.rf {σ : zS} : Fn σ σ := fun _ _ _ _ => rfl
theorem Fn.tr {a b c : zS} (h : Fn a b) (h2 : Fn b c) : Fn a c := fun k j h3 h4 => (h2 k j h3 h4).trans (h k j h3 h4)
theorem Fn.up {a b : zS} {k j : Nat} {v : Int32} (h : Fn a b) (hk : (6 ≤ k ∧ k ≤ 14) ∨ (k = 0 ∧ j = 9)) : Fn a (zup b k j v) := by
  intro x y h1 h2
  rw [zup_at, if_neg (by omega)]
  exact h x y h1 h2
theorem Gn.rf {σ : zS} : Gn σ σ := fun _ _ _ _ _ => rfl
theorem Gn.tr {a b c : zS} (h : Gn a b) (h2 : Gn b c) : Gn a c := fun k j h3 h4 h5 => (h2 k j h3 h4 h5).trans (h k j h3 h4 h5)
theorem Gn.up {a b : zS} {k j : Nat} {v : Int32} (h : Gn a b) (hk : k = 5 ∨ k = 7 ∨ k = 16 ∨ k = 19 ∨ (29 ≤ k ∧ k ≤ 32) ∨ (k = 0 ∧ (j = 2 ∨ (29 ≤ j ∧ j ≤ 37)))) : Gn a (zup b k j v) := by
  intro x y h1 h2 h3
  rw [zup_at, if_neg (by omega)]
  exact h x y h1 h2 h3
theorem RQ.now {σ σ' τ τ' : zS} {q na n nr : Nat} (h : RQ σ τ q na n nr) (f : Fn σ σ') (g : Gn τ τ') (hN : rNw σ' τ' na n nr) (hT : rTd σ' q na n) : RQ σ' τ' q na n nr := by
  obtain ⟨h1, h2, h3, -, h5, -, h7⟩ := h
  have f0 : ∀ j, j ≠ 9 → σ' 0 j = σ 0 j := fun j hj => f 0 j (by omega) (by omega)
  have fr : ∀ k, k ≠ 0 → (k < 6 ∨ 14 < k) → σ' k = σ k := fun k h0 hk => funext fun j => f k j hk (by omega)
  have hq := h2.1
  have fs : ss q σ' = ss q σ := by
    funext i j
    unfold ss
    split
    · rfl
    · exact f _ _ (by omega) (by omega)
  have g0 : ∀ j, (j ≠ 2 ∧ ¬ (29 ≤ j ∧ j ≤ 37)) → msc 0 j = false → τ' 0 j = τ 0 j := fun j hj hm => g 0 j (by omega) (by omega) hm
  have gr : ∀ k, k ≠ 0 → (k < 20 ∨ 27 < k) → k ≠ 33 → (k ≠ 5 ∧ k ≠ 7 ∧ k ≠ 16 ∧ k ≠ 19 ∧ ¬ (29 ≤ k ∧ k ≤ 32)) → τ' k = τ k := fun k k0 k1 k2 k3 => funext fun j => g k j k3 (by omega) (msc_row k0 k1 k2 j)
  refine ⟨?_, ?_, ?_, hN, ?_, hT, ?_⟩
  · unfold rTp at *
    rw [f0 0 (by decide), f0 1 (by decide), fr 5 (by decide) (by decide), g0 18 (by decide) rfl, g0 27 (by decide) rfl, gr 17 (by decide) (by decide) (by decide) (by decide)]
    exact h1
  · unfold rPt at *
    rw [f0 2 (by decide), fr 4 (by decide) (by decide)]
    exact h2
  · rw [fs]
    unfold rSh rS rP rF rR at *
    rw [gr 3 (by decide) (by decide) (by decide) (by decide), gr 4 (by decide) (by decide) (by decide) (by decide), gr 6 (by decide) (by decide) (by decide) (by decide), gr 8 (by decide) (by decide) (by decide) (by decide), gr 9 (by decide) (by decide) (by decide) (by decide), gr 10 (by decide) (by decide) (by decide) (by decide), gr 11 (by decide) (by decide) (by decide) (by decide), gr 12 (by decide) (by decide) (by decide) (by decide), gr 13 (by decide) (by decide) (by decide) (by decide), gr 14 (by decide) (by decide) (by decide) (by decide), gr 15 (by decide) (by decide) (by decide) (by decide), gr 18 (by decide) (by decide) (by decide) (by decide)]
    exact h3
  · unfold rPi at *
    rw [f0 6 (by decide), g0 72 (by decide) rfl, g0 73 (by decide) rfl, g0 74 (by decide) rfl, g0 75 (by decide) rfl, gr 34 (by decide) (by decide) (by decide) (by decide), gr 35 (by decide) (by decide) (by decide) (by decide), gr 36 (by decide) (by decide) (by decide) (by decide), gr 37 (by decide) (by decide) (by decide) (by decide), gr 38 (by decide) (by decide) (by decide) (by decide), gr 39 (by decide) (by decide) (by decide) (by decide), gr 40 (by decide) (by decide) (by decide) (by decide)]
    exact h5.imp id (fun ⟨a, b, c⟩ => ⟨a, b, c.x (fun i hi => fr _ (by omega) (by omega))⟩)
  · unfold rLd at *
    rw [f0 12 (by decide), fr 2 (by decide) (by decide), g0 65 (by decide) rfl, gr 28 (by decide) (by decide) (by decide) (by decide)]
    exact h7
/-- today stays what it was -/
theorem rTd.n {σ σ' : zS} {q na n : Nat} (h : rTd σ q na n) (hq : q = 46 ∨ q = 64) (f : Fn σ σ') (h9 : σ' 0 9 = σ 0 9) (h6 : ∀ j, j < 4 → σ' 6 j = σ 6 j) (h7 : σ' 7 = σ 7) (h8 : σ' 8 = σ 8) : rTd σ' q na n := by
  refine h.x hq h9 ?_ h6 h7 h8 (fun k k1 k2 => funext fun j => f _ j (by omega) (by omega))
  funext i j
  unfold ss
  split
  · rfl
  · exact f _ _ (by omega) (by omega)
/-- or isn't known -/
theorem rTd.z {σ : zS} {q na n : Nat} (h : σ 0 9 = 0) : rTd σ q na n := Or.inl h
theorem nwR.c {na n nr : Nat} {x sx tx v sv tv x' sx' tx' v' sv' tv' : Nat → Int32} (h : nwR na n nr x sx tx v sv tv) (hx : ∀ i, i < 6 → x' i = x i) (hs : ∀ a, a < na → sx' a = sx a) (ht : ∀ a, a < na → tx' a = tx a) (hv : ∀ i, i < 6 → v' i = v i) (hsv : ∀ a, a < na → sv' a = sv a) (htv : ∀ a, a < na → tv' a = tv a) : nwR na n nr x' sx' tx' v' sv' tv' := by
  obtain ⟨h1, h2, h3, h4, h5⟩ := h
  refine ⟨fun i hi => by rw [hx i hi, hv i hi]; exact h1 i hi, by rw [hx 0 (by decide), hx 1 (by decide)]; exact h2, by rw [hx 2 (by decide)]; exact h3, by rw [hx 4 (by decide)]; exact h4, fun a ha => ?_⟩
  obtain ⟨k1, k2, k3⟩ := h5 a ha
  exact ⟨by rw [hs a ha, hsv a ha]; exact k1, by rw [ht a ha, htv a ha]; exact k2, by rw [ht a ha]; exact k3⟩
/-- a call is refused -/
theorem rRef {σ τ : zS} {q na n nr k : Nat} (h : RQ σ τ q na n nr) (hk : k < 3) : FX6_refuse 6 (nI k) σ = some (0, zup σ 14 k (σ 14 k + 1)) ∧ FX8_refuse 0 (nI k) τ = some (-1, zup τ 16 k (τ 16 k + 1)) ∧ RQ (zup σ 14 k (σ 14 k + 1)) (zup τ 16 k (τ 16 k + 1)) q na n nr := by
  refine ⟨?_, ?_, ?_⟩
  · unfold FX6_refuse
    simp only [fat', fput', Nat.reduceAdd, show ln 0 14 = 3 from rfl, rd_n hk (by decide : 3 < 2 ^ 31), pt_n hk (by decide : 3 < 2 ^ 31), zbd_s]
  · unfold FX8_refuse
    simp only [zlet_eq, zbd_s, zgd_t, zinr_s, Nat.zero_add, rn_3, rn_4, rn_5, rn_6, rn_7, rn_8, rn_9, rn_10, rn_11, rn_12, rn_13, rn_14, rn_15, rn_16, rn_17, rn_18, rn_19, rn_20, rn_21, rn_22, rn_23, rn_24, rn_25, rn_26, rn_27, rn_28, rn_29, rn_30, rn_31, rn_32, rn_33, rn_34, rn_35, rn_36, rn_37, rn_38, rn_39, rn_40, tn_0, tn_1, tn_2, tn_3, tn_4, tn_5, tn_6, tn_7, tn_8, zi_18_0, zi_18_1, zi_18_2, zi_18_3, zi_18_4, zi_18_5, zi_18_6, zi_18_7, zi_18_8, zi_7_0, zi_7_1, zi_7_2, zi_7_3, zi_7_4, zi_7_5, zi_7_6, zi_64_0, zin_n _ hk (by decide : 3 < 2 ^ 31), nI_clamp (by omega : k < 2 ^ 31)]
  · have hf : Fn σ (zup σ 14 k (σ 14 k + 1)) := Fn.rf.up (by omega)
    refine h.now hf (Gn.rf.up (by omega)) ?_ (h.2.2.2.2.2.1.n h.2.1.1 hf (by rw [zup_at, if_neg (by omega)]) (fun j _ => by rw [zup_at, if_neg (by omega)]) (zup_n (by decide)) (zup_n (by decide)))
    obtain ⟨k1, k2, k3, k4, k5⟩ := h.2.2.2.1
    refine ⟨by simpa [zup_n] using k1, by simpa [zup_n] using k2, by simpa [zup_n] using k3, by simpa [zup_n] using k4, fun i hi => ?_⟩
    show zup σ 14 k (σ 14 k + 1) 14 i = zup τ 16 k (τ 16 k + 1) 16 i
    rw [zup_at, zup_at, show σ 14 k = τ 16 k from k5 k hk]
    by_cases c : i = k
    · rw [if_pos ⟨rfl, c⟩, if_pos ⟨rfl, c⟩]
    · rw [if_neg (fun z => c z.2), if_neg (fun z => c z.2)]
      exact k5 i hi
theorem isn10 {x : Int32} : (¬ x < 0 ∧ x ≤ 9) ↔ isn x 10 = true := by
  rw [isn_t (by decide)]
  constructor
  · intro ⟨h1, h2⟩
    obtain ⟨j, hj, rfl⟩ := nI_of h1
    exact ⟨j, by have := (nI_leI hj (by decide : 9 < 2 ^ 31)).mp h2; omega, rfl⟩
  · intro ⟨p, hp, e⟩
    subst e
    exact ⟨nI_pos (by omega), nI_le (b := 9) (by omega) (by decide)⟩
/-- sign -/
theorem rel_sign {σ τ : zS} (h : RR σ τ) (x y : Int32) : relI (FX7_sign 0 x y σ) (FX8_sign 0 x y τ) := by
  have h0 := h.code 0
  obtain ⟨q, na, n, nr, h⟩ := h0
  obtain ⟨k1, k2, ⟨N, s1, s2, s3, s4⟩, k4, k5⟩ := id h.2.2.2.1
  obtain ⟨r1, r2, r3⟩ := rRef h (by decide : 2 < 3)
  have r1' : FX6_refuse 6 2 σ = some (0, zup σ 14 2 (σ 14 2 + 1)) := r1
  have r2' : FX8_refuse 0 2 (zup τ 0 2 0) = some (-1, zup (zup τ 0 2 0) 16 2 ((zup τ 0 2 0) 16 2 + 1)) := r2
  have ref : relI (FX7_sign_b22 0 σ) (FX8_sign_b26 0 (zup τ 0 2 0)) := by
    unfold FX7_sign_b22 FX8_sign_b26
    rw [show (0 : Nat) + 6 = 6 from rfl, r1', r2']
    exact ⟨-1, _, _, rfl, rfl, q, na, n, nr, r3⟩
  unfold FX7_sign FX8_sign
  simp only [zlet_eq, Nat.zero_add, s2, s3, gIn4 (by decide : 10 < 2 ^ 31) (show (9 : Int64) = Int32.toInt64 (nI 10 - 1) from by decide), zbd_s, b01_eq0]
  by_cases hN : N = 12
  · subst hN
    rw [if_pos (by decide), if_pos (by decide)]
    exact ref
  rw [if_neg (show ¬ (12 : Int32) ≤ nI N from nI_ge (b := 12) (by omega) (by decide)), if_neg (show ¬ nI N = 12 from fun z => hN ((nI_eq (b := 12) (by omega) (by decide)).mp z))]
  cases hx : isn x 10
  · rw [if_pos rfl]
    have : ¬ (¬ x < 0 ∧ x ≤ 9) := fun z => by rw [isn10.mp z] at hx; cases hx
    by_cases c1 : x < 0
    · rw [if_pos c1]; exact ref
    · rw [if_neg c1, if_neg (fun z => this ⟨c1, z⟩)]; exact ref
  · obtain ⟨c1, c2⟩ := isn10.mpr hx
    rw [if_neg c1, if_pos c2, if_neg (by decide)]
    have key : ∀ v : Int32, (v = 0 ∨ v = 1) → relI (FX7_sign_b73 0 11 (nI N) v (zup σ 10 N x)) (FX8_sign_b59 0 30 (nI N) v (zup (zup τ 0 2 0) 29 N x)) := by
      intro v hv
      have e1 : zup (zup σ 10 N x) 11 N v 6 10 = nI N := by rw [zup_n (by decide), zup_n (by decide), s2]
      have e2 : zup (zup (zup τ 0 2 0) 29 N x) 30 N v 0 36 = nI N := by rw [zup_n (by decide), zup_n (by decide)]; exact s3
      have c : FX7_sign_b73 0 11 (nI N) v (zup σ 10 N x) = some (nI (N + 1), zup (zup (zup σ 10 N x) 11 N v) 6 10 (nI (N + 1))) := by
        unfold FX7_sign_b73
        simp only [fput', show ln 0 11 = 12 from rfl, pt_n (by omega : N < 12) (by decide : 12 < 2 ^ 31), zbd_s, zlet_eq, Nat.zero_add, e1, nI_1]
        rw [zup_at, if_pos ⟨rfl, rfl⟩]
      have m : FX8_sign_b59 0 30 (nI N) v (zup (zup τ 0 2 0) 29 N x) = some (nI (N + 1), zup (zup (zup (zup τ 0 2 0) 29 N x) 30 N v) 0 36 (nI (N + 1))) := by
        unfold FX8_sign_b59
        simp only [rn_30, zin_n _ (by omega : N < 12) (by decide : 12 < 2 ^ 31), nI_clamp (by omega : N < 2 ^ 31), zlet_eq, e2, nI_1]
        rw [zup_at, if_pos ⟨rfl, rfl⟩]
      rw [c, m]
      have hf : Fn σ (zup (zup (zup σ 10 N x) 11 N v) 6 10 (nI (N + 1))) := ((Fn.rf.up (by omega)).up (by omega)).up (by omega)
      refine ⟨_, _, _, rfl, rfl, q, na, n, nr, h.now hf (((Gn.rf.up (by omega)).up (by omega)).up (by omega)) ⟨?_, ?_, ⟨N + 1, by omega, ?_, ?_, fun i hi => ?_⟩, ?_, ?_⟩ (h.2.2.2.2.2.1.n h.2.1.1 hf ?_ ?_ ?_ ?_)⟩
      · exact k1.c (fun i hi => by rw [zup_at, if_neg (by omega), zup_n (by decide), zup_n (by decide)]) (fun a _ => by rw [zup_n (by decide), zup_n (by decide), zup_n (by decide)]) (fun a _ => by rw [zup_n (by decide), zup_n (by decide), zup_n (by decide)]) (fun i hi => by rw [zup_at, if_neg (by omega), zup_n (by decide), zup_n (by decide)]) (fun a _ => by rw [zup_n (by decide), zup_n (by decide), zup_n (by decide)]) (fun a _ => by rw [zup_n (by decide), zup_n (by decide), zup_n (by decide)])
      · simpa [zup_at, zup_n] using k2
      · simp [zup_at]
      · simp [zup_at]
      · show zup (zup (zup σ 10 N x) 11 N v) 6 10 (nI (N + 1)) 10 i = _ ∧ zup (zup (zup σ 10 N x) 11 N v) 6 10 (nI (N + 1)) 11 i = _ ∧ _
        by_cases ci : i = N
        · subst ci; simp [zup_at]; exact hv
        · obtain ⟨z1, z2, z3⟩ := s4 i (by omega)
          simp only [Nat.reduceAdd] at z1 z2
          simp [zup_at, ci] at z1 z2 z3 ⊢
          exact ⟨z1, z2, z3⟩
      · simpa [zup_at, zup_n] using k4
      · simpa [zup_at, zup_n] using k5
      · rw [zup_n (by decide), zup_n (by decide), zup_n (by decide)]
      · intro j hj; rw [zup_at, if_neg (by omega), zup_n (by decide), zup_n (by decide)]
      · rw [zup_n (by decide), zup_n (by decide), zup_n (by decide)]
      · rw [zup_n (by decide), zup_n (by decide), zup_n (by decide)]
    have p1 : FX7_put (6 + 4) (nI N) x σ = some (0, zup σ 10 N x) := by
      rw [show (6 + 4 : Nat) = 10 from rfl, fput', show ln 0 10 = 12 from rfl, pt_n (by omega : N < 12) (by decide)]
    have e1 : zup σ 10 N x 6 10 = nI N := by rw [zup_n (by decide), s2]
    have e2 : zup (zup τ 0 2 0) 29 N x 0 36 = nI N := by rw [zup_n (by decide)]; exact s3
    simp only [p1, zbd_s, e1, rn_29, zin_n _ (by omega : N < 12) (by decide : 12 < 2 ^ 31), nI_clamp (by omega : N < 2 ^ 31), e2]
    by_cases cy : y = 0
    · rw [if_pos cy, if_pos cy]; exact key 0 (Or.inl rfl)
    · rw [if_neg cy, if_neg cy]; exact key 1 (Or.inr rfl)
