theorem fst0_congr {P Q : Nat → Bool} : ∀ {n : Nat}, (∀ b, b < n → P b = Q b) → fst0 P n = fst0 Q n := by
  intro n
  induction n with
  | zero => intro _; rfl
  | succ n ih =>
    intro h
    show (match fst0 P n with | some a => some a | none => if P n then some n else none) = (match fst0 Q n with | some a => some a | none => if Q n then some n else none)
    rw [ih (fun b hb => h b (by omega)), h n (by omega)]
theorem nI_m1e (a : Nat) (h : a < 2 ^ 31) : (nI a = -1) = False := eq_false (nI_m1 h)
/-- one way nearer, on both sides -/
theorem gNr {τ S : zS} {na n nr e a : Nat} (hS : rS τ S na n nr) (he : e < na) (ha : a < na) (h51 : τ 0 51 = nI e) : FX8_goNearer 0 (nI a) τ = some (0, zup τ 0 51 (mNr S na (nI e) (nI a))) := by
  obtain ⟨⟨h10, -, e30⟩, -, -, -, hA, -, ⟨δ, hF⟩, -⟩ := id hS
  obtain ⟨f1, f2, f3, -⟩ := hF e a he ha
  have hpos : 10 * e + a < 100 := by omega
  have e10 : 10 * nI e + nI a = nI (10 * e + a) := by rw [show (10 : Int32) = nI 10 from rfl, pk_mul, nI_add]
  have hfar : mBtw S (nI e) (nI a) = nI (δ e a) := by rw [mBtw_n (by omega) (by omega), f1]
  have hj : ∀ b, mJo S (nI e) b = bt (S 4 e) b := fun b => by unfold mJo; rw [rd_n (by omega) (by decide)]
  have hb2 : ∀ b, b < na → mBtw S (nI b) (nI a) = nI (δ b a) := fun b hb => by rw [mBtw_n (by omega) (by omega), (hF b a hb ha).1]
  unfold FX8_goNearer mNr
  simp only [zlet_eq, zbd_s, zgd_t, zinr_s, Nat.zero_add, rn_3, rn_4, rn_5, rn_6, rn_7, rn_8, rn_9, rn_10, rn_11, rn_12, rn_13, rn_14, rn_15, rn_16, rn_17, rn_18, rn_19, rn_20, rn_21, rn_22, rn_23, rn_24, rn_25, rn_26, rn_27, rn_28, rn_29, rn_30, rn_31, rn_32, rn_33, rn_34, rn_35, rn_36, rn_37, rn_38, rn_39, rn_40, tn_0, tn_1, tn_2, tn_3, tn_4, tn_5, tn_6, tn_7, tn_8, zi_18_0, zi_18_1, zi_18_2, zi_18_3, zi_18_4, zi_18_5, zi_18_6, zi_18_7, zi_18_8, zi_7_0, zi_7_1, zi_7_2, zi_7_3, zi_7_4, zi_7_5, zi_7_6, zi_64_0, h51, e10, zin_n _ hpos (by decide : 100 < 2 ^ 31), nI_clamp (by omega : 10 * e + a < 2 ^ 31), f2, hfar]
  by_cases h99 : δ e a = 99
  · rw [if_pos h99, if_neg (by decide), h99, if_pos (show nI 99 = 99 from rfl), zup_same h51]
  have h9 : δ e a ≤ 9 := by omega
  have n99 : ¬ nI (δ e a) = 99 := fun z => h99 ((nI_eq (by omega) (by decide)).mp z)
  rw [if_neg h99, if_neg n99]
  by_cases h0 : δ e a = 0
  · have e0 : fst0 (fun b => mJo S (nI e) b && !decide (nI (δ e a) ≤ mBtw S (nI b) (nI a))) na = none := by
      rw [fst0_none]
      intro b hb
      rw [hb2 b hb, h0, decide_eq_true (nI_le (by omega) (by have := (hF b a hb ha).2.2.1; omega))]
      simp
    rw [e0, h0, if_neg (by decide), zup_same h51]
  · rw [if_pos (show (1 : Int32) ≤ nI (δ e a) from nI_le (a := 1) (by omega) (by omega))]
    have e1 : nI (δ e a) - 1 = nI (δ e a - 1) := by
      obtain ⟨k, hk⟩ : ∃ k, δ e a = k + 1 := ⟨δ e a - 1, by omega⟩
      rw [hk]; exact nI_pred k
    have hPQ : fst0 (fun b => mJo S (nI e) b && !decide (nI (δ e a) ≤ mBtw S (nI b) (nI a))) na = fst0 (fun b => bt (τ 6 e) b && decide (τ 18 (10 * b + a) = nI (δ e a - 1))) na := by
      refine fst0_congr (fun b hb => ?_)
      obtain ⟨b1, b2, b3, -⟩ := hF b a hb ha
      rw [hj, hb2 b hb, b2, (hA e he).2]
      cases hbt : bt (S 4 e) b
      · rfl
      · have tri := (hF e b he hb).2.2.2 a ha hbt
        simp only [Bool.true_and]
        by_cases hd : δ b a = 99
        · rw [if_pos hd, decide_eq_true (nI_le (by omega) (by omega)), decide_eq_false (fun z => nI_m1 (by omega : δ e a - 1 < 2 ^ 31) z.symm)]
          rfl
        · rw [if_neg hd]
          by_cases hlt : δ b a < δ e a
          · rw [decide_eq_false (nI_ge hlt (by omega)), decide_eq_true (by congr 1; omega)]
            rfl
          · rw [decide_eq_true (nI_le (by omega) (by omega)), decide_eq_false (fun z => by have := (nI_eq (by omega) (by omega)).mp z; omega)]
            rfl
    rw [hPQ]
    refine (zlp_fst (f := fun q : Int32 × zS => FX8_goNearer_L23 0 (nI a) (nI (δ e a)) q.1 q.2) (fun b => (nI b, τ)) na (fun b => bt (τ 6 e) b && decide (τ 18 (10 * b + a) = nI (δ e a - 1))) (0, τ) (fun b => (0, zup τ 0 51 (nI b))) (fun b hb => ?_) ?_).trans ?_
    · show FX8_goNearer_L23 0 (nI a) (nI (δ e a)) (nI b) τ = if (bt (τ 6 e) b && decide (τ 18 (10 * b + a) = nI (δ e a - 1))) = true then some (.inr (0, zup τ 0 51 (nI b))) else some (.inl (nI (b + 1), τ))
      unfold FX8_goNearer_L23 FX8_goNearer_b69 FX8_goNearer_b75
      have eb : 10 * nI b + nI a = nI (10 * b + a) := by rw [show (10 : Int32) = nI 10 from rfl, pk_mul, nI_add]
      simp only [zlet_eq, zbd_s, zgd_t, zinr_s, Nat.zero_add, rn_3, rn_4, rn_5, rn_6, rn_7, rn_8, rn_9, rn_10, rn_11, rn_12, rn_13, rn_14, rn_15, rn_16, rn_17, rn_18, rn_19, rn_20, rn_21, rn_22, rn_23, rn_24, rn_25, rn_26, rn_27, rn_28, rn_29, rn_30, rn_31, rn_32, rn_33, rn_34, rn_35, rn_36, rn_37, rn_38, rn_39, rn_40, tn_0, tn_1, tn_2, tn_3, tn_4, tn_5, tn_6, tn_7, tn_8, zi_18_0, zi_18_1, zi_18_2, zi_18_3, zi_18_4, zi_18_5, zi_18_6, zi_18_7, zi_18_8, zi_7_0, zi_7_1, zi_7_2, zi_7_3, zi_7_4, zi_7_5, zi_7_6, zi_64_0, e30, if_neg (nI_ge hb (by omega : na < 2 ^ 31)), h51, zin_n _ (by omega : e < 20) (by decide : 20 < 2 ^ 31), nI_clamp (by omega : e < 2 ^ 31), bt_0 (by omega : b < 32), eb, zin_n _ (by omega : 10 * b + a < 100) (by decide : 100 < 2 ^ 31), nI_clamp (by omega : 10 * b + a < 2 ^ 31), e1, nI_1]
      cases hbt : bt (τ 6 e) b
      · simp
      · by_cases hx : τ 18 (10 * b + a) = nI (δ e a - 1) <;> simp [hx]
    · show FX8_goNearer_L23 0 (nI a) (nI (δ e a)) (nI na) τ = _
      unfold FX8_goNearer_L23 FX8_goNearer_b81
      simp only [zlet_eq, zbd_s, zgd_t, zinr_s, Nat.zero_add, rn_3, rn_4, rn_5, rn_6, rn_7, rn_8, rn_9, rn_10, rn_11, rn_12, rn_13, rn_14, rn_15, rn_16, rn_17, rn_18, rn_19, rn_20, rn_21, rn_22, rn_23, rn_24, rn_25, rn_26, rn_27, rn_28, rn_29, rn_30, rn_31, rn_32, rn_33, rn_34, rn_35, rn_36, rn_37, rn_38, rn_39, rn_40, tn_0, tn_1, tn_2, tn_3, tn_4, tn_5, tn_6, tn_7, tn_8, zi_18_0, zi_18_1, zi_18_2, zi_18_3, zi_18_4, zi_18_5, zi_18_6, zi_18_7, zi_18_8, zi_7_0, zi_7_1, zi_7_2, zi_7_3, zi_7_4, zi_7_5, zi_7_6, zi_64_0, e30, if_pos (nI_le (Nat.le_refl na) (by omega : na < 2 ^ 31))]
    · cases fst0 (fun b => bt (τ 6 e) b && decide (τ 18 (10 * b + a) = nI (δ e a - 1))) na with
      | none => rw [zup_same h51]
      | some b => rfl
theorem mNr_oa {S : zS} {na e : Nat} {g : Int32} (he : e < na) : oa na (mNr S na (nI e) g) := by
  unfold mNr
  split
  · next b hb =>
    split at hb
    · cases hb
    · exact Or.inr ⟨b, (fst0_some.mp hb).1, rfl⟩
  · exact Or.inr ⟨e, he, rfl⟩
/-- how he watches -/
def cfg (na n nr : Nat) (d : zS) : Prop := (d 0 1 = 0 ∧ d 0 12 = -1) ∨ (d 0 1 = 1 ∧ ∃ r, r < nr ∧ d 0 2 = nI r) ∨ (d 0 1 = 2 ∧ ∃ w, w < n ∧ d 0 2 = nI w) ∨ (d 0 1 = 3 ∧ ∃ a, a < na ∧ d 0 2 = nI a)
/-- whom the rule chooses, on both sides -/
theorem gCh {τ0 τ S d : zS} {na n nr m r e : Nat} (hS : rS τ0 S na n nr) (hF : Fr τ0 τ) (hD : rD τ S na n d) (h1 : d 0 1 = 1) (hr : r < nr) (h2 : d 0 2 = nI r) (he : e < na) (h12 : d 0 12 = nI e) :
    ∃ τ', FX8_followed 0 (nI m) τ = some ((mCh S n r (nI m) d).1, τ') ∧ (∀ k, k ≠ 20 → k ≠ 21 → τ' k = τ k) ∧ ((mCh S n r (nI m) d).1 = -1 ∨ ∃ p, p < n ∧ (mCh S n r (nI m) d).1 = nI p ∧ ¬ d 4 p = -1) := by
  have hSt := hS.fr hF
  obtain ⟨⟨h10, -, -⟩, ⟨h8, hSn, e33⟩, -, -, -, hPs, -, -⟩ := id hSt
  have hC := hD.1
  unfold FX8_followed mCh
  rw [if_neg (by rw [hC.1, h1]; decide), zlet_eq, zlet_eq, zlet_eq]
  have hs : ∀ (p : Nat) (q : Int32 × Int32 × Int32 × zS), p < n → (q.1 = (fo (mCh1 S n r (nI m)) p (-1, 0, d)).1 ∧ q.2.1 = (fo (mCh1 S n r (nI m)) p (-1, 0, d)).2.1 ∧ q.2.2.1 = nI p ∧ (∀ k, k ≠ 20 → k ≠ 21 → q.2.2.2 k = τ k) ∧ (q.1 = -1 ∨ ∃ p, p < n ∧ q.1 = nI p ∧ ¬ d 4 p = -1)) → ∃ q', FX8_followed_L35 0 (nI m) q.1 q.2.1 q.2.2.1 q.2.2.2 = some (.inl q') ∧ (q'.1 = (fo (mCh1 S n r (nI m)) (p + 1) (-1, 0, d)).1 ∧ q'.2.1 = (fo (mCh1 S n r (nI m)) (p + 1) (-1, 0, d)).2.1 ∧ q'.2.2.1 = nI (p + 1) ∧ (∀ k, k ≠ 20 → k ≠ 21 → q'.2.2.2 k = τ k) ∧ (q'.1 = -1 ∨ ∃ p, p < n ∧ q'.1 = nI p ∧ ¬ d 4 p = -1)) := by
    intro p q hp ⟨q1, q2, q3, q4, q5⟩
    obtain ⟨x2, x3, x4, τ1⟩ := q
    simp only at q1 q2 q3 q4 q5
    subst q3
    rw [fo_s]
    have hd : ∀ k, k ≠ 7 → k ≠ 11 → k ≠ 12 → (fo (mCh1 S n r (nI m)) p (-1, 0, d)).2.2 k = d k := fun k k1 k2 k3 => fo_inv (fun _ (t : Int32 × Int32 × zS) => t.2.2 k = d k) rfl (fun _ t _ ht => by rw [mCh1_o k1 k2 k3, ht])
    generalize fo (mCh1 S n r (nI m)) p (-1, 0, d) = t at q1 q2 hd ⊢
    obtain ⟨w, b, d1⟩ := t
    simp only at q1 q2 hd
    subst q1 q2
    have hp8 : p < 8 := by omega
    have hD1 : rD τ1 S na n d1 := (hD.ask q4).mdl hd
    have hS1 : rS τ1 S na n nr := hSt.fr (Fr.rf.ask q4)
    obtain ⟨c, t, l, hP⟩ := hS1.2.2.2.2.2.1 p hp
    have e46 : τ1 0 46 = 1 := by rw [q4 0 (by decide) (by decide), hC.1, h1]
    have e33 : τ1 3 3 = nI n := hS1.2.1.2.2
    have k4 : d1 4 p = d 4 p := by rw [hd 4 (by decide) (by decide) (by decide)]
    unfold mCh1
    show ∃ q', FX8_followed_L35 0 (nI m) x2 x3 (nI p) τ1 = some (.inl q') ∧ _
    simp only
    rcases hD1.2.2.2.2.2 p hp with ⟨w1, w2⟩ | ⟨i, a, hi, ha, w1, w2, w3⟩
    · rw [if_pos (Or.inl w2)]
      refine ⟨(x2, x3, nI (p + 1), τ1), ?_, rfl, rfl, rfl, q4, q5⟩
      unfold FX8_followed_L35 FX8_followed_b239
      simp only [zlet_eq, zbd_s, zgd_t, zinr_s, Nat.zero_add, rn_3, rn_4, rn_5, rn_6, rn_7, rn_8, rn_9, rn_10, rn_11, rn_12, rn_13, rn_14, rn_15, rn_16, rn_17, rn_18, rn_19, rn_20, rn_21, rn_22, rn_23, rn_24, rn_25, rn_26, rn_27, rn_28, rn_29, rn_30, rn_31, rn_32, rn_33, rn_34, rn_35, rn_36, rn_37, rn_38, rn_39, rn_40, tn_0, tn_1, tn_2, tn_3, tn_4, tn_5, tn_6, tn_7, tn_8, zi_18_0, zi_18_1, zi_18_2, zi_18_3, zi_18_4, zi_18_5, zi_18_6, zi_18_7, zi_18_8, zi_7_0, zi_7_1, zi_7_2, zi_7_3, zi_7_4, zi_7_5, zi_7_6, zi_64_0, e33, if_neg (nI_ge hp (by omega : n < 2 ^ 31)), e46, if_true, gIn hp8, w1, decide_true, Bool.not_true, b01_f, nI_1]
    · have hneg : ¬ nI i < 0 := nI_pos (by omega)
      have hn1 : ¬ d1 4 p = -1 := by rw [w3]; exact nI_m1 (by omega)
      have hh := fun x2 x3 => gVp (x2 := x2) (x3 := x3) (m := m) hS1 hD1 hp hr hi ha he w1 w2 w3 (by rw [hd 0 (by decide) (by decide) (by decide)]; exact h12) (by rw [hd 0 (by decide) (by decide) (by decide)]; exact h2)
      have e8 := hP.1
      by_cases c3 : S 8 p = 3
      · rw [if_pos (Or.inr c3)]
        refine ⟨(x2, x3, nI (p + 1), τ1), ?_, rfl, rfl, rfl, q4, q5⟩
        unfold FX8_followed_L35 FX8_followed_b239
        simp only [zlet_eq, zbd_s, zgd_t, zinr_s, Nat.zero_add, rn_3, rn_4, rn_5, rn_6, rn_7, rn_8, rn_9, rn_10, rn_11, rn_12, rn_13, rn_14, rn_15, rn_16, rn_17, rn_18, rn_19, rn_20, rn_21, rn_22, rn_23, rn_24, rn_25, rn_26, rn_27, rn_28, rn_29, rn_30, rn_31, rn_32, rn_33, rn_34, rn_35, rn_36, rn_37, rn_38, rn_39, rn_40, tn_0, tn_1, tn_2, tn_3, tn_4, tn_5, tn_6, tn_7, tn_8, zi_18_0, zi_18_1, zi_18_2, zi_18_3, zi_18_4, zi_18_5, zi_18_6, zi_18_7, zi_18_8, zi_7_0, zi_7_1, zi_7_2, zi_7_3, zi_7_4, zi_7_5, zi_7_6, zi_64_0, e33, if_neg (nI_ge hp (by omega : n < 2 ^ 31)), e46, if_true, gIn hp8, w1, hneg, decide_false, Bool.not_false, b01_t, show ¬ (1 : Int32) = 0 from by decide, if_false, nI_1, zin_n _ (by omega : p < 16) (by decide : 16 < 2 ^ 31), nI_clamp (by omega : p < 2 ^ 31), e8, c3]
      · rw [if_neg (fun z => z.elim hn1 c3)]
        obtain ⟨τ2, hb1, hb2⟩ := hh x2 x3
        have hgo : FX8_followed_L35 0 (nI m) x2 x3 (nI p) τ1 = FX8_followed_b133 0 (nI m) x2 x3 (nI p) (nI a) 20 2 (b01 (bt (d1 8 5) p)) (zup (zup τ1 20 0 (τ1 11 p)) 20 1 (nI m - τ1 9 p + 1)) := by
          have e52 : zup (zup τ1 20 0 (τ1 11 p)) 20 1 (nI m - τ1 9 p + 1) 0 52 = d1 8 5 := by
            rw [zup_n (by decide), zup_n (by decide)]
            exact hD1.2.1.2.1
          unfold FX8_followed_L35
          simp only [zlet_eq, zbd_s, zgd_t, zinr_s, Nat.zero_add, rn_3, rn_4, rn_5, rn_6, rn_7, rn_8, rn_9, rn_10, rn_11, rn_12, rn_13, rn_14, rn_15, rn_16, rn_17, rn_18, rn_19, rn_20, rn_21, rn_22, rn_23, rn_24, rn_25, rn_26, rn_27, rn_28, rn_29, rn_30, rn_31, rn_32, rn_33, rn_34, rn_35, rn_36, rn_37, rn_38, rn_39, rn_40, tn_0, tn_1, tn_2, tn_3, tn_4, tn_5, tn_6, tn_7, tn_8, zi_18_0, zi_18_1, zi_18_2, zi_18_3, zi_18_4, zi_18_5, zi_18_6, zi_18_7, zi_18_8, zi_7_0, zi_7_1, zi_7_2, zi_7_3, zi_7_4, zi_7_5, zi_7_6, zi_64_0, e33, if_neg (nI_ge hp (by omega : n < 2 ^ 31)), e46, if_true, gIn hp8, w1, hneg, decide_false, Bool.not_false, b01_t, show ¬ (1 : Int32) = 0 from by decide, if_false, zin_n _ (by omega : p < 16) (by decide : 16 < 2 ^ 31), nI_clamp (by omega : p < 2 ^ 31), e8, if_neg c3, gAi hp8 hi w1, w2, gSc hp8, zup_n (by decide : 9 ≠ 20), e52, fisOf _ (Nat.lt_trans hp8 (by decide : 8 < 32)), b01_eq0]
          cases bt (d1 8 5) p <;> rfl
        rw [hgo, hb1]
        have hk2 : ∀ k, k ≠ 20 → k ≠ 21 → τ2 k = τ k := fun k k1 k2 => by rw [hb2 k k1 k2, q4 k k1 k2]
        by_cases c4 : mTo (mVd S r (mTv S n p (nI m) d1)) ≤ x3
        · rw [if_neg (show ¬ x3 < mTo (mVd S r (mTv S n p (nI m) d1)) from by rw [fa_le] at c4; rw [fa_lt]; omega), if_pos c4]
          exact ⟨_, rfl, rfl, rfl, rfl, hk2, q5⟩
        · rw [if_pos (show x3 < mTo (mVd S r (mTv S n p (nI m) d1)) from by rw [fa_le] at c4; rw [fa_lt]; omega), if_neg c4]
          exact ⟨_, rfl, rfl, rfl, rfl, hk2, Or.inr ⟨p, hp, rfl, by rw [← k4]; exact hn1⟩⟩
  obtain ⟨⟨x2, x3, x4, τ'⟩, h1, h2, h3, h4, h5, h6⟩ := zlp_ex (f := fun q : Int32 × Int32 × Int32 × zS => FX8_followed_L35 0 (nI m) q.1 q.2.1 q.2.2.1 q.2.2.2) (fun p q => q.1 = (fo (mCh1 S n r (nI m)) p (-1, 0, d)).1 ∧ q.2.1 = (fo (mCh1 S n r (nI m)) p (-1, 0, d)).2.1 ∧ q.2.2.1 = nI p ∧ (∀ k, k ≠ 20 → k ≠ 21 → q.2.2.2 k = τ k) ∧ (q.1 = -1 ∨ ∃ p, p < n ∧ q.1 = nI p ∧ ¬ d 4 p = -1)) (n := n) (a := (-1, 0, 0, τ)) ⟨rfl, rfl, rfl, fun _ _ _ => rfl, Or.inl rfl⟩ hs
  simp only at h2 h4 h5 h6
  subst h4
  refine ⟨τ', ?_, h5, h2 ▸ h6⟩
  rw [h1, ← h2]
  refine zlp_end ?_
  show FX8_followed_L35 0 (nI m) x2 x3 (nI n) τ' = _
  unfold FX8_followed_L35 FX8_followed_b245
  have e33' : τ' 3 3 = nI n := by rw [h5 3 (by decide) (by decide)]; exact e33
  simp only [zlet_eq, zbd_s, zgd_t, zinr_s, Nat.zero_add, rn_3, rn_4, rn_5, rn_6, rn_7, rn_8, rn_9, rn_10, rn_11, rn_12, rn_13, rn_14, rn_15, rn_16, rn_17, rn_18, rn_19, rn_20, rn_21, rn_22, rn_23, rn_24, rn_25, rn_26, rn_27, rn_28, rn_29, rn_30, rn_31, rn_32, rn_33, rn_34, rn_35, rn_36, rn_37, rn_38, rn_39, rn_40, tn_0, tn_1, tn_2, tn_3, tn_4, tn_5, tn_6, tn_7, tn_8, zi_18_0, zi_18_1, zi_18_2, zi_18_3, zi_18_4, zi_18_5, zi_18_6, zi_18_7, zi_18_8, zi_7_0, zi_7_1, zi_7_2, zi_7_3, zi_7_4, zi_7_5, zi_7_6, zi_64_0, e33', if_pos (nI_le (Nat.le_refl n) (by omega : n < 2 ^ 31))]
