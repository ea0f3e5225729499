/-- a call that throws, on both sides; one that doesn't -/
def relX (c : Option zT3) (m : Option (Int32 × zS)) : Prop := ∃ k r σ' b τ', c = some (k, r, σ') ∧ m = some (b, τ') ∧ RR σ' τ' ∧ τ' 0 2 = nI k ∧ k ≤ 2 ∧ (k = 0 → r = b)
def relI (c m : Option (Int32 × zS)) : Prop := ∃ r σ' τ', c = some (r, σ') ∧ m = some (r, τ') ∧ RR σ' τ'
theorem RR.m {σ τ τ' : zS} (h : RR σ τ) (hf : Fm τ τ') : RR σ τ' := by
  obtain ⟨q, na, n, nr, h⟩ := h
  exact ⟨q, na, n, nr, h.m hf⟩
theorem RR.x {σ σ' τ : zS} (h : RR σ τ) (hf : Fx σ σ') : RR σ' τ := by
  obtain ⟨q, na, n, nr, h⟩ := h
  exact ⟨q, na, n, nr, h.x hf⟩
theorem RR.code {σ τ : zS} (h : RR σ τ) (v : Int32) : RR σ (zup τ 0 2 v) := h.m (Fm.rf.up rfl)
theorem relX_1 {σ τ : zS} (h : RR σ τ) : relX (some (1, 0, σ)) (zbd (FX8_fail 0 1 τ) (fun r s => some (r, s))) := ⟨1, 0, σ, 0, zup τ 0 2 1, rfl, rfl, h.code 1, by simp [zup_at]; rfl, by decide, by decide⟩
theorem relX_2 {σ τ : zS} (h : RR σ τ) : relX (some (2, 0, σ)) (zbd (FX8_fail 0 2 τ) (fun r s => some (r, s))) := ⟨2, 0, σ, 0, zup τ 0 2 2, rfl, rfl, h.code 2, by simp [zup_at]; rfl, by decide, by decide⟩
theorem relX_0 {σ τ : zS} {r : Int32} (h : RR σ τ) (h0 : τ 0 2 = 0) : relX (some (0, r, σ)) (some (r, τ)) := ⟨0, r, σ, r, τ, rfl, rfl, h, h0, by decide, fun _ => rfl⟩
/-- ranges -/
def isn (x : Int32) (n : Nat) : Bool := !decide (x < 0) && !decide (nI n ≤ x)
theorem isn_t {x : Int32} {n : Nat} (hn : n < 2 ^ 31) : isn x n = true ↔ ∃ p, p < n ∧ x = nI p := by
  unfold isn
  simp only [Bool.and_eq_true, Bool.not_eq_true', decide_eq_false_iff_not]
  constructor
  · intro ⟨h1, h2⟩
    obtain ⟨j, hj, rfl⟩ := nI_of h1
    exact ⟨j, by rw [nI_leI hn hj] at h2; omega, rfl⟩
  · intro ⟨p, hp, e⟩
    subst e
    exact ⟨nI_pos (by omega), nI_ge hp hn⟩
theorem isn_n {p n : Nat} (hn : n < 2 ^ 31) (h : p < n) : isn (nI p) n = true := (isn_t hn).mpr ⟨p, h, rfl⟩
theorem fhp {k n : Nat} {x : Int32} {σ : zS} (h : σ k 0 = nI n) : FX2_hasPerson k x σ = some (b01 (isn x n), σ) := by
  unfold FX2_hasPerson FX2_hasPerson_b16 FX2_hasPerson_b17 isn
  rw [h]
  by_cases c1 : x < 0
  · simp [c1, zgd_00, zgd_t, b01]
  · by_cases c2 : nI n ≤ x <;> simp [c1, c2, zgd_00, zgd_11, zgd_t, b01]
theorem fha {k n : Nat} {x : Int32} {σ : zS} (h : σ k 0 = nI n) : FX1_hasAisle k x σ = some (b01 (isn x n), σ) := by
  unfold FX1_hasAisle FX1_hasAisle_b16 FX1_hasAisle_b17 isn
  rw [h]
  by_cases c1 : x < 0
  · simp [c1, zgd_00, zgd_t, b01]
  · by_cases c2 : nI n ≤ x <;> simp [c1, c2, zgd_00, zgd_11, zgd_t, b01]
theorem lg_lt (x y : Int64) : lg_cmp x y < 0 ↔ x < y := by
  unfold lg_cmp
  by_cases c : x > y
  · rw [if_pos c]
    exact ⟨fun z => absurd z (by decide), fun z => absurd z (by rw [Int64.lt_iff_toInt_lt]; rw [gt_iff_lt, Int64.lt_iff_toInt_lt] at c; omega)⟩
  · rw [if_neg c]
    by_cases c2 : x = y
    · rw [if_pos c2]
      exact ⟨fun z => absurd z (by decide), fun z => absurd z (by rw [c2, Int64.lt_iff_toInt_lt]; omega)⟩
    · rw [if_neg c2]
      refine ⟨fun _ => ?_, fun _ => by decide⟩
      rw [Int64.lt_iff_toInt_lt]
      rw [gt_iff_lt, Int64.lt_iff_toInt_lt] at c
      have : x.toInt ≠ y.toInt := fun z => c2 (Int64.toInt_inj.mp z)
      omega
theorem lg_gt (x y : Int64) : 0 < lg_cmp x y ↔ y < x := by
  unfold lg_cmp
  by_cases c : x > y
  · rw [if_pos c]
    exact ⟨fun _ => c, fun _ => by decide⟩
  · rw [if_neg c]
    refine ⟨fun z => ?_, fun z => absurd z c⟩
    by_cases c2 : x = y
    · rw [if_pos c2] at z; exact absurd z (by decide)
    · rw [if_neg c2] at z; exact absurd z (by decide)
theorem gIsIn {a b c : Int64} {τ : zS} : FX8_isIn a b c τ = some (b01 (!decide (a < b) && !decide (c < a)), τ) := by
  unfold FX8_isIn FX8_isIn_b17 FX8_isIn_b18
  by_cases c1 : a < b
  · rw [if_pos ((lg_lt a b).mpr c1), decide_eq_true c1]; rfl
  · rw [if_neg (fun z => c1 ((lg_lt a b).mp z)), decide_eq_false c1]
    by_cases c2 : c < a
    · rw [if_pos ((lg_gt a c).mpr c2), decide_eq_true c2]; rfl
    · rw [if_neg (fun z => c2 ((lg_gt a c).mp z)), decide_eq_false c2]; rfl
theorem l64 {a b : Int32} : (Int32.toInt64 a < Int32.toInt64 b) ↔ a < b := by
  rw [Int64.lt_iff_toInt_lt, Int32.lt_iff_toInt_lt, Int32.toInt_toInt64, Int32.toInt_toInt64]
/-- between two ints -/
theorem gIn2 {x : Int32} {a b : Int64} {a' b' : Int32} {τ : zS} (ha : a = Int32.toInt64 a') (hb : b = Int32.toInt64 b') : FX8_isIn (Int32.toInt64 x) a b τ = some (b01 (!decide (x < a') && !decide (b' < x)), τ) := by
  rw [gIsIn, ha, hb]
  simp only [l64]
theorem isn_in {x : Int32} {n : Nat} (hn : n < 2 ^ 31) : (!decide (x < 0) && !decide (nI n - 1 < x)) = isn x n := by
  unfold isn
  by_cases c : x < 0
  · rw [decide_eq_true c]; rfl
  · rw [decide_eq_false c]
    obtain ⟨j, hj, rfl⟩ := nI_of c
    congr 2
    rw [decide_eq_decide, nI_leI hn hj]
    cases n with
    | zero => exact ⟨fun _ => by omega, fun _ => by have := nI_pos' hj; rw [fa_lt]; rw [fa_le] at this; show (-1 : Int) < _; have e : (0 : Int32).toInt = 0 := rfl; omega⟩
    | succ k =>
      rw [nI_pred, nI_ltI (by omega) hj]
      omega
theorem gIp {τ : zS} {n : Nat} {x : Int32} (h8 : n < 2 ^ 31) (e33 : τ 3 3 = nI n) : FX8_isPerson 0 x τ = some (b01 (isn x n), τ) := by
  unfold FX8_isPerson
  simp only [zlet_eq, zbd_s, zgd_t, zinr_s, Nat.zero_add, rn_3, rn_4, rn_5, rn_6, rn_7, rn_8, rn_9, rn_10, rn_11, rn_12, rn_13, rn_14, rn_15, rn_16, rn_17, rn_18, rn_19, rn_20, rn_21, rn_22, rn_23, rn_24, rn_25, rn_26, rn_27, rn_28, rn_29, rn_30, rn_31, rn_32, rn_33, rn_34, rn_35, rn_36, rn_37, rn_38, rn_39, rn_40, tn_0, tn_1, tn_2, tn_3, tn_4, tn_5, tn_6, tn_7, tn_8, zi_18_0, zi_18_1, zi_18_2, zi_18_3, zi_18_4, zi_18_5, zi_18_6, zi_18_7, zi_18_8, zi_7_0, zi_7_1, zi_7_2, zi_7_3, zi_7_4, zi_7_5, zi_7_6, zi_64_0, e33]
  rw [gIn2 (a := 0) (a' := 0) (by decide) rfl, isn_in h8, zbd_s, b01_gd]
theorem gIa {τ : zS} {na : Nat} {x : Int32} (h8 : na < 2 ^ 31) (e30 : τ 3 0 = nI na) : FX8_isAisle 0 x τ = some (b01 (isn x na), τ) := by
  unfold FX8_isAisle
  simp only [zlet_eq, zbd_s, zgd_t, zinr_s, Nat.zero_add, rn_3, rn_4, rn_5, rn_6, rn_7, rn_8, rn_9, rn_10, rn_11, rn_12, rn_13, rn_14, rn_15, rn_16, rn_17, rn_18, rn_19, rn_20, rn_21, rn_22, rn_23, rn_24, rn_25, rn_26, rn_27, rn_28, rn_29, rn_30, rn_31, rn_32, rn_33, rn_34, rn_35, rn_36, rn_37, rn_38, rn_39, rn_40, tn_0, tn_1, tn_2, tn_3, tn_4, tn_5, tn_6, tn_7, tn_8, zi_18_0, zi_18_1, zi_18_2, zi_18_3, zi_18_4, zi_18_5, zi_18_6, zi_18_7, zi_18_8, zi_7_0, zi_7_1, zi_7_2, zi_7_3, zi_7_4, zi_7_5, zi_7_6, zi_64_0, e30]
  rw [gIn2 (a := 0) (a' := 0) (by decide) rfl, isn_in h8, zbd_s, b01_gd]
def ism (x : Int32) : Bool := !decide (x < 1) && !decide (60 < x)
theorem ism_t {x : Int32} : ism x = true ↔ ∃ m, 1 ≤ m ∧ m ≤ 60 ∧ x = nI m := by
  unfold ism
  simp only [Bool.and_eq_true, Bool.not_eq_true', decide_eq_false_iff_not]
  constructor
  · intro ⟨h1, h2⟩
    have h0 : ¬ x < 0 := fun z => h1 (by rw [fa_lt] at *; have e1 : (0 : Int32).toInt = 0 := rfl; have e2 : (1 : Int32).toInt = 1 := rfl; omega)
    obtain ⟨j, hj, rfl⟩ := nI_of h0
    refine ⟨j, ?_, ?_, rfl⟩
    · rcases Nat.eq_zero_or_pos j with z | z
      · subst z; exact absurd (by decide : nI 0 < 1) h1
      · exact z
    · rcases Nat.lt_or_ge 60 j with z | z
      · exact absurd (nI_lt (a := 60) z hj) h2
      · exact z
  · intro ⟨m, h1, h2, e⟩
    subst e
    exact ⟨nI_nlt (b := 1) h1 (by omega), nI_nlt (a := 60) h2 (by decide)⟩
theorem fism {x : Int32} {σ : zS} : FX7_isMinute x σ = some (b01 (ism x), σ) := by
  unfold FX7_isMinute FX7_isMinute_b15 FX7_isMinute_b16 ism
  by_cases c1 : x < 1
  · simp [c1, zgd_00, zgd_t, b01]
  · by_cases c2 : 60 < x <;> simp [c1, c2, zgd_00, zgd_11, zgd_t, b01]
theorem gism {x : Int32} {τ : zS} : FX8_isMinute x τ = some (b01 (ism x), τ) := by
  unfold FX8_isMinute
  rw [gIn2 (a := 1) (b := 60) (a' := 1) (b' := 60) (by decide) (by decide), zbd_s, b01_gd]
  rfl
/-- the class's checks -/
theorem fnp {σ : zS} {q n : Nat} {x : Int32} (hp : rPt σ q) (h7 : σ (q + 7) 0 = nI n) : FX7_needPerson 0 x σ = if isn x n = true then some (0, 0, σ) else some (1, 0, σ) := by
  unfold FX7_needPerson
  simp only [hp.q.2, kd_q (hp.d (Or.inl rfl)), zgd_t, zlet_eq, fhp h7, zbd_s, b01_eq0]
  cases isn x n <;> rfl
theorem fna {σ : zS} {q na : Nat} {x : Int32} (hp : rPt σ q) (h1 : σ (q + 1) 0 = nI na) : FX7_needAisle 0 x σ = if isn x na = true then some (0, 0, σ) else some (1, 0, σ) := by
  unfold FX7_needAisle
  simp only [hp.q.2, kd_q (hp.d (Or.inl rfl)), zgd_t, zlet_eq, fha h1, zbd_s, b01_eq0]
  cases isn x na <;> rfl
theorem fnm {σ : zS} {x : Int32} : FX7_needMinute x σ = if ism x = true then some (0, 0, σ) else some (1, 0, σ) := by
  unfold FX7_needMinute
  simp only [fism, zbd_s, b01_eq0]
  cases ism x <;> rfl
theorem RQ.g {σ σ' τ : zS} {q na n nr : Nat} (h : RQ σ τ q na n nr) (hf : ∀ k j, (k < 24 ∨ 46 ≤ k) → xsc k j = false → ¬ (k = 0 ∧ j = 9) → σ' k j = σ k j) (ht : rTd σ' q na n) : RQ σ' τ q na n nr := by
  obtain ⟨h1, h2, h3, h4, h5, h6, h7⟩ := h
  have f0 : ∀ j, j ≠ 9 → σ' 0 j = σ 0 j := fun j hj => hf 0 j (by decide) (by unfold xsc; simp) (by omega)
  have fr : ∀ k, (1 < k ∧ k ≠ 3 ∧ k < 24) → σ' k = σ k := fun k hk => funext fun j => hf k j (by omega) (xsc_row (by omega) (by omega) (by omega) (by omega) (by omega) (by omega) (by omega) j) (by omega)
  have fs : ss q σ' = ss q σ := by
    have hq := h2.1
    funext i j
    unfold ss
    split
    · rfl
    · next c =>
      refine hf _ _ (by omega) ?_ (by omega)
      unfold xsc
      simp
      omega
  refine ⟨?_, ?_, by rw [fs]; exact h3, h4.x (fun i hi => fr _ (by omega)), ?_, ht, ?_⟩
  · unfold rTp at *
    rw [f0 0 (by decide), f0 1 (by decide), fr 5 (by decide)]
    exact h1
  · unfold rPt at *
    rw [f0 2 (by decide), fr 4 (by decide)]
    exact h2
  · unfold rPi at *
    rw [f0 6 (by decide)]
    exact h5.imp id (fun ⟨a, b, c⟩ => ⟨a, b, c.x (fun i hi => fr _ (by omega))⟩)
  · unfold rLd at *
    rw [f0 12 (by decide), fr 2 (by decide)]
    exact h7
/-- today is known -/
theorem fkt {σ τ : zS} {q na n nr : Nat} (h : RQ σ τ q na n nr) : ∃ σ' d, FX7_knowToday 0 σ = some (0, σ') ∧ RQ σ' τ q na n nr ∧ tdC σ q na d ∧ (∀ k, 8 ≤ k → k ≤ 10 → σ' (24 + k) = mRu (ss q σ) na n d k) ∧ (∀ k, k < 24 → k ≠ 0 → σ' k = σ k) ∧ ∀ j, j ≠ 9 → σ' 0 j = σ 0 j := by
  obtain ⟨h1, h2, h3, h4, h5, h6, h7⟩ := id h
  unfold FX7_knowToday FX7_knowToday_b35
  rcases id h6 with h9 | ⟨h9, d, hd, hc⟩
  · rw [if_pos h9]
    have hdH := h2.d (Or.inl rfl : 24 = 24 ∨ 24 = 35)
    obtain ⟨τ1, g1, g2, g3⟩ := gRdy h (Or.inl rfl : 24 = 24 ∨ 24 = 35)
    obtain ⟨k1, -⟩ := gRun hdH (h3.fr g2) g3 (by decide)
    simp only [h2.q.2, kd_q hdH, zgd_t, zlet_eq, Nat.zero_add, fpr hdH, zbd_s, k1]
    have hT : tdC σ q na (mPr 24 q σ) := by
      have d0 : ∀ j, mPr 24 q σ 0 j = if j = 5 then 0 else if j = 4 then σ 6 3 else if j = 3 then σ 6 2 else if j = 2 then σ 6 1 else if j = 1 then σ 6 0 else exd 24 q σ 0 j := by
        intro j
        unfold mPr
        rw [zrow_at, if_neg (by decide), zrow_at, if_neg (by decide), zrow_at, if_neg (by decide), zup_at, zup_at, zup_at, zup_at, zup_at]
        simp
      refine ⟨by rw [d0]; rfl, by rw [d0]; rfl, by rw [d0]; rfl, by rw [d0]; rfl, by rw [d0]; rfl, fun a ha => ?_⟩
      have ha10 : a < 10 := by have := h3.1.1.1; omega
      unfold mPr
      refine ⟨?_, ?_, ?_⟩
      · rw [zrow_at, if_neg (by decide), zrow_at, if_neg (by decide), zrow_at, if_pos rfl, sb_cpy0 ha10]
      · rw [zrow_at, if_neg (by decide), zrow_at, if_pos rfl, sb_cpy0 ha10]
      · rw [zrow_at, if_pos rfl, sb_cpy0 ha10]
    have hq := h2.1
    have hL : ∀ (D : zS) k j, (k < 24 ∨ 46 ≤ k) → xsc k j = false → dE 24 q σ D k j = σ k j := by
      intro D k j hk hx
      unfold xsc at hx
      simp at hx
      unfold dE
      rw [if_neg (by omega), if_neg (by omega), if_neg (by omega), if_neg (by omega)]
    have hf : ∀ (D : zS) k j, (k < 24 ∨ 46 ≤ k) → xsc k j = false → ¬ (k = 0 ∧ j = 9) → zup (dE 24 q σ D) 0 9 1 k j = σ k j := by
      intro D k j hk hx h9
      rw [zup_at, if_neg h9]
      exact hL D k j hk hx
    have ht : ∀ (D : zS) k, 8 ≤ k → k ≤ 10 → zup (dE 24 q σ D) 0 9 1 (24 + k) = D k := by
      intro D k k1 k2
      rw [zup_n (by omega), dE_k (by omega) k2]
    have hr : ∀ (D : zS) k, k < 24 → k ≠ 0 → k ≠ 1 → k ≠ 3 → zup (dE 24 q σ D) 0 9 1 k = σ k := fun D k k1 k2 k3 k4 => funext fun j => hf D k j (by omega) (xsc_row (by omega) k3 k4 (by omega) (by omega) (by omega) (by omega) j) (by omega)
    have hall : ∀ (D : zS) k j, k < 24 → ¬ (k = 0 ∧ j = 9) → zup (dE 24 q σ D) 0 9 1 k j = σ k j := by
      intro D k j hk h9
      rw [zup_at, if_neg h9]
      unfold dE
      rw [if_neg (by omega), if_neg (by omega), if_neg (by omega), if_neg (by omega)]
    have hss : ∀ D : zS, ss q (zup (dE 24 q σ D) 0 9 1) = ss q σ := by
      intro D
      have e : ss q (zup (dE 24 q σ D) 0 9 1) = ss q (dE 24 q σ D) := by
        funext i j
        unfold ss
        split
        · rfl
        · rw [zup_n (by omega)]
      rw [e, dE_ss hdH]
    refine ⟨_, mPr 24 q σ, rfl, h.g (hf _) (Or.inr ⟨by rw [zup_at, if_pos ⟨rfl, rfl⟩], mPr 24 q σ, ?_, fun k k1 k2 => by rw [ht _ k k1 k2, hss]⟩), hT, fun k k1 k2 => ht _ k k1 k2, fun k k1 k2 => funext fun j => hall _ k j k1 (by omega), fun j hj => hall _ 0 j (by decide) (by omega)⟩
    have hw : zup (dE 24 q σ (mRu (ss q σ) na n (mPr 24 q σ))) 0 9 1 (q + 2) = σ (q + 2) := by
      rw [zup_n (by omega), qr_2 hdH, ss_i (by decide) (by decide)]
    unfold tdC
    rw [hr _ 6 (by decide) (by decide) (by decide) (by decide), hr _ 7 (by decide) (by decide) (by decide) (by decide), hr _ 8 (by decide) (by decide) (by decide) (by decide), hw]
    exact hT
  · rw [if_neg (by rw [h9]; decide)]
    exact ⟨σ, d, rfl, h, hd, hc, fun _ _ _ => rfl, fun _ _ => rfl⟩
