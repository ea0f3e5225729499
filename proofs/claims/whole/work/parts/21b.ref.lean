theorem zlp_exit {α β : Type} {f : α → Option (α ⊕ β)} {a : α} {x : Option β} (h : f a = zinr x) : zlp f a = x := by
  cases x with
  | some b => exact zlp_end h
  | none =>
    cases e : zlp f a with
    | none => rfl
    | some b =>
      obtain ⟨k, hk⟩ := zlp_iff.mp e
      cases k with
      | zero => cases hk
      | succ k => unfold zit at hk; rw [h] at hk; cases hk
/-- two loops beside each other -/
theorem zlp_rel {β : Type} {f : Int32 × zS → Option ((Int32 × zS) ⊕ β)} (I : Nat → zS → zS → Prop) (g : Nat → zS → zS) {n : Nat} {τ d : zS} (h0 : I 0 τ d) (hs : ∀ p τ d, p < n → I p τ d → ∃ τ', f (nI p, τ) = some (.inl (nI (p + 1), τ')) ∧ I (p + 1) τ' (g p d)) : ∃ τ', zlp f (0, τ) = zlp f (nI n, τ') ∧ I n τ' (fo g n d) := by
  have : ∀ k, k ≤ n → ∃ τ', zlp f (0, τ) = zlp f (nI k, τ') ∧ I k τ' (fo g k d) := by
    intro k
    induction k with
    | zero => intro _; exact ⟨τ, rfl, h0⟩
    | succ k ih =>
      intro hk
      obtain ⟨τ1, h1, h2⟩ := ih (by omega)
      obtain ⟨τ2, h3, h4⟩ := hs k τ1 _ (by omega) h2
      exact ⟨τ2, by rw [h1, zlp_step h3], h4⟩
  exact this n (Nat.le_refl n)
theorem zup_same {d : zS} {k j : Nat} {v : Int32} (h : d k j = v) : zup d k j v = d := by
  funext a i
  rw [zup_at]
  split
  · next c => rw [c.1, c.2, h]
  · rfl
/-- the place of somebody in his route behind a minute -/
def pX (S : zS) (p m : Nat) : Int32 := if m < (S 9 p).toNatClampNeg then -1 else if m - (S 9 p).toNatClampNeg < (S 12 p).toNatClampNeg then nI (m - (S 9 p).toNatClampNeg) else if S 13 (12 * p + ((S 12 p).toNatClampNeg - 1)) = 0 then -2 else nI ((S 12 p).toNatClampNeg - 1)
def pV (S : zS) (aw : Int32) (p m : Nat) : Int32 := if bt aw p = true then -1 else pX S p m
theorem pX_p {τ S : zS} {na p c t l m : Nat} (h : rP τ S na p c t l) : pX S p m = if m < c then -1 else if m - c < l then nI (m - c) else if S 13 (12 * p + (l - 1)) = 0 then -2 else nI (l - 1) := by
  obtain ⟨-, -, -, -, -, h1, -, h2, h3, h4, h5, h6, -⟩ := h
  unfold pX
  rw [h1, h2, nI_clamp (by omega), nI_clamp (by omega)]
theorem mStp_p {S : zS} {p i : Nat} (hp : p < 8) (hi : i < 12) : mStp S (nI p) (nI i) = S 13 (12 * p + i) := by
  unfold mStp
  have e : nI p * 12 + nI i = nI (12 * p + i) := by rw [show (12 : Int32) = nI 12 from rfl, pk_mul, nI_add, Nat.mul_comm]
  rw [e, rd_n (by omega) (by decide)]
theorem mLst_p {τ S : zS} {na p c t l : Nat} (hp : p < 8) (h : rP τ S na p c t l) : mLst S (nI p) = S 13 (12 * p + (l - 1)) := by
  obtain ⟨-, -, -, -, -, h1, -, h2, h3, h4, h5, h6, -⟩ := h
  unfold mLst
  rw [rd_n hp (by decide), h2]
  obtain ⟨k, rfl⟩ : ∃ k, l = k + 1 := ⟨l - 1, by omega⟩
  rw [nI_pred, mStp_p hp (by omega)]
  rfl
theorem mPl_p {τ S : zS} {na p c t l m : Nat} (hp : p < 8) (hm : m ≤ 60) (h : rP τ S na p c t l) : mPl S (nI p) (nI m) = if m < c then -1 else if m - c < l then S 13 (12 * p + (m - c)) else if S 13 (12 * p + (l - 1)) = 0 then -1 else S 13 (12 * p + (l - 1)) := by
  have hl := mLst_p hp h
  obtain ⟨-, -, -, -, -, h1, -, h2, h3, h4, h5, h6, -⟩ := h
  unfold mPl
  rw [rd_n hp (by decide), rd_n hp (by decide), h1, h2, hl]
  by_cases c1 : m < c
  · have : ¬ 0 ≤ nI m - nI c := by
      have := pk_sneg (a := m) (b := c) (by omega) c1
      rw [fa_lt] at this
      rw [fa_le]
      omega
    rw [if_neg this, if_pos c1]
  · rw [pk_sub (by omega), if_pos (nI_pos' (by omega)), if_neg c1]
    by_cases c2 : m - c < l
    · rw [if_neg (nI_ge c2 (by omega)), if_pos c2, mStp_p hp (by omega)]
    · rw [if_pos (nI_le (by omega) (by omega)), if_neg c2]
theorem mLvs_p {τ S : zS} {na p c t l m : Nat} (hp : p < 8) (hm : m ≤ 60) (h : rP τ S na p c t l) : mLvs S (nI p) (nI m) = (decide (m = c + l) && decide (S 13 (12 * p + (l - 1)) = 0)) := by
  have hl := mLst_p hp h
  obtain ⟨-, -, -, -, -, h1, -, h2, h3, h4, h5, h6, -⟩ := h
  unfold mLvs
  rw [rd_n hp (by decide), rd_n hp (by decide), h1, h2, hl, nI_add]
  congr 1
  exact decide_eq_decide.mpr (nI_eq (by omega) (by omega))
theorem mWk1_c {S d : zS} {p : Nat} {m : Int32} : mWk1 S m p d 0 = d 0 := by
  unfold mWk1
  repeat' split
  · rfl
  · rw [mLv_c, zup_n (by decide)]
  · rw [zup_n (by decide)]
theorem fa_upd_same {f : Nat → Int32} {i : Nat} {x : Int32} (h : f i = x) : upd f i x = f := by
  funext j
  unfold upd
  split
  · next e => rw [e, h]
  · rfl
theorem gW_base {τ : zS} {n p c m : Nat} {aw : Int32} (h8 : n ≤ 8) (hp : p < n) (hm : m ≤ 60) (hc : c ≤ 60) (e3 : τ 3 3 = nI n) (g9 : τ 9 p = nI c) (hcm : bt (τ 0 50) p = !bt aw p) : FX8_minuteNow_L2 0 (nI m) (nI p) τ = if m = c then (if bt aw p = true then FX8_minuteNow_b43 0 (nI m) (nI p) τ else some (.inl (nI (p + 1), zup τ 24 p 0))) else FX8_minuteNow_b43 0 (nI m) (nI p) τ := by
  have hp8 : p < 8 := by omega
  unfold FX8_minuteNow_L2 FX8_minuteNow_b102
  simp only [zlet_eq, zbd_s, zgd_t, zinr_s, Nat.zero_add, rn_3, rn_4, rn_5, rn_6, rn_7, rn_8, rn_9, rn_10, rn_11, rn_12, rn_13, rn_14, rn_15, rn_16, rn_17, rn_18, rn_19, rn_20, rn_21, rn_22, rn_23, rn_24, rn_25, rn_26, rn_27, rn_28, rn_29, rn_30, rn_31, rn_32, rn_33, rn_34, rn_35, rn_36, rn_37, rn_38, rn_39, rn_40, tn_0, tn_1, tn_2, tn_3, tn_4, tn_5, tn_6, tn_7, tn_8, zi_18_0, zi_18_1, zi_18_2, zi_18_3, zi_18_4, zi_18_5, zi_18_6, zi_18_7, zi_18_8, zi_7_0, zi_7_1, zi_7_2, zi_7_3, zi_7_4, zi_7_5, zi_7_6, zi_64_0, e3, if_neg (nI_ge hp (by omega : n < 2 ^ 31)), zin_n _ (by omega : p < 16) (by decide : 16 < 2 ^ 31), zin_n _ hp8 (by decide : 8 < 2 ^ 31), nI_clamp (by omega : p < 2 ^ 31), g9, nI_eq (by omega : m < 2 ^ 31) (by omega : c < 2 ^ 31), fisOf _ (Nat.lt_trans hp8 (by decide : 8 < 32)), hcm, b01_eq0, nI_1, Bool.not_eq_false']
theorem gW_out {τ : zS} {p m : Nat} (hp8 : p < 8) (hneg : τ 24 p < 0) : FX8_minuteNow_b43 0 (nI m) (nI p) τ = some (.inl (nI (p + 1), τ)) := by
  unfold FX8_minuteNow_b43 FX8_minuteNow_b81 FX8_minuteNow_b102
  simp only [zlet_eq, zbd_s, zgd_t, zinr_s, Nat.zero_add, rn_3, rn_4, rn_5, rn_6, rn_7, rn_8, rn_9, rn_10, rn_11, rn_12, rn_13, rn_14, rn_15, rn_16, rn_17, rn_18, rn_19, rn_20, rn_21, rn_22, rn_23, rn_24, rn_25, rn_26, rn_27, rn_28, rn_29, rn_30, rn_31, rn_32, rn_33, rn_34, rn_35, rn_36, rn_37, rn_38, rn_39, rn_40, tn_0, tn_1, tn_2, tn_3, tn_4, tn_5, tn_6, tn_7, tn_8, zi_18_0, zi_18_1, zi_18_2, zi_18_3, zi_18_4, zi_18_5, zi_18_6, zi_18_7, zi_18_8, zi_7_0, zi_7_1, zi_7_2, zi_7_3, zi_7_4, zi_7_5, zi_7_6, zi_64_0, gIn hp8, hneg, decide_true, Bool.not_true, b01_f, if_true, nI_1]
theorem gW_st {τ : zS} {p m i l : Nat} (hp8 : p < 8) (hi : τ 24 p = nI i) (hi12 : i < 12) (g12 : τ 12 p = nI l) (hl : l ≤ 12) : FX8_minuteNow_b43 0 (nI m) (nI p) τ = if l ≤ i + 1 then (if τ 13 (12 * p + i) = 0 then zbd (FX8_leave 0 (nI p) τ) (fun _ σ => some (.inl (nI (p + 1), σ))) else some (.inl (nI (p + 1), τ))) else some (.inl (nI (p + 1), zup τ 24 p (nI (i + 1)))) := by
  have hneg : ¬ nI i < 0 := nI_pos (by omega)
  unfold FX8_minuteNow_b43 FX8_minuteNow_b81 FX8_minuteNow_b102
  simp only [zlet_eq, zbd_s, zgd_t, zinr_s, Nat.zero_add, rn_3, rn_4, rn_5, rn_6, rn_7, rn_8, rn_9, rn_10, rn_11, rn_12, rn_13, rn_14, rn_15, rn_16, rn_17, rn_18, rn_19, rn_20, rn_21, rn_22, rn_23, rn_24, rn_25, rn_26, rn_27, rn_28, rn_29, rn_30, rn_31, rn_32, rn_33, rn_34, rn_35, rn_36, rn_37, rn_38, rn_39, rn_40, tn_0, tn_1, tn_2, tn_3, tn_4, tn_5, tn_6, tn_7, tn_8, zi_18_0, zi_18_1, zi_18_2, zi_18_3, zi_18_4, zi_18_5, zi_18_6, zi_18_7, zi_18_8, zi_7_0, zi_7_1, zi_7_2, zi_7_3, zi_7_4, zi_7_5, zi_7_6, zi_64_0, gIn hp8, hi, hneg, decide_false, Bool.not_false, b01_t, show ¬ (1 : Int32) = 0 from by decide, if_false, nI_1, zin_n _ hp8 (by decide : 8 < 2 ^ 31), zin_n _ (by omega : p < 16) (by decide : 16 < 2 ^ 31), nI_clamp (by omega : p < 2 ^ 31), g12, gAi hp8 hi12 hi, nI_leI (by omega : l < 2 ^ 31) (by omega : i + 1 < 2 ^ 31)]
/-- a) people walk, on both sides -/
theorem gWk {τ0 S : zS} {na n nr m : Nat} (hS : rS τ0 S na n nr) (hm0 : 1 ≤ m) (hm : m ≤ 60) {τ d : zS} (hF : Fr τ0 τ) (hD : rD τ S na n d) (hp : ∀ q, q < n → τ 24 q = pV S (d 0 5) q (m - 1)) :
    ∃ τ', FX8_minuteNow 0 (nI m) τ = FX8_minuteNow_b108 0 (nI m) τ' ∧ Fr τ0 τ' ∧ rD τ' S na n (mWk S (nI m) n d) ∧ ∀ q, q < n → τ' 24 q = pV S (d 0 5) q m := by
  obtain ⟨⟨h10, -, -⟩, ⟨h8, hSn, -⟩, -⟩ := id hS
  unfold FX8_minuteNow mWk
  rw [zlet_eq]
  have hs : ∀ (p : Nat) (τ d' : zS), p < n → (Fr τ0 τ ∧ rD τ S na n d' ∧ d' 0 5 = d 0 5 ∧ ∀ q, q < n → τ 24 q = pV S (d 0 5) q (if q < p then m else m - 1)) → ∃ τ', FX8_minuteNow_L2 0 (nI m) (nI p) τ = some (.inl (nI (p + 1), τ')) ∧ (Fr τ0 τ' ∧ rD τ' S na n (mWk1 S (nI m) p d') ∧ (mWk1 S (nI m) p d') 0 5 = d 0 5 ∧ ∀ q, q < n → τ' 24 q = pV S (d 0 5) q (if q < p + 1 then m else m - 1)) := by
    intro p τ d' hp ⟨hF, hD, hw, hpl⟩
    have hp8 : p < 8 := by omega
    have hSt := hS.fr hF
    obtain ⟨-, ⟨-, -, e3⟩, -, -, -, hPs, -, -⟩ := id hSt
    obtain ⟨c, t, l, hP⟩ := hPs p hp
    have hpp := hpl p hp
    rw [if_neg (by omega)] at hpp
    have hcm := hD.1.2.2.2.2.2 p hp
    have hWp := hD.2.2.2.2.2 p hp
    have hpX := fun k => pX_p (m := k) hP
    have hmP := mPl_p hp8 hm hP
    have hmL := mLvs_p hp8 hm hP
    have hLv := gLv h10 h8 hp hP hD
    obtain ⟨-, g9, -, -, g12, f9, -, f12, q1, q2, q3, q4, q5, hR⟩ := id hP
    rw [hw] at hcm
    -- where he is when the place of p alone has changed
    have hpl2 : ∀ (τ2 : zS) (v : Int32), τ2 24 = upd (τ 24) p v → v = pV S (d 0 5) p m → ∀ q, q < n → τ2 24 q = pV S (d 0 5) q (if q < p + 1 then m else m - 1) := by
      intro τ2 v hu hv q hq
      rw [hu]
      by_cases e : q = p
      · subst e; rw [pk_us, if_pos (by omega)]; exact hv
      · rw [pk_un e, hpl q hq]
        by_cases e2 : q < p
        · rw [if_pos e2, if_pos (by omega)]
        · rw [if_neg e2, if_neg (by omega)]
    have hsame : ∀ v : Int32, τ 24 p = v → τ 24 = upd (τ 24) p v := fun v hv => (fa_upd_same hv).symm
    rw [gW_base h8 hp hm q2 hSt.2.1.2.2 (g9.trans f9) hcm]
    have hout : τ 24 p < 0 → FX8_minuteNow_b43 0 (nI m) (nI p) τ = some (.inl (nI (p + 1), τ)) := gW_out hp8
    have hst := fun i (h : τ 24 p = nI i) (h2 : i < 12) => gW_st (m := m) hp8 h h2 (g12.trans f12) q4
    have hmw : mWk1 S (nI m) p d' = if bt (d 0 5) p = true then d' else if d' 5 p ≠ -1 ∧ (m = c + l ∧ S 13 (12 * p + (l - 1)) = 0) then mLv S p (zup d' 4 p (mPl S (nI p) (nI m))) else zup d' 4 p (mPl S (nI p) (nI m)) := by
      unfold mWk1
      rw [hw, hmL]
      simp only [Bool.and_eq_true, decide_eq_true_eq]
    have hc05 : (mWk1 S (nI m) p d') 0 5 = d 0 5 := by rw [← hw]; exact congrFun mWk1_c 5
    cases hb : bt (d 0 5) p
    · have hv : ∀ k, pV S (d 0 5) p k = pX S p k := fun k => by unfold pV; rw [hb, if_neg (by decide)]
      rw [hv] at hpp
      simp only [hb, Bool.false_eq_true, if_false] at hmw ⊢
      by_cases m1 : m < c
      · -- not yet
        rw [hpX, if_pos (by omega)] at hpp
        have hd4 : d' 4 p = -1 := by
          rcases hWp with h | ⟨i, a, h1, h2, h3, h4, h5⟩
          · exact h.2
          · rw [hpp] at h3; exact absurd h3.symm (nI_m1 (by omega))
        rw [if_neg (by omega), hout (by rw [hpp]; decide)]
        refine ⟨τ, rfl, hF, ?_, hc05, hpl2 τ (-1) (hsame _ hpp) (by rw [hv, hpX, if_pos m1])⟩
        rw [hmw, if_neg (by omega), hmP, if_pos m1, zup_same hd4]
        exact hD
      by_cases m2 : m = c
      · -- he comes
        subst m2
        rw [if_pos rfl]
        obtain ⟨hr1, a, ha, hr2⟩ := hR 0 (by omega)
        refine ⟨_, rfl, hF.up rfl, ?_, hc05, hpl2 _ 0 zup_s (by rw [hv, hpX, if_neg m1, if_pos (by omega), Nat.sub_self]; rfl)⟩
        rw [hmw, if_neg (by omega), hmP, if_neg m1, if_pos (by omega), Nat.sub_self]
        refine hD.place (fun _ => Or.inr ⟨0, a, by omega, ha, by simp [zup_at]; rfl, ?_, ?_⟩)
        · rw [zup_n (by decide), hr1, hr2]
        · rw [zup_at, if_pos ⟨rfl, rfl⟩, hr2]
      rw [if_neg m2]
      by_cases m3 : m - c < l
      · -- he goes on
        have e1 : m - 1 - c + 1 = m - c := by omega
        rw [hpX, if_neg (by omega), if_pos (by omega)] at hpp
        rw [hst _ hpp (by omega), if_neg (by omega), e1]
        obtain ⟨hr1, a, ha, hr2⟩ := hR (m - c) (by omega)
        refine ⟨_, rfl, hF.up rfl, ?_, hc05, hpl2 _ (nI (m - c)) zup_s (by rw [hv, hpX, if_neg m1, if_pos m3])⟩
        rw [hmw, if_neg (by omega), hmP, if_neg m1, if_pos m3]
        refine hD.place (fun _ => Or.inr ⟨m - c, a, by omega, ha, by simp [zup_at], ?_, ?_⟩)
        · rw [zup_n (by decide), hr1, hr2]
        · rw [zup_at, if_pos ⟨rfl, rfl⟩, hr2]
      obtain ⟨hr1, a, ha, hr2⟩ := hR (l - 1) (by omega)
      by_cases m4 : S 13 (12 * p + (l - 1)) = 0
      · by_cases m5 : m = c + l
        · -- he leaves
          have e1 : m - 1 - c = l - 1 := by omega
          rw [hpX, if_neg (by omega), if_pos (by omega), e1] at hpp
          rw [hst _ hpp (by omega), if_pos (by omega), hr1, m4, if_pos rfl]
          obtain ⟨τ2, k1, k2, k3, k4⟩ := hLv
          refine ⟨τ2, by rw [k1]; rfl, hF.tr k2, ?_, hc05, hpl2 _ (-2) k4 (by rw [hv, hpX, if_neg m1, if_neg m3, if_pos m4])⟩
          rw [hmw, hmP, if_neg m1, if_neg m3, if_pos m4]
          by_cases h5 : d' 5 p = -1
          · rw [if_pos h5] at k3
            rw [if_neg (by simp [h5])]
            exact k3
          · rw [if_neg h5] at k3
            rw [if_pos ⟨h5, m5, m4⟩]
            exact k3
        · -- he has left
          rw [hpX, if_neg (by omega), if_neg (by omega), if_pos m4] at hpp
          have hd4 : d' 4 p = -1 := by
            rcases hWp with h | ⟨i, a, h1, h2, h3, h4, h5⟩
            · exact h.2
            · rw [hpp] at h3
              exact absurd (by rw [← h3]; decide : nI i < 0) (nI_pos (by omega))
          rw [hout (by rw [hpp]; decide)]
          refine ⟨τ, rfl, hF, ?_, hc05, hpl2 τ (-2) (hsame _ hpp) (by rw [hv, hpX, if_neg m1, if_neg m3, if_pos m4])⟩
          rw [hmw, if_neg (by omega), hmP, if_neg m1, if_neg m3, if_pos m4, zup_same hd4]
          exact hD
      · -- he stays at the end of his route
        have hpp2 : τ 24 p = nI (l - 1) := by
          rw [hpp, hpX, if_neg (by omega)]
          by_cases m5 : m - 1 - c < l
          · rw [if_pos m5, show m - 1 - c = l - 1 from by omega]
          · rw [if_neg m5, if_neg m4]
        rw [hst _ hpp2 (by omega), if_pos (by omega), hr1, if_neg m4]
        have hd4 : d' 4 p = S 13 (12 * p + (l - 1)) := by
          rcases hWp with h | ⟨i, a', h1, h2, h3, h4, h5⟩
          · rw [hpp2] at h; exact absurd h.1 (nI_pos (by omega))
          · rw [hpp2] at h3
            have := (nI_eq (by omega) (by omega)).mp h3
            subst this
            rw [h5, ← h4, hr1]
        refine ⟨τ, rfl, hF, ?_, hc05, hpl2 τ (nI (l - 1)) (hsame _ hpp2) (by rw [hv, hpX, if_neg m1, if_neg m3, if_neg m4])⟩
        rw [hmw, if_neg (by intro z; exact m4 z.2.2), hmP, if_neg m1, if_neg m3, if_neg m4, zup_same hd4]
        exact hD
    · have hv : ∀ k, pV S (d 0 5) p k = -1 := fun k => by unfold pV; rw [hb, if_pos rfl]
      rw [hv] at hpp
      simp only [hb, if_true] at hmw ⊢
      rw [hout (by rw [hpp]; decide)]
      refine ⟨τ, by split <;> rfl, hF, by rw [hmw]; exact hD, hc05, hpl2 τ (-1) (hsame _ hpp) (hv m).symm⟩
  obtain ⟨τ', h1, ⟨h2, h3, h4, h5⟩⟩ := zlp_rel (f := fun q => FX8_minuteNow_L2 0 (nI m) q.1 q.2) (fun p τ e => Fr τ0 τ ∧ rD τ S na n e ∧ e 0 5 = d 0 5 ∧ ∀ q, q < n → τ 24 q = pV S (d 0 5) q (if q < p then m else m - 1)) (mWk1 S (nI m)) (n := n) (τ := τ) (d := d) ⟨hF, hD, rfl, fun q hq => by rw [if_neg (by omega)]; exact hp q hq⟩ hs
  refine ⟨τ', ?_, h2, h3, fun q hq => by have := h5 q hq; rw [if_pos hq] at this; exact this⟩
  rw [h1]
  refine zlp_exit ?_
  have e3 := (hS.fr h2).2.1.2.2
  show FX8_minuteNow_L2 0 (nI m) (nI n) τ' = _
  unfold FX8_minuteNow_L2
  simp only [zlet_eq, zbd_s, zgd_t, zinr_s, Nat.zero_add, rn_3, rn_4, rn_5, rn_6, rn_7, rn_8, rn_9, rn_10, rn_11, rn_12, rn_13, rn_14, rn_15, rn_16, rn_17, rn_18, rn_19, rn_20, rn_21, rn_22, rn_23, rn_24, rn_25, rn_26, rn_27, rn_28, rn_29, rn_30, rn_31, rn_32, rn_33, rn_34, rn_35, rn_36, rn_37, rn_38, rn_39, rn_40, tn_0, tn_1, tn_2, tn_3, tn_4, tn_5, tn_6, tn_7, tn_8, zi_18_0, zi_18_1, zi_18_2, zi_18_3, zi_18_4, zi_18_5, zi_18_6, zi_18_7, zi_18_8, zi_7_0, zi_7_1, zi_7_2, zi_7_3, zi_7_4, zi_7_5, zi_7_6, zi_64_0, e3, if_pos (nI_le (Nat.le_refl n) (by omega : n < 2 ^ 31))]
