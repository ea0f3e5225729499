/-- b) one way nearer -/
def mJo (S : zS) (a : Int32) (b : Nat) : Bool := bt (rd 10 (S 4) a) b
/-- the first of n that has it -/
def fst0 (P : Nat → Bool) : Nat → Option Nat
  | 0 => none
  | n + 1 => match fst0 P n with | some a => some a | none => if P n then some n else none
theorem fst0_none {P : Nat → Bool} : ∀ {n : Nat}, fst0 P n = none ↔ ∀ a, a < n → P a = false := by
  intro n
  induction n with
  | zero => exact ⟨fun _ a h => by omega, fun _ => rfl⟩
  | succ n ih =>
    show (match fst0 P n with | some a => some a | none => if P n then some n else none) = none ↔ _
    cases e : fst0 P n with
    | some b =>
      refine ⟨fun h => (by cases h), fun h => ?_⟩
      have := ih.mpr (fun a ha => h a (by omega))
      rw [e] at this; cases this
    | none =>
      have h1 := ih.mp e
      show (if P n then some n else none) = none ↔ _
      cases hp : P n with
      | true => exact ⟨fun h => by simp at h, fun h => by have := h n (by omega); rw [hp] at this; cases this⟩
      | false =>
        refine ⟨fun _ a ha => ?_, fun _ => by simp⟩
        by_cases hn : a = n
        · rw [hn]; exact hp
        · exact h1 a (by omega)
theorem fst0_some {P : Nat → Bool} : ∀ {n a : Nat}, fst0 P n = some a ↔ a < n ∧ P a = true ∧ ∀ b, b < a → P b = false := by
  intro n
  induction n with
  | zero => intro a; exact ⟨fun h => (by cases h), fun h => by omega⟩
  | succ n ih =>
    intro a
    show (match fst0 P n with | some a => some a | none => if P n then some n else none) = some a ↔ _
    cases e : fst0 P n with
    | some b =>
      have h1 := ih.mp e
      constructor
      · intro h; cases h; exact ⟨by omega, h1.2⟩
      · intro ⟨h2, h3, h4⟩
        have : a = b := by
          by_cases hab : a < b
          · have := h1.2.2 a hab; rw [h3] at this; cases this
          · by_cases hba : b < a
            · have := h4 b hba; rw [h1.2.1] at this; cases this
            · omega
        rw [this]
    | none =>
      have h1 := fst0_none.mp e
      show (if P n then some n else none) = some a ↔ _
      constructor
      · intro h
        cases hp : P n with
        | true => rw [hp] at h; simp at h; subst h; exact ⟨by omega, hp, h1⟩
        | false => rw [hp] at h; simp at h
      · intro ⟨h2, h3, h4⟩
        have : a = n := by
          by_cases ha : a < n
          · have := h1 a ha; rw [h3] at this; cases this
          · omega
        subst this
        rw [h3]; simp
/-- a loop that ends at the first of n -/
theorem zlp_fst {α β : Type} {f : α → Option (α ⊕ β)} (st : Nat → α) (n : Nat) (P : Nat → Bool) (b0 : β) (b : Nat → β) (h : ∀ p, p < n → f (st p) = if P p then some (.inr (b p)) else some (.inl (st (p + 1)))) (he : f (st n) = some (.inr b0)) : zlp f (st 0) = some (match fst0 P n with | some a => b a | none => b0) := by
  cases e : fst0 P n with
  | none =>
    have h1 := fst0_none.mp e
    exact zlp_for st n (fun p hp => by rw [h p hp, h1 p hp]; rfl) he
  | some a =>
    obtain ⟨h1, h2, h3⟩ := fst0_some.mp e
    exact zlp_for st a (fun p hp => by rw [h p (by omega), h3 p hp]; rfl) (by rw [h a h1, h2]; rfl)
def mNr (S : zS) (n : Nat) (a g : Int32) : Int32 := match (if mBtw S a g = 99 then none else fst0 (fun b => mJo S a b && !decide (mBtw S a g ≤ mBtw S (nI b) g)) n) with | some b => nI b | none => a
theorem fjo {k0 q b : Nat} {σ d : zS} {a : Int32} (h : dH k0 q) (hb : b < 32) : FX1_joins (q + 1) a (nI b) (dE k0 q σ d) = some (b01 (mJo (ss q σ) a b), dE k0 q σ d) := by
  unfold FX1_joins mJo
  simp only [zlet_eq, zbd_s, zgd_t, zinr_s, dE_ptr h, kd_q h, Nat.add_assoc, Nat.reduceAdd, dE_q0 h, dE_ss h, dE_17 h, dE_t h, dU_17 h, dU_t h, dr_1, da_1 h, dp_1 h, dr_2, da_2 h, dp_2 h, dr_3, da_3 h, dp_3 h, dr_4, da_4 h, dp_4 h, dr_5, da_5 h, dp_5 h, dr_6, da_6 h, dp_6 h, dr_7, da_7 h, dp_7 h, dr_8, da_8 h, dp_8 h, dr_9, da_9 h, dp_9 h, dr_10, da_10 h, dp_10 h, qr_2 h, qa_2 h, qr_3 h, qa_3 h, qr_4 h, qa_4 h, qr_5 h, qa_5 h, qr_6 h, qa_6 h, qr_8 h, qa_8 h, qr_9 h, qa_9 h, qr_10 h, qa_10 h, qr_11 h, qa_11 h, qr_12 h, qa_12 h, qr_13 h, qa_13 h, qr_15 h, qa_15 h, qr_16 h, qa_16 h, qr_1 h, qr_7 h, qa_17 h, qp_17 h, q14_0 h, q14_1 h, dg_1, dw_1, dg_2, dw_2, dg_3, dw_3, dg_4, dw_4, dg_5, dw_5, dg_12, dw_12, dg_13, dw_13, rl8_0, pl8_0, rl8_1, pl8_1, rl8_2, pl8_2, rl8_3, pl8_3, rl8_4, pl8_4, rl8_5, pl8_5, rl8_6, pl8_6, rl8_7, pl8_7, pl7_0, pl7_1, pl7_2, pl7_3, pl7_4, pl7_5, pl7_6, fholds _ hb, b01_gd]
theorem fnr {k0 q n : Nat} {σ d : zS} {a g : Int32} (h : dH k0 q) (hn : ss q σ 1 0 = nI n) (h10 : n ≤ 10) : FX1_nearer (q + 1) a g (dE k0 q σ d) = some (mNr (ss q σ) n a g, dE k0 q σ d) := by
  unfold FX1_nearer mNr
  rw [fbtw h, zbd_s, zlet_eq, zlet_eq]
  by_cases c : mBtw (ss q σ) a g = 99
  · rw [if_pos c]
    refine zlp_end ?_
    show FX1_nearer_L10 (q + 1) a g _ 0 _ = _
    unfold FX1_nearer_L10 FX1_nearer_b55
    rw [c]
    simp
    rfl
  · rw [if_neg c]
    refine (zlp_fst (fun p => (nI p, dE k0 q σ d)) n (fun b => mJo (ss q σ) a b && !decide (mBtw (ss q σ) a g ≤ mBtw (ss q σ) (nI b) g)) (a, dE k0 q σ d) (fun b => (nI b, dE k0 q σ d)) (fun p hp => ?_) ?_).trans ?_
    · show FX1_nearer_L10 (q + 1) a g _ (nI p) _ = if (mJo (ss q σ) a p && !decide (mBtw (ss q σ) a g ≤ mBtw (ss q σ) (nI p) g)) = true then some (.inr (nI p, dE k0 q σ d)) else some (.inl (nI (p + 1), dE k0 q σ d))
      unfold FX1_nearer_L10 FX1_nearer_b49 FX1_nearer_b46
      simp only [zlet_eq, zbd_s, zgd_t, zinr_s, dE_ptr h, kd_q h, Nat.add_assoc, Nat.reduceAdd, dE_q0 h, dE_ss h, dE_17 h, dE_t h, dU_17 h, dU_t h, dr_1, da_1 h, dp_1 h, dr_2, da_2 h, dp_2 h, dr_3, da_3 h, dp_3 h, dr_4, da_4 h, dp_4 h, dr_5, da_5 h, dp_5 h, dr_6, da_6 h, dp_6 h, dr_7, da_7 h, dp_7 h, dr_8, da_8 h, dp_8 h, dr_9, da_9 h, dp_9 h, dr_10, da_10 h, dp_10 h, qr_2 h, qa_2 h, qr_3 h, qa_3 h, qr_4 h, qa_4 h, qr_5 h, qa_5 h, qr_6 h, qa_6 h, qr_8 h, qa_8 h, qr_9 h, qa_9 h, qr_10 h, qa_10 h, qr_11 h, qa_11 h, qr_12 h, qa_12 h, qr_13 h, qa_13 h, qr_15 h, qa_15 h, qr_16 h, qa_16 h, qr_1 h, qr_7 h, qa_17 h, qp_17 h, q14_0 h, q14_1 h, dg_1, dw_1, dg_2, dw_2, dg_3, dw_3, dg_4, dw_4, dg_5, dw_5, dg_12, dw_12, dg_13, dw_13, rl8_0, pl8_0, rl8_1, pl8_1, rl8_2, pl8_2, rl8_3, pl8_3, rl8_4, pl8_4, rl8_5, pl8_5, rl8_6, pl8_6, rl8_7, pl8_7, pl7_0, pl7_1, pl7_2, pl7_3, pl7_4, pl7_5, pl7_6, hn, if_neg (nI_ge hp (by omega : n < 2 ^ 31)), if_neg c, fjo h (by omega : p < 32), fbtw h, b01_eq0, nI_1]
      cases h1 : mJo (ss q σ) a p <;> by_cases h2 : mBtw (ss q σ) a g ≤ mBtw (ss q σ) (nI p) g <;> simp [h2]
    · show FX1_nearer_L10 (q + 1) a g _ (nI n) _ = _
      unfold FX1_nearer_L10 FX1_nearer_b55
      simp only [zlet_eq, zbd_s, zgd_t, zinr_s, dE_ptr h, kd_q h, Nat.add_assoc, Nat.reduceAdd, dE_q0 h, dE_ss h, dE_17 h, dE_t h, dU_17 h, dU_t h, dr_1, da_1 h, dp_1 h, dr_2, da_2 h, dp_2 h, dr_3, da_3 h, dp_3 h, dr_4, da_4 h, dp_4 h, dr_5, da_5 h, dp_5 h, dr_6, da_6 h, dp_6 h, dr_7, da_7 h, dp_7 h, dr_8, da_8 h, dp_8 h, dr_9, da_9 h, dp_9 h, dr_10, da_10 h, dp_10 h, qr_2 h, qa_2 h, qr_3 h, qa_3 h, qr_4 h, qa_4 h, qr_5 h, qa_5 h, qr_6 h, qa_6 h, qr_8 h, qa_8 h, qr_9 h, qa_9 h, qr_10 h, qa_10 h, qr_11 h, qa_11 h, qr_12 h, qa_12 h, qr_13 h, qa_13 h, qr_15 h, qa_15 h, qr_16 h, qa_16 h, qr_1 h, qr_7 h, qa_17 h, qp_17 h, q14_0 h, q14_1 h, dg_1, dw_1, dg_2, dw_2, dg_3, dw_3, dg_4, dw_4, dg_5, dw_5, dg_12, dw_12, dg_13, dw_13, rl8_0, pl8_0, rl8_1, pl8_1, rl8_2, pl8_2, rl8_3, pl8_3, rl8_4, pl8_4, rl8_5, pl8_5, rl8_6, pl8_6, rl8_7, pl8_7, pl7_0, pl7_1, pl7_2, pl7_3, pl7_4, pl7_5, pl7_6, hn, if_pos (nI_le (Nat.le_refl n) (by omega : n < 2 ^ 31))]
    · cases fst0 (fun b => mJo (ss q σ) a b && !decide (mBtw (ss q σ) a g ≤ mBtw (ss q σ) (nI b) g)) n <;> rfl
/-- b) the detective follows; the rule r, whom he is told w -/
def mFo1 (S : zS) (na : Nat) (w : Int32) (d : zS) : zS := if w = -1 then d else if rd 8 (d 4) w = -1 then d else zup d 0 12 (mNr S na (d 0 12) (rd 8 (d 4) w))
def mFo (S : zS) (na n : Nat) (m : Int32) (d : zS) : zS :=
  if d 0 12 = -1 then d else if d 0 1 = 3 then d else if d 0 1 = 1 then mFo1 S na (mCh S n (d 0 2).toNatClampNeg m d).1 (mCh S n (d 0 2).toNatClampNeg m d).2.2 else mFo1 S na (d 0 2) d
theorem ffo1 {k0 q na : Nat} {σ d : zS} {w : Int32} (h : dH k0 q) (hna : ss q σ 1 0 = nI na) (h10 : na ≤ 10) : FX0_follow_b37 k0 w (dE k0 q σ d) = some (0, dE k0 q σ (mFo1 (ss q σ) na w d)) := by
  unfold FX0_follow_b37 FX0_follow_b81 mFo1
  simp only [zlet_eq, zbd_s, zgd_t, zinr_s, dE_ptr h, kd_q h, Nat.add_assoc, Nat.reduceAdd, dE_q0 h, dE_ss h, dE_17 h, dE_t h, dU_17 h, dU_t h, dr_1, da_1 h, dp_1 h, dr_2, da_2 h, dp_2 h, dr_3, da_3 h, dp_3 h, dr_4, da_4 h, dp_4 h, dr_5, da_5 h, dp_5 h, dr_6, da_6 h, dp_6 h, dr_7, da_7 h, dp_7 h, dr_8, da_8 h, dp_8 h, dr_9, da_9 h, dp_9 h, dr_10, da_10 h, dp_10 h, qr_2 h, qa_2 h, qr_3 h, qa_3 h, qr_4 h, qa_4 h, qr_5 h, qa_5 h, qr_6 h, qa_6 h, qr_8 h, qa_8 h, qr_9 h, qa_9 h, qr_10 h, qa_10 h, qr_11 h, qa_11 h, qr_12 h, qa_12 h, qr_13 h, qa_13 h, qr_15 h, qa_15 h, qr_16 h, qa_16 h, qr_1 h, qr_7 h, qa_17 h, qp_17 h, q14_0 h, q14_1 h, dg_1, dw_1, dg_2, dw_2, dg_3, dw_3, dg_4, dw_4, dg_5, dw_5, dg_12, dw_12, dg_13, dw_13, rl8_0, pl8_0, rl8_1, pl8_1, rl8_2, pl8_2, rl8_3, pl8_3, rl8_4, pl8_4, rl8_5, pl8_5, rl8_6, pl8_6, rl8_7, pl8_7, pl7_0, pl7_1, pl7_2, pl7_3, pl7_4, pl7_5, pl7_6, fnr h hna h10]
  by_cases c1 : w = -1
  · simp [c1]
  by_cases c2 : rd 8 (d 4) w = -1 <;> simp [c1, c2]
theorem ffo {k0 q na n : Nat} {σ d : zS} {m : Int32} (h : dH k0 q) (hna : ss q σ 1 0 = nI na) (h10 : na ≤ 10) (hn : ss q σ 7 0 = nI n) (h8 : n ≤ 8) (hr : d 0 1 = 1 → ∃ r, d 0 2 = nI r ∧ vR (ss q σ) r) : FX0_follow k0 m (dE k0 q σ d) = some (0, dE k0 q σ (mFo (ss q σ) na n m d)) := by
  unfold FX0_follow FX0_follow_b16 mFo
  simp only [zlet_eq, zbd_s, zgd_t, zinr_s, dE_ptr h, kd_q h, Nat.add_assoc, Nat.reduceAdd, dE_q0 h, dE_ss h, dE_17 h, dE_t h, dU_17 h, dU_t h, dr_1, da_1 h, dp_1 h, dr_2, da_2 h, dp_2 h, dr_3, da_3 h, dp_3 h, dr_4, da_4 h, dp_4 h, dr_5, da_5 h, dp_5 h, dr_6, da_6 h, dp_6 h, dr_7, da_7 h, dp_7 h, dr_8, da_8 h, dp_8 h, dr_9, da_9 h, dp_9 h, dr_10, da_10 h, dp_10 h, qr_2 h, qa_2 h, qr_3 h, qa_3 h, qr_4 h, qa_4 h, qr_5 h, qa_5 h, qr_6 h, qa_6 h, qr_8 h, qa_8 h, qr_9 h, qa_9 h, qr_10 h, qa_10 h, qr_11 h, qa_11 h, qr_12 h, qa_12 h, qr_13 h, qa_13 h, qr_15 h, qa_15 h, qr_16 h, qa_16 h, qr_1 h, qr_7 h, qa_17 h, qp_17 h, q14_0 h, q14_1 h, dg_1, dw_1, dg_2, dw_2, dg_3, dw_3, dg_4, dw_4, dg_5, dw_5, dg_12, dw_12, dg_13, dw_13, rl8_0, pl8_0, rl8_1, pl8_1, rl8_2, pl8_2, rl8_3, pl8_3, rl8_4, pl8_4, rl8_5, pl8_5, rl8_6, pl8_6, rl8_7, pl8_7, pl7_0, pl7_1, pl7_2, pl7_3, pl7_4, pl7_5, pl7_6, ffo1 h hna h10]
  by_cases c1 : d 0 12 = -1
  · rw [if_pos c1, if_pos c1]
  by_cases c2 : d 0 1 = 3
  · rw [if_neg c1, if_pos c2, if_neg c1, if_pos c2]
  by_cases c3 : d 0 1 = 1
  · obtain ⟨r, h1, h2⟩ := hr c3
    rw [if_neg c1, if_neg c2, if_pos c3, if_neg c1, if_neg c2, if_pos c3, fch h hn h8 h2 h1, zbd_s, ffo1 h hna h10, h1, nI_clamp (by have := h2.1; omega)]
  · rw [if_neg c1, if_neg c2, if_neg c3, if_neg c1, if_neg c2, if_neg c3]
/-- c) who notices him -/
def mNh (p : Nat) (d : zS) : zS := if d 5 p = -1 then mMrk d 6 p else zup (mBck (mMrk d 6 p) (d 5 p)) 5 p (-1)
def mNo1 (S : zS) (en : Int32) (p : Nat) (d : zS) : zS :=
  if ¬ d 0 12 = -1 ∧ d 4 p = d 0 12 ∧ S 8 p = 1 then (if d 6 p + 1 < en then zup d 6 p (d 6 p + 1) else mNh p (zup d 6 p (d 6 p + 1)))
  else (if 0 < en then zup d 6 p 0 else mNh p (zup d 6 p 0))
def mNo (S : zS) (n : Nat) (d : zS) : zS := fo (mNo1 S (if d 0 3 = 1 then 1 else S 0 3)) n d
theorem fnh {k0 q p : Nat} {σ d : zS} (h : dH k0 q) (hp : p < 8) : FX0_noticeHim k0 (nI p) (dE k0 q σ d) = some (0, dE k0 q σ (mNh p d)) := by
  unfold FX0_noticeHim FX0_noticeHim_b40 mNh
  simp only [zlet_eq, zbd_s, zgd_t, zinr_s, dE_ptr h, kd_q h, Nat.add_assoc, Nat.reduceAdd, dE_q0 h, dE_ss h, dE_17 h, dE_t h, dU_17 h, dU_t h, dr_1, da_1 h, dp_1 h, dr_2, da_2 h, dp_2 h, dr_3, da_3 h, dp_3 h, dr_4, da_4 h, dp_4 h, dr_5, da_5 h, dp_5 h, dr_6, da_6 h, dp_6 h, dr_7, da_7 h, dp_7 h, dr_8, da_8 h, dp_8 h, dr_9, da_9 h, dp_9 h, dr_10, da_10 h, dp_10 h, qr_2 h, qa_2 h, qr_3 h, qa_3 h, qr_4 h, qa_4 h, qr_5 h, qa_5 h, qr_6 h, qa_6 h, qr_8 h, qa_8 h, qr_9 h, qa_9 h, qr_10 h, qa_10 h, qr_11 h, qa_11 h, qr_12 h, qa_12 h, qr_13 h, qa_13 h, qr_15 h, qa_15 h, qr_16 h, qa_16 h, qr_1 h, qr_7 h, qa_17 h, qp_17 h, q14_0 h, q14_1 h, dg_1, dw_1, dg_2, dw_2, dg_3, dw_3, dg_4, dw_4, dg_5, dw_5, dg_12, dw_12, dg_13, dw_13, rl8_0, pl8_0, rl8_1, pl8_1, rl8_2, pl8_2, rl8_3, pl8_3, rl8_4, pl8_4, rl8_5, pl8_5, rl8_6, pl8_6, rl8_7, pl8_7, pl7_0, pl7_1, pl7_2, pl7_3, pl7_4, pl7_5, pl7_6, fmrk_6 h, rd_n hp (by decide : 8 < 2 ^ 31), pt_n hp (by decide : 8 < 2 ^ 31), mMrk_o (by decide : 5 ≠ 8), fbck h]
  by_cases c : d 5 p = -1 <;> simp [c]
theorem fno {k0 q n : Nat} {σ d : zS} (h : dH k0 q) (hn : ss q σ 7 0 = nI n) (h8 : n ≤ 8) : FX0_notice k0 (dE k0 q σ d) = some (0, dE k0 q σ (mNo (ss q σ) n d)) := by
  have key : ∀ en : Int32, FX0_notice_b19 k0 en (dE k0 q σ d) = some (0, dE k0 q σ (fo (mNo1 (ss q σ) en) n d)) := by
    intro en
    unfold FX0_notice_b19
    rw [zlet_eq, zlet_eq]
    refine zlp_for (fun p => (nI p, dE k0 q σ (fo (mNo1 (ss q σ) en) p d))) n (fun p hp => ?_) ?_
    · show FX0_notice_L22 k0 en (nI p) (dE k0 q σ (fo (mNo1 (ss q σ) en) p d)) = some (.inl (nI (p + 1), dE k0 q σ (mNo1 (ss q σ) en p (fo (mNo1 (ss q σ) en) p d))))
      generalize fo (mNo1 (ss q σ) en) p d = d
      have hp8 : p < 8 := by omega
      unfold FX0_notice_L22 FX0_notice_b63 FX0_notice_b64 FX0_notice_b88 FX0_notice_b117 FX0_notice_b118 FX0_notice_b138 mNo1
      simp only [zlet_eq, zbd_s, zgd_t, zinr_s, dE_ptr h, kd_q h, Nat.add_assoc, Nat.reduceAdd, dE_q0 h, dE_ss h, dE_17 h, dE_t h, dU_17 h, dU_t h, dr_1, da_1 h, dp_1 h, dr_2, da_2 h, dp_2 h, dr_3, da_3 h, dp_3 h, dr_4, da_4 h, dp_4 h, dr_5, da_5 h, dp_5 h, dr_6, da_6 h, dp_6 h, dr_7, da_7 h, dp_7 h, dr_8, da_8 h, dp_8 h, dr_9, da_9 h, dp_9 h, dr_10, da_10 h, dp_10 h, qr_2 h, qa_2 h, qr_3 h, qa_3 h, qr_4 h, qa_4 h, qr_5 h, qa_5 h, qr_6 h, qa_6 h, qr_8 h, qa_8 h, qr_9 h, qa_9 h, qr_10 h, qa_10 h, qr_11 h, qa_11 h, qr_12 h, qa_12 h, qr_13 h, qa_13 h, qr_15 h, qa_15 h, qr_16 h, qa_16 h, qr_1 h, qr_7 h, qa_17 h, qp_17 h, q14_0 h, q14_1 h, dg_1, dw_1, dg_2, dw_2, dg_3, dw_3, dg_4, dw_4, dg_5, dw_5, dg_12, dw_12, dg_13, dw_13, rl8_0, pl8_0, rl8_1, pl8_1, rl8_2, pl8_2, rl8_3, pl8_3, rl8_4, pl8_4, rl8_5, pl8_5, rl8_6, pl8_6, rl8_7, pl8_7, pl7_0, pl7_1, pl7_2, pl7_3, pl7_4, pl7_5, pl7_6, hn, if_neg (nI_ge hp (by omega : n < 2 ^ 31)), rd_n hp8 (by decide : 8 < 2 ^ 31), pt_n hp8 (by decide : 8 < 2 ^ 31), fnh h hp8, zup_s, pk_us, nI_1]
      by_cases c1 : d 0 12 = -1 <;> by_cases c2 : d 4 p = d 0 12 <;> by_cases c3 : ss q σ 8 p = 1 <;> by_cases c4 : d 6 p + 1 < en <;> by_cases c5 : 0 < en <;> simp [c1, c2, c3, c4, c5]
    · show FX0_notice_L22 k0 en (nI n) _ = _
      unfold FX0_notice_L22 FX0_notice_b144
      simp only [zlet_eq, zbd_s, zgd_t, zinr_s, dE_ptr h, kd_q h, Nat.add_assoc, Nat.reduceAdd, dE_q0 h, dE_ss h, dE_17 h, dE_t h, dU_17 h, dU_t h, dr_1, da_1 h, dp_1 h, dr_2, da_2 h, dp_2 h, dr_3, da_3 h, dp_3 h, dr_4, da_4 h, dp_4 h, dr_5, da_5 h, dp_5 h, dr_6, da_6 h, dp_6 h, dr_7, da_7 h, dp_7 h, dr_8, da_8 h, dp_8 h, dr_9, da_9 h, dp_9 h, dr_10, da_10 h, dp_10 h, qr_2 h, qa_2 h, qr_3 h, qa_3 h, qr_4 h, qa_4 h, qr_5 h, qa_5 h, qr_6 h, qa_6 h, qr_8 h, qa_8 h, qr_9 h, qa_9 h, qr_10 h, qa_10 h, qr_11 h, qa_11 h, qr_12 h, qa_12 h, qr_13 h, qa_13 h, qr_15 h, qa_15 h, qr_16 h, qa_16 h, qr_1 h, qr_7 h, qa_17 h, qp_17 h, q14_0 h, q14_1 h, dg_1, dw_1, dg_2, dw_2, dg_3, dw_3, dg_4, dw_4, dg_5, dw_5, dg_12, dw_12, dg_13, dw_13, rl8_0, pl8_0, rl8_1, pl8_1, rl8_2, pl8_2, rl8_3, pl8_3, rl8_4, pl8_4, rl8_5, pl8_5, rl8_6, pl8_6, rl8_7, pl8_7, pl7_0, pl7_1, pl7_2, pl7_3, pl7_4, pl7_5, pl7_6, hn, if_pos (nI_le (Nat.le_refl n) (by omega : n < 2 ^ 31))]
  unfold FX0_notice mNo
  simp only [zlet_eq, zbd_s, zgd_t, zinr_s, dE_ptr h, kd_q h, Nat.add_assoc, Nat.reduceAdd, dE_q0 h, dE_ss h, dE_17 h, dE_t h, dU_17 h, dU_t h, dr_1, da_1 h, dp_1 h, dr_2, da_2 h, dp_2 h, dr_3, da_3 h, dp_3 h, dr_4, da_4 h, dp_4 h, dr_5, da_5 h, dp_5 h, dr_6, da_6 h, dp_6 h, dr_7, da_7 h, dp_7 h, dr_8, da_8 h, dp_8 h, dr_9, da_9 h, dp_9 h, dr_10, da_10 h, dp_10 h, qr_2 h, qa_2 h, qr_3 h, qa_3 h, qr_4 h, qa_4 h, qr_5 h, qa_5 h, qr_6 h, qa_6 h, qr_8 h, qa_8 h, qr_9 h, qa_9 h, qr_10 h, qa_10 h, qr_11 h, qa_11 h, qr_12 h, qa_12 h, qr_13 h, qa_13 h, qr_15 h, qa_15 h, qr_16 h, qa_16 h, qr_1 h, qr_7 h, qa_17 h, qp_17 h, q14_0 h, q14_1 h, dg_1, dw_1, dg_2, dw_2, dg_3, dw_3, dg_4, dw_4, dg_5, dw_5, dg_12, dw_12, dg_13, dw_13, rl8_0, pl8_0, rl8_1, pl8_1, rl8_2, pl8_2, rl8_3, pl8_3, rl8_4, pl8_4, rl8_5, pl8_5, rl8_6, pl8_6, rl8_7, pl8_7, pl7_0, pl7_1, pl7_2, pl7_3, pl7_4, pl7_5, pl7_6, key]
  by_cases c : d 0 3 = 1
  · rw [if_pos c, if_pos c]
  · rw [if_neg c, if_neg c]
/-- whether he sees an aisle -/
def mSe (d : zS) (x : Int32) : Bool := !decide (d 0 12 = -1) && (decide (x = d 0 12) || (!decide (x < 0) && !decide (32 ≤ x) && bt (rd 10 (d 2) (d 0 12)) x.toNatClampNeg))
theorem fholds' {x i : Int32} {σ : zS} : FX7_holds x i σ = some (b01 (!decide (i < 0) && !decide (32 ≤ i) && bt x i.toNatClampNeg), σ) := by
  by_cases c1 : i < 0
  · unfold FX7_holds FX7_holds_b22 FX7_holds_b23
    rw [if_pos c1, decide_eq_true c1]; rfl
  · by_cases c2 : 32 ≤ i
    · unfold FX7_holds FX7_holds_b22 FX7_holds_b23
      rw [if_neg c1, if_pos c2, decide_eq_true c2, decide_eq_false c1]; rfl
    · obtain ⟨j, hj, rfl⟩ := nI_of c1
      have hj2 : j < 32 := by
        by_cases hc : j < 32
        · exact hc
        · exact absurd (nI_le (by omega : 32 ≤ j) hj) c2
      rw [fholds σ hj2, nI_clamp hj, decide_eq_false c1, decide_eq_false c2]; rfl
theorem fse {k0 q : Nat} {σ d : zS} {x : Int32} (h : dH k0 q) : FX0_sees k0 x (dE k0 q σ d) = some (b01 (mSe d x), dE k0 q σ d) := by
  unfold FX0_sees FX0_sees_b34 FX0_sees_b38 FX0_sees_b39 mSe
  simp only [zlet_eq, zbd_s, zgd_t, zinr_s, dE_ptr h, kd_q h, Nat.add_assoc, Nat.reduceAdd, dE_q0 h, dE_ss h, dE_17 h, dE_t h, dU_17 h, dU_t h, dr_1, da_1 h, dp_1 h, dr_2, da_2 h, dp_2 h, dr_3, da_3 h, dp_3 h, dr_4, da_4 h, dp_4 h, dr_5, da_5 h, dp_5 h, dr_6, da_6 h, dp_6 h, dr_7, da_7 h, dp_7 h, dr_8, da_8 h, dp_8 h, dr_9, da_9 h, dp_9 h, dr_10, da_10 h, dp_10 h, qr_2 h, qa_2 h, qr_3 h, qa_3 h, qr_4 h, qa_4 h, qr_5 h, qa_5 h, qr_6 h, qa_6 h, qr_8 h, qa_8 h, qr_9 h, qa_9 h, qr_10 h, qa_10 h, qr_11 h, qa_11 h, qr_12 h, qa_12 h, qr_13 h, qa_13 h, qr_15 h, qa_15 h, qr_16 h, qa_16 h, qr_1 h, qr_7 h, qa_17 h, qp_17 h, q14_0 h, q14_1 h, dg_1, dw_1, dg_2, dw_2, dg_3, dw_3, dg_4, dw_4, dg_5, dw_5, dg_12, dw_12, dg_13, dw_13, rl8_0, pl8_0, rl8_1, pl8_1, rl8_2, pl8_2, rl8_3, pl8_3, rl8_4, pl8_4, rl8_5, pl8_5, rl8_6, pl8_6, rl8_7, pl8_7, pl7_0, pl7_1, pl7_2, pl7_3, pl7_4, pl7_5, pl7_6, fholds', zgd_00, zgd_11, b01_eq0]
  by_cases c1 : d 0 12 = -1
  · simp [c1, b01]
  by_cases c2 : x = d 0 12
  · simp [c2, b01, c1]
  cases c3 : (!decide (x < 0) && !decide (32 ≤ x) && bt (rd 10 (d 2) (d 0 12)) x.toNatClampNeg) <;> simp [c1, c2, b01]
/-- d) who takes -/
def mTk1 (S : zS) (m : Int32) (p : Nat) (d : zS) : zS :=
  if ¬ d 4 p = -1 ∧ mTks S (nI p) m = true ∧ bt (d 8 6) p = false ∧ 0 < rd 10 (d 3) (d 4 p) then
    (if mSe d (d 4 p) = true then zup (mMrk (zup (pt 10 d 3 (d 4 p) (rd 10 (d 3) (d 4 p) - 1)) 5 p (d 4 p)) 5 p) 0 13 (d 0 13 ||| sb p) else zup (pt 10 d 3 (d 4 p) (rd 10 (d 3) (d 4 p) - 1)) 5 p (d 4 p))
  else d
def mTk (S : zS) (m : Int32) (n : Nat) (d : zS) : zS := fo (mTk1 S m) n d
theorem mSe_o {d e : zS} {x : Int32} (h : e 0 = d 0) (h2 : e 2 = d 2) : mSe e x = mSe d x := by unfold mSe; rw [h, h2]
theorem ftk {k0 q n : Nat} {σ d : zS} {m : Int32} (h : dH k0 q) (hn : ss q σ 7 0 = nI n) (h8 : n ≤ 8) : FX0_take k0 m (dE k0 q σ d) = some (0, dE k0 q σ (mTk (ss q σ) m n d)) := by
  unfold FX0_take mTk
  rw [zlet_eq]
  refine zlp_for (fun p => (nI p, dE k0 q σ (fo (mTk1 (ss q σ) m) p d))) n (fun p hp => ?_) ?_
  · show FX0_take_L2 k0 m (nI p) (dE k0 q σ (fo (mTk1 (ss q σ) m) p d)) = some (.inl (nI (p + 1), dE k0 q σ (mTk1 (ss q σ) m p (fo (mTk1 (ss q σ) m) p d))))
    generalize fo (mTk1 (ss q σ) m) p d = d
    have hp8 : p < 8 := by omega
    have hse : mSe (zup (pt 10 d 3 (d 4 p) (rd 10 (d 3) (d 4 p) - 1)) 5 p (d 4 p)) (d 4 p) = mSe d (d 4 p) := mSe_o (by rw [zup_n (by decide), pt_o (by decide)]) (by rw [zup_n (by decide), pt_o (by decide)])
    unfold FX0_take_L2 FX0_take_b65 FX0_take_b66 FX0_take_b138 mTk1
    simp only [zlet_eq, zbd_s, zgd_t, zinr_s, dE_ptr h, kd_q h, Nat.add_assoc, Nat.reduceAdd, dE_q0 h, dE_ss h, dE_17 h, dE_t h, dU_17 h, dU_t h, dr_1, da_1 h, dp_1 h, dr_2, da_2 h, dp_2 h, dr_3, da_3 h, dp_3 h, dr_4, da_4 h, dp_4 h, dr_5, da_5 h, dp_5 h, dr_6, da_6 h, dp_6 h, dr_7, da_7 h, dp_7 h, dr_8, da_8 h, dp_8 h, dr_9, da_9 h, dp_9 h, dr_10, da_10 h, dp_10 h, qr_2 h, qa_2 h, qr_3 h, qa_3 h, qr_4 h, qa_4 h, qr_5 h, qa_5 h, qr_6 h, qa_6 h, qr_8 h, qa_8 h, qr_9 h, qa_9 h, qr_10 h, qa_10 h, qr_11 h, qa_11 h, qr_12 h, qa_12 h, qr_13 h, qa_13 h, qr_15 h, qa_15 h, qr_16 h, qa_16 h, qr_1 h, qr_7 h, qa_17 h, qp_17 h, q14_0 h, q14_1 h, dg_1, dw_1, dg_2, dw_2, dg_3, dw_3, dg_4, dw_4, dg_5, dw_5, dg_12, dw_12, dg_13, dw_13, rl8_0, pl8_0, rl8_1, pl8_1, rl8_2, pl8_2, rl8_3, pl8_3, rl8_4, pl8_4, rl8_5, pl8_5, rl8_6, pl8_6, rl8_7, pl8_7, pl7_0, pl7_1, pl7_2, pl7_3, pl7_4, pl7_5, pl7_6, hn, if_neg (nI_ge hp (by omega : n < 2 ^ 31)), rd_n hp8 (by decide : 8 < 2 ^ 31), pt_n hp8 (by decide : 8 < 2 ^ 31), ftks h, fholds _ (Nat.lt_trans hp8 (by decide : 8 < 32)), b01_eq0, fse h, fmrk_5 h, fbit, hse, mMrk_o (by decide : 0 ≠ 8), zup_n (by decide : 0 ≠ 5), pt_o (by decide : 0 ≠ 3), nI_1]
    by_cases c1 : d 4 p = -1
    · simp [c1]
    cases c2 : mTks (ss q σ) (nI p) m
    · simp [c1]
    cases c3 : bt (d 8 6) p
    · by_cases c4 : rd 10 (d 3) (d 4 p) ≤ 0
      · have c5 : ¬ 0 < rd 10 (d 3) (d 4 p) := by rw [fa_lt]; rw [fa_le] at c4; omega
        simp [c1, c4, c5]
      · have c5 : 0 < rd 10 (d 3) (d 4 p) := by rw [fa_lt]; rw [fa_le] at c4; omega
        cases c6 : mSe d (d 4 p) <;> simp [c1, c4, c5]
    · simp [c1]
  · show FX0_take_L2 k0 m (nI n) _ = _
    unfold FX0_take_L2 FX0_take_b144
    simp only [zlet_eq, zbd_s, zgd_t, zinr_s, dE_ptr h, kd_q h, Nat.add_assoc, Nat.reduceAdd, dE_q0 h, dE_ss h, dE_17 h, dE_t h, dU_17 h, dU_t h, dr_1, da_1 h, dp_1 h, dr_2, da_2 h, dp_2 h, dr_3, da_3 h, dp_3 h, dr_4, da_4 h, dp_4 h, dr_5, da_5 h, dp_5 h, dr_6, da_6 h, dp_6 h, dr_7, da_7 h, dp_7 h, dr_8, da_8 h, dp_8 h, dr_9, da_9 h, dp_9 h, dr_10, da_10 h, dp_10 h, qr_2 h, qa_2 h, qr_3 h, qa_3 h, qr_4 h, qa_4 h, qr_5 h, qa_5 h, qr_6 h, qa_6 h, qr_8 h, qa_8 h, qr_9 h, qa_9 h, qr_10 h, qa_10 h, qr_11 h, qa_11 h, qr_12 h, qa_12 h, qr_13 h, qa_13 h, qr_15 h, qa_15 h, qr_16 h, qa_16 h, qr_1 h, qr_7 h, qa_17 h, qp_17 h, q14_0 h, q14_1 h, dg_1, dw_1, dg_2, dw_2, dg_3, dw_3, dg_4, dw_4, dg_5, dw_5, dg_12, dw_12, dg_13, dw_13, rl8_0, pl8_0, rl8_1, pl8_1, rl8_2, pl8_2, rl8_3, pl8_3, rl8_4, pl8_4, rl8_5, pl8_5, rl8_6, pl8_6, rl8_7, pl8_7, pl7_0, pl7_1, pl7_2, pl7_3, pl7_4, pl7_5, pl7_6, hn, if_pos (nI_le (Nat.le_refl n) (by omega : n < 2 ^ 31))]
/-- e) who is lost out of sight -/
def mLo1 (p : Nat) (d : zS) : zS := if mSe d (d 4 p) = true then d else zup d 0 13 (d 0 13 &&& (sb p ^^^ (-1)))
def mLo (n : Nat) (d : zS) : zS := fo mLo1 n d
theorem flo {k0 q n : Nat} {σ d : zS} (h : dH k0 q) (hn : ss q σ 7 0 = nI n) (h8 : n ≤ 8) : FX0_loseSight k0 (dE k0 q σ d) = some (0, dE k0 q σ (mLo n d)) := by
  unfold FX0_loseSight mLo
  rw [zlet_eq]
  refine zlp_for (fun p => (nI p, dE k0 q σ (fo mLo1 p d))) n (fun p hp => ?_) ?_
  · show FX0_loseSight_L2 k0 (nI p) (dE k0 q σ (fo mLo1 p d)) = some (.inl (nI (p + 1), dE k0 q σ (mLo1 p (fo mLo1 p d))))
    generalize fo mLo1 p d = d
    have hp8 : p < 8 := by omega
    unfold FX0_loseSight_L2 FX0_loseSight_b46 mLo1
    simp only [zlet_eq, zbd_s, zgd_t, zinr_s, dE_ptr h, kd_q h, Nat.add_assoc, Nat.reduceAdd, dE_q0 h, dE_ss h, dE_17 h, dE_t h, dU_17 h, dU_t h, dr_1, da_1 h, dp_1 h, dr_2, da_2 h, dp_2 h, dr_3, da_3 h, dp_3 h, dr_4, da_4 h, dp_4 h, dr_5, da_5 h, dp_5 h, dr_6, da_6 h, dp_6 h, dr_7, da_7 h, dp_7 h, dr_8, da_8 h, dp_8 h, dr_9, da_9 h, dp_9 h, dr_10, da_10 h, dp_10 h, qr_2 h, qa_2 h, qr_3 h, qa_3 h, qr_4 h, qa_4 h, qr_5 h, qa_5 h, qr_6 h, qa_6 h, qr_8 h, qa_8 h, qr_9 h, qa_9 h, qr_10 h, qa_10 h, qr_11 h, qa_11 h, qr_12 h, qa_12 h, qr_13 h, qa_13 h, qr_15 h, qa_15 h, qr_16 h, qa_16 h, qr_1 h, qr_7 h, qa_17 h, qp_17 h, q14_0 h, q14_1 h, dg_1, dw_1, dg_2, dw_2, dg_3, dw_3, dg_4, dw_4, dg_5, dw_5, dg_12, dw_12, dg_13, dw_13, rl8_0, pl8_0, rl8_1, pl8_1, rl8_2, pl8_2, rl8_3, pl8_3, rl8_4, pl8_4, rl8_5, pl8_5, rl8_6, pl8_6, rl8_7, pl8_7, pl7_0, pl7_1, pl7_2, pl7_3, pl7_4, pl7_5, pl7_6, hn, if_neg (nI_ge hp (by omega : n < 2 ^ 31)), rd_n hp8 (by decide : 8 < 2 ^ 31), fse h, fbit, b01_eq0, nI_1]
    cases c : mSe d (d 4 p) <;> simp
  · show FX0_loseSight_L2 k0 (nI n) _ = _
    unfold FX0_loseSight_L2 FX0_loseSight_b52
    simp only [zlet_eq, zbd_s, zgd_t, zinr_s, dE_ptr h, kd_q h, Nat.add_assoc, Nat.reduceAdd, dE_q0 h, dE_ss h, dE_17 h, dE_t h, dU_17 h, dU_t h, dr_1, da_1 h, dp_1 h, dr_2, da_2 h, dp_2 h, dr_3, da_3 h, dp_3 h, dr_4, da_4 h, dp_4 h, dr_5, da_5 h, dp_5 h, dr_6, da_6 h, dp_6 h, dr_7, da_7 h, dp_7 h, dr_8, da_8 h, dp_8 h, dr_9, da_9 h, dp_9 h, dr_10, da_10 h, dp_10 h, qr_2 h, qa_2 h, qr_3 h, qa_3 h, qr_4 h, qa_4 h, qr_5 h, qa_5 h, qr_6 h, qa_6 h, qr_8 h, qa_8 h, qr_9 h, qa_9 h, qr_10 h, qa_10 h, qr_11 h, qa_11 h, qr_12 h, qa_12 h, qr_13 h, qa_13 h, qr_15 h, qa_15 h, qr_16 h, qa_16 h, qr_1 h, qr_7 h, qa_17 h, qp_17 h, q14_0 h, q14_1 h, dg_1, dw_1, dg_2, dw_2, dg_3, dw_3, dg_4, dw_4, dg_5, dw_5, dg_12, dw_12, dg_13, dw_13, rl8_0, pl8_0, rl8_1, pl8_1, rl8_2, pl8_2, rl8_3, pl8_3, rl8_4, pl8_4, rl8_5, pl8_5, rl8_6, pl8_6, rl8_7, pl8_7, pl7_0, pl7_1, pl7_2, pl7_3, pl7_4, pl7_5, pl7_6, hn, if_pos (nI_le (Nat.le_refl n) (by omega : n < 2 ^ 31))]
/-- what is written down of a minute -/
def mNt1 (m : Nat) (p : Nat) (d : zS) : zS := zup d 10 (m * 8 + p) (d 5 p)
def mNt (n m : Nat) (d : zS) : zS := fo (mNt1 m) n (zup d 9 m (d 0 12))
theorem fnt {k0 q n m : Nat} {σ d : zS} (h : dH k0 q) (hn : ss q σ 7 0 = nI n) (h8 : n ≤ 8) (hm : m ≤ 60) : FX0_note k0 (nI m) (dE k0 q σ d) = some (0, dE k0 q σ (mNt n m d)) := by
  unfold FX0_note mNt
  simp only [zlet_eq, zbd_s, zgd_t, zinr_s, dE_ptr h, kd_q h, Nat.add_assoc, Nat.reduceAdd, dE_q0 h, dE_ss h, dE_17 h, dE_t h, dU_17 h, dU_t h, dr_1, da_1 h, dp_1 h, dr_2, da_2 h, dp_2 h, dr_3, da_3 h, dp_3 h, dr_4, da_4 h, dp_4 h, dr_5, da_5 h, dp_5 h, dr_6, da_6 h, dp_6 h, dr_7, da_7 h, dp_7 h, dr_8, da_8 h, dp_8 h, dr_9, da_9 h, dp_9 h, dr_10, da_10 h, dp_10 h, qr_2 h, qa_2 h, qr_3 h, qa_3 h, qr_4 h, qa_4 h, qr_5 h, qa_5 h, qr_6 h, qa_6 h, qr_8 h, qa_8 h, qr_9 h, qa_9 h, qr_10 h, qa_10 h, qr_11 h, qa_11 h, qr_12 h, qa_12 h, qr_13 h, qa_13 h, qr_15 h, qa_15 h, qr_16 h, qa_16 h, qr_1 h, qr_7 h, qa_17 h, qp_17 h, q14_0 h, q14_1 h, dg_1, dw_1, dg_2, dw_2, dg_3, dw_3, dg_4, dw_4, dg_5, dw_5, dg_12, dw_12, dg_13, dw_13, rl8_0, pl8_0, rl8_1, pl8_1, rl8_2, pl8_2, rl8_3, pl8_3, rl8_4, pl8_4, rl8_5, pl8_5, rl8_6, pl8_6, rl8_7, pl8_7, pl7_0, pl7_1, pl7_2, pl7_3, pl7_4, pl7_5, pl7_6, pt_n (by omega : m < 61) (by decide : 61 < 2 ^ 31)]
  generalize zup d 9 m (d 0 12) = d
  refine zlp_for (fun p => (nI p, dE k0 q σ (fo (mNt1 m) p d))) n (fun p hp => ?_) ?_
  · show FX0_note_L14 k0 (nI m) (nI p) (dE k0 q σ (fo (mNt1 m) p d)) = some (.inl (nI (p + 1), dE k0 q σ (mNt1 m p (fo (mNt1 m) p d))))
    generalize fo (mNt1 m) p d = d
    have hp8 : p < 8 := by omega
    have e : nI m * 8 + nI p = nI (m * 8 + p) := by rw [show (8 : Int32) = nI 8 from rfl, pk_mul, nI_add]
    unfold FX0_note_L14 mNt1
    simp only [zlet_eq, zbd_s, zgd_t, zinr_s, dE_ptr h, kd_q h, Nat.add_assoc, Nat.reduceAdd, dE_q0 h, dE_ss h, dE_17 h, dE_t h, dU_17 h, dU_t h, dr_1, da_1 h, dp_1 h, dr_2, da_2 h, dp_2 h, dr_3, da_3 h, dp_3 h, dr_4, da_4 h, dp_4 h, dr_5, da_5 h, dp_5 h, dr_6, da_6 h, dp_6 h, dr_7, da_7 h, dp_7 h, dr_8, da_8 h, dp_8 h, dr_9, da_9 h, dp_9 h, dr_10, da_10 h, dp_10 h, qr_2 h, qa_2 h, qr_3 h, qa_3 h, qr_4 h, qa_4 h, qr_5 h, qa_5 h, qr_6 h, qa_6 h, qr_8 h, qa_8 h, qr_9 h, qa_9 h, qr_10 h, qa_10 h, qr_11 h, qa_11 h, qr_12 h, qa_12 h, qr_13 h, qa_13 h, qr_15 h, qa_15 h, qr_16 h, qa_16 h, qr_1 h, qr_7 h, qa_17 h, qp_17 h, q14_0 h, q14_1 h, dg_1, dw_1, dg_2, dw_2, dg_3, dw_3, dg_4, dw_4, dg_5, dw_5, dg_12, dw_12, dg_13, dw_13, rl8_0, pl8_0, rl8_1, pl8_1, rl8_2, pl8_2, rl8_3, pl8_3, rl8_4, pl8_4, rl8_5, pl8_5, rl8_6, pl8_6, rl8_7, pl8_7, pl7_0, pl7_1, pl7_2, pl7_3, pl7_4, pl7_5, pl7_6, hn, if_neg (nI_ge hp (by omega : n < 2 ^ 31)), rd_n hp8 (by decide : 8 < 2 ^ 31), e, pt_n (by omega : m * 8 + p < 488) (by decide : 488 < 2 ^ 31), nI_1]
  · show FX0_note_L14 k0 (nI m) (nI n) _ = _
    unfold FX0_note_L14 FX0_note_b55
    simp only [zlet_eq, zbd_s, zgd_t, zinr_s, dE_ptr h, kd_q h, Nat.add_assoc, Nat.reduceAdd, dE_q0 h, dE_ss h, dE_17 h, dE_t h, dU_17 h, dU_t h, dr_1, da_1 h, dp_1 h, dr_2, da_2 h, dp_2 h, dr_3, da_3 h, dp_3 h, dr_4, da_4 h, dp_4 h, dr_5, da_5 h, dp_5 h, dr_6, da_6 h, dp_6 h, dr_7, da_7 h, dp_7 h, dr_8, da_8 h, dp_8 h, dr_9, da_9 h, dp_9 h, dr_10, da_10 h, dp_10 h, qr_2 h, qa_2 h, qr_3 h, qa_3 h, qr_4 h, qa_4 h, qr_5 h, qa_5 h, qr_6 h, qa_6 h, qr_8 h, qa_8 h, qr_9 h, qa_9 h, qr_10 h, qa_10 h, qr_11 h, qa_11 h, qr_12 h, qa_12 h, qr_13 h, qa_13 h, qr_15 h, qa_15 h, qr_16 h, qa_16 h, qr_1 h, qr_7 h, qa_17 h, qp_17 h, q14_0 h, q14_1 h, dg_1, dw_1, dg_2, dw_2, dg_3, dw_3, dg_4, dw_4, dg_5, dw_5, dg_12, dw_12, dg_13, dw_13, rl8_0, pl8_0, rl8_1, pl8_1, rl8_2, pl8_2, rl8_3, pl8_3, rl8_4, pl8_4, rl8_5, pl8_5, rl8_6, pl8_6, rl8_7, pl8_7, pl7_0, pl7_1, pl7_2, pl7_3, pl7_4, pl7_5, pl7_6, hn, if_pos (nI_le (Nat.le_refl n) (by omega : n < 2 ^ 31))]
/-- the day's end -/
def mCl1 (S : zS) (p : Nat) (d : zS) : zS := if d 5 p = -1 then d else if S 8 p = 0 then mTal d 4 1 else mBck d (d 5 p)
def mCl (S : zS) (n : Nat) (d : zS) : zS := fo (mCl1 S) n d
theorem fcl {k0 q n : Nat} {σ d : zS} (h : dH k0 q) (hn : ss q σ 7 0 = nI n) (h8 : n ≤ 8) : FX0_close k0 (dE k0 q σ d) = some (0, dE k0 q σ (mCl (ss q σ) n d)) := by
  unfold FX0_close mCl
  rw [zlet_eq]
  refine zlp_for (fun p => (nI p, dE k0 q σ (fo (mCl1 (ss q σ)) p d))) n (fun p hp => ?_) ?_
  · show FX0_close_L2 k0 (nI p) (dE k0 q σ (fo (mCl1 (ss q σ)) p d)) = some (.inl (nI (p + 1), dE k0 q σ (mCl1 (ss q σ) p (fo (mCl1 (ss q σ)) p d))))
    generalize fo (mCl1 (ss q σ)) p d = d
    have hp8 : p < 8 := by omega
    unfold FX0_close_L2 FX0_close_b56 FX0_close_b66 mCl1
    simp only [zlet_eq, zbd_s, zgd_t, zinr_s, dE_ptr h, kd_q h, Nat.add_assoc, Nat.reduceAdd, dE_q0 h, dE_ss h, dE_17 h, dE_t h, dU_17 h, dU_t h, dr_1, da_1 h, dp_1 h, dr_2, da_2 h, dp_2 h, dr_3, da_3 h, dp_3 h, dr_4, da_4 h, dp_4 h, dr_5, da_5 h, dp_5 h, dr_6, da_6 h, dp_6 h, dr_7, da_7 h, dp_7 h, dr_8, da_8 h, dp_8 h, dr_9, da_9 h, dp_9 h, dr_10, da_10 h, dp_10 h, qr_2 h, qa_2 h, qr_3 h, qa_3 h, qr_4 h, qa_4 h, qr_5 h, qa_5 h, qr_6 h, qa_6 h, qr_8 h, qa_8 h, qr_9 h, qa_9 h, qr_10 h, qa_10 h, qr_11 h, qa_11 h, qr_12 h, qa_12 h, qr_13 h, qa_13 h, qr_15 h, qa_15 h, qr_16 h, qa_16 h, qr_1 h, qr_7 h, qa_17 h, qp_17 h, q14_0 h, q14_1 h, dg_1, dw_1, dg_2, dw_2, dg_3, dw_3, dg_4, dw_4, dg_5, dw_5, dg_12, dw_12, dg_13, dw_13, rl8_0, pl8_0, rl8_1, pl8_1, rl8_2, pl8_2, rl8_3, pl8_3, rl8_4, pl8_4, rl8_5, pl8_5, rl8_6, pl8_6, rl8_7, pl8_7, pl7_0, pl7_1, pl7_2, pl7_3, pl7_4, pl7_5, pl7_6, hn, if_neg (nI_ge hp (by omega : n < 2 ^ 31)), rd_n hp8 (by decide : 8 < 2 ^ 31), ftal_4 h, fbck h, nI_1]
    by_cases c1 : d 5 p = -1 <;> by_cases c2 : ss q σ 8 p = 0 <;> simp [c1, c2]
  · show FX0_close_L2 k0 (nI n) _ = _
    unfold FX0_close_L2 FX0_close_b72
    simp only [zlet_eq, zbd_s, zgd_t, zinr_s, dE_ptr h, kd_q h, Nat.add_assoc, Nat.reduceAdd, dE_q0 h, dE_ss h, dE_17 h, dE_t h, dU_17 h, dU_t h, dr_1, da_1 h, dp_1 h, dr_2, da_2 h, dp_2 h, dr_3, da_3 h, dp_3 h, dr_4, da_4 h, dp_4 h, dr_5, da_5 h, dp_5 h, dr_6, da_6 h, dp_6 h, dr_7, da_7 h, dp_7 h, dr_8, da_8 h, dp_8 h, dr_9, da_9 h, dp_9 h, dr_10, da_10 h, dp_10 h, qr_2 h, qa_2 h, qr_3 h, qa_3 h, qr_4 h, qa_4 h, qr_5 h, qa_5 h, qr_6 h, qa_6 h, qr_8 h, qa_8 h, qr_9 h, qa_9 h, qr_10 h, qa_10 h, qr_11 h, qa_11 h, qr_12 h, qa_12 h, qr_13 h, qa_13 h, qr_15 h, qa_15 h, qr_16 h, qa_16 h, qr_1 h, qr_7 h, qa_17 h, qp_17 h, q14_0 h, q14_1 h, dg_1, dw_1, dg_2, dw_2, dg_3, dw_3, dg_4, dw_4, dg_5, dw_5, dg_12, dw_12, dg_13, dw_13, rl8_0, pl8_0, rl8_1, pl8_1, rl8_2, pl8_2, rl8_3, pl8_3, rl8_4, pl8_4, rl8_5, pl8_5, rl8_6, pl8_6, rl8_7, pl8_7, pl7_0, pl7_1, pl7_2, pl7_3, pl7_4, pl7_5, pl7_6, hn, if_pos (nI_le (Nat.le_refl n) (by omega : n < 2 ^ 31))]
/-- one minute; the whole day -/
def mMi (S : zS) (na n m : Nat) (d : zS) : zS := mNt n m (mLo n (mTk S (nI m) n (mNo S n (mFo S na n (nI m) (mWk S (nI m) n d)))))
def mFi (b : Nat) (v : Int32) (n : Nat) (d : zS) : zS := fo (fun i e => zup e b i v) n d
def mSt (na : Nat) (d : zS) : zS :=
  let e := zup (mFi 8 0 8 (mFi 6 0 8 (mFi 5 (-1) 8 (mFi 4 (-1) 8 d)))) 0 13 0
  zup e 0 12 (if d 0 1 = 0 ∨ na = 0 then -1 else if d 0 1 = 3 then d 0 2 else 0)
def mDy (S : zS) (na n : Nat) (m : Nat) (d : zS) : zS := fo (fun i => mMi S na n (i + 1)) m (mSt na d)
def mRu (S : zS) (na n : Nat) (d : zS) : zS := mCl S n (mDy S na n 60 d)
theorem ffi {k0 q b n : Nat} {σ d : zS} {v : Int32} (hl : ln 0 (k0 + b) = n) (h0 : 0 < b) (h1 : b ≤ 10) (hn : n ≤ 1000) : FX7_fillRow (k0 + b) v (dE k0 q σ d) = some (0, dE k0 q σ (mFi b v n d)) := by
  unfold FX7_fillRow mFi
  rw [zlet_eq]
  refine zlp_for (fun p => (nI p, dE k0 q σ (fo (fun i e => zup e b i v) p d))) n (fun p hp => ?_) ?_
  · show FX7_fillRow_L2 (k0 + b) v (nI p) (dE k0 q σ (fo (fun i e => zup e b i v) p d)) = some (.inl (nI (p + 1), dE k0 q σ (zup (fo (fun i e => zup e b i v) p d) b p v)))
    generalize fo (fun i e => zup e b i v) p d = d
    unfold FX7_fillRow_L2
    rw [hl, if_neg (nI_ge hp (by omega)), zin_n _ hp (by omega), zlet_eq, zlet_eq, nI_clamp (by omega), dU_k h0 h1, nI_1]
  · show FX7_fillRow_L2 (k0 + b) v (nI n) _ = _
    unfold FX7_fillRow_L2 FX7_fillRow_b18
    rw [hl, if_pos (nI_le (Nat.le_refl n) (by omega))]
    rfl
/-- what the day leaves as it is told -/
def mKp (j : Nat) (d e : zS) : Prop := e 0 j = d 0 j
theorem zup_0 {d : zS} {k i j : Nat} {v : Int32} (h : k ≠ 0 ∨ i ≠ j) : zup d k i v 0 j = d 0 j := by rw [zup_at, if_neg (by omega)]
theorem mLv_c {S d : zS} {p : Nat} : mLv S p d 0 = d 0 := by
  unfold mLv
  repeat' split
  all_goals simp only [mTal_o (by decide : 0 ≠ 8), mMrk_o (by decide : 0 ≠ 8), mBck_o (by decide : 0 ≠ 3), zup_n (by decide : 0 ≠ 5)]
theorem mWk_c {S d : zS} {n : Nat} {m : Int32} : mWk S m n d 0 = d 0 := by
  unfold mWk
  refine fo_inv (fun _ (e : zS) => e 0 = d 0) rfl (fun p e _ he => ?_)
  unfold mWk1
  repeat' split
  · exact he
  · rw [mLv_c, zup_n (by decide), he]
  · rw [zup_n (by decide), he]
theorem mWk_c1 {S d : zS} {n : Nat} {m : Int32} : mWk S m n d 0 1 = d 0 1 := by rw [mWk_c]
theorem mWk_c2 {S d : zS} {n : Nat} {m : Int32} : mWk S m n d 0 2 = d 0 2 := by rw [mWk_c]
theorem mCh_c {S d : zS} {n r : Nat} {m : Int32} : (mCh S n r m d).2.2 0 = d 0 := by
  unfold mCh
  exact fo_inv (fun _ (t : Int32 × Int32 × zS) => t.2.2 0 = d 0) rfl (fun _ t _ ht => by rw [mCh1_o (by decide) (by decide) (by decide), ht])
theorem mFo1_c {S d : zS} {na j : Nat} {w : Int32} (hj : j ≠ 12) : mFo1 S na w d 0 j = d 0 j := by
  unfold mFo1
  repeat' split
  · rfl
  · rfl
  · exact zup_0 (by omega)
theorem mFo_c {S d : zS} {na n j : Nat} {m : Int32} (hj : j ≠ 12) : mFo S na n m d 0 j = d 0 j := by
  unfold mFo
  repeat' split
  · rfl
  · rfl
  · rw [mFo1_c hj, mCh_c]
  · exact mFo1_c hj
theorem mNh_c {d : zS} {p : Nat} : mNh p d 0 = d 0 := by
  unfold mNh
  split
  · exact mMrk_o (by decide)
  · rw [zup_n (by decide), mBck_o (by decide), mMrk_o (by decide)]
theorem mNo_c {S d : zS} {n : Nat} : mNo S n d 0 = d 0 := by
  have key : ∀ en : Int32, fo (mNo1 S en) n d 0 = d 0 := by
    intro en
    refine fo_inv (fun _ (e : zS) => e 0 = d 0) rfl (fun p e _ he => ?_)
    unfold mNo1
    split
    · split
      · rw [zup_n (by decide), he]
      · rw [mNh_c, zup_n (by decide), he]
    · split
      · rw [zup_n (by decide), he]
      · rw [mNh_c, zup_n (by decide), he]
  exact key _
theorem mTk_c {S d : zS} {n j : Nat} {m : Int32} (hj : j ≠ 13) : mTk S m n d 0 j = d 0 j := by
  unfold mTk
  refine fo_inv (fun _ (e : zS) => e 0 j = d 0 j) rfl (fun p e _ he => ?_)
  unfold mTk1
  split
  · split
    · rw [zup_0 (by omega), mMrk_o (by decide), zup_n (by decide), pt_o (by decide), he]
    · rw [zup_n (by decide), pt_o (by decide), he]
  · exact he
theorem mLo_c {d : zS} {n j : Nat} (hj : j ≠ 13) : mLo n d 0 j = d 0 j := by
  unfold mLo
  refine fo_inv (fun _ (e : zS) => e 0 j = d 0 j) rfl (fun p e _ he => ?_)
  unfold mLo1
  split
  · exact he
  · rw [zup_0 (by omega), he]
theorem mNt_c {d : zS} {n m : Nat} : mNt n m d 0 = d 0 := by
  unfold mNt
  exact fo_inv (fun _ (e : zS) => e 0 = d 0) (zup_n (by decide)) (fun p e _ he => by unfold mNt1; rw [zup_n (by decide), he])
theorem mMi_c {S d : zS} {na n m j : Nat} (h : j ≠ 12) (h2 : j ≠ 13) : mMi S na n m d 0 j = d 0 j := by
  unfold mMi
  rw [mNt_c, mLo_c h2, mTk_c h2, mNo_c, mFo_c h, mWk_c]
theorem mMi_c1 {S d : zS} {na n m : Nat} : mMi S na n m d 0 1 = d 0 1 := mMi_c (by decide) (by decide)
theorem mMi_c2 {S d : zS} {na n m : Nat} : mMi S na n m d 0 2 = d 0 2 := mMi_c (by decide) (by decide)
