/-! the texts' bytes, and what a TOKEN is, on both sides -/
def bl (c : Int32) : Bool := decide (c = 32) || decide (c = 10)
def ltr (c : Int32) : Bool := !decide (c < 97) && !decide (122 < c)
def dg (c : Int32) : Bool := !decide (c < 48) && !decide (57 < c)
def mkd (c : Int32) : Bool := decide (c = 59) || decide (c = 40) || decide (c = 41) || decide (c = 43) || decide (c = 45) || decide (c = 42) || decide (c = 47) || decide (c = 60) || decide (c = 61)
theorem fbl {c : Int32} {s : zS} : FX3_isBlank c s = some (b01 (bl c), s) := by
  unfold FX3_isBlank FX3_isBlank_b12 FX3_isBlank_b17 bl
  rw [zgd_11, zgd_00]
  by_cases c1 : c = 32
  · rw [if_pos c1, decide_eq_true c1]; rfl
  by_cases c2 : c = 10
  · rw [if_neg c1, if_pos c2, decide_eq_true c2, decide_eq_false c1]; rfl
  · rw [if_neg c1, if_neg c2, decide_eq_false c1, decide_eq_false c2]; rfl
theorem fltr {c : Int32} {s : zS} : FX3_isLetter c s = some (b01 (ltr c), s) := by
  unfold FX3_isLetter FX3_isLetter_b16 FX3_isLetter_b17 ltr
  rw [zgd_11, zgd_00]
  by_cases c1 : c < 97
  · rw [if_pos c1, decide_eq_true c1]; rfl
  by_cases c2 : 122 < c
  · rw [if_neg c1, if_pos c2, decide_eq_true c2, decide_eq_false c1]; rfl
  · rw [if_neg c1, if_neg c2, decide_eq_false c1, decide_eq_false c2]; rfl
theorem fdg {c : Int32} {s : zS} : FX3_isDigit c s = some (b01 (dg c), s) := by
  unfold FX3_isDigit FX3_isDigit_b16 FX3_isDigit_b17 dg
  rw [zgd_11, zgd_00]
  by_cases c1 : c < 48
  · rw [if_pos c1, decide_eq_true c1]; rfl
  by_cases c2 : 57 < c
  · rw [if_neg c1, if_pos c2, decide_eq_true c2, decide_eq_false c1]; rfl
  · rw [if_neg c1, if_neg c2, decide_eq_false c1, decide_eq_false c2]; rfl
theorem gltr {c : Int32} {s : zS} : FX8_isLetter c s = some (b01 (ltr c), s) := by
  unfold FX8_isLetter FX8_isLetter_b16 FX8_isLetter_b17 ltr
  rw [zgd_11, zgd_00]
  by_cases c1 : c < 97
  · rw [if_pos c1, decide_eq_true c1]; rfl
  by_cases c2 : 122 < c
  · rw [if_neg c1, if_pos c2, decide_eq_true c2, decide_eq_false c1]; rfl
  · rw [if_neg c1, if_neg c2, decide_eq_false c1, decide_eq_false c2]; rfl
theorem gdg {c : Int32} {s : zS} : FX8_isDigit c s = some (b01 (dg c), s) := by
  unfold FX8_isDigit FX8_isDigit_b16 FX8_isDigit_b17 dg
  rw [zgd_11, zgd_00]
  by_cases c1 : c < 48
  · rw [if_pos c1, decide_eq_true c1]; rfl
  by_cases c2 : 57 < c
  · rw [if_neg c1, if_pos c2, decide_eq_true c2, decide_eq_false c1]; rfl
  · rw [if_neg c1, if_neg c2, decide_eq_false c1, decide_eq_false c2]; rfl
theorem gmkd {c : Int32} {s : zS} : FX8_isMark c s = some (b01 (mkd c), s) := by
  unfold FX8_isMark FX8_isMark_b54 FX8_isMark_b59 mkd
  rw [zgd_11, zgd_00]
  by_cases c1 : c = 59
  · simp [c1, b01]
  by_cases c2 : c = 40
  · simp [c2, b01]
  by_cases c3 : c = 41
  · simp [c3, b01]
  by_cases c4 : c = 43
  · simp [c4, b01]
  by_cases c5 : c = 45
  · simp [c5, b01]
  by_cases c6 : c = 42
  · simp [c6, b01]
  by_cases c7 : c = 47
  · simp [c7, b01]
  by_cases c8 : c = 60
  · simp [c8, b01]
  by_cases c9 : c = 61
  · simp [c9, b01]
  · simp [c1, c2, c3, c4, c5, c6, c7, c8, c9, b01]
theorem dg_n {c : Int32} (h : dg c = true) : ∃ d, 48 ≤ d ∧ d ≤ 57 ∧ c = nI d := by
  unfold dg at h
  rw [Bool.and_eq_true, Bool.not_eq_true', Bool.not_eq_true', decide_eq_false_iff_not, decide_eq_false_iff_not] at h
  obtain ⟨h1, h2⟩ := h
  obtain ⟨j, hj, rfl⟩ := nI_of (x := c) (fun z => h1 (by
    rw [fa_lt] at *
    have q0 : (0 : Int32).toInt = 0 := rfl
    have q1 : (48 : Int32).toInt = 48 := rfl
    omega))
  refine ⟨j, ?_, ?_, rfl⟩
  · rw [show (48 : Int32) = nI 48 from rfl, nI_ltI hj (by decide)] at h1; omega
  · rw [show (57 : Int32) = nI 57 from rfl, nI_ltI (by decide) hj] at h2; omega
/-- the first place from p on, k on at most, that has not P -/
def scn (P : Int32 → Bool) (f : Nat → Int32) : Nat → Nat → Nat
  | 0, p => p
  | k + 1, p => if P (f p) = true then scn P f k (p + 1) else p
theorem scn_s {P : Int32 → Bool} {f : Nat → Int32} {k p : Nat} : scn P f (k + 1) p = if P (f p) = true then scn P f k (p + 1) else p := rfl
theorem scn_b {P : Int32 → Bool} {f : Nat → Int32} : ∀ k p, p ≤ scn P f k p ∧ scn P f k p ≤ p + k := by
  intro k
  induction k with
  | zero => intro p; exact ⟨Nat.le_refl p, Nat.le_refl p⟩
  | succ k ih =>
    intro p
    rw [scn_s]
    split
    · have := ih (p + 1); omega
    · omega
theorem scn_f {P : Int32 → Bool} {f : Nat → Int32} {k p : Nat} (h : P (f p) = true) : p + 1 ≤ scn P f (k + 1) p := by
  rw [scn_s, if_pos h]
  exact (scn_b k (p + 1)).1
theorem scn_i {P : Int32 → Bool} {f : Nat → Int32} : ∀ k p i, p ≤ i → i < scn P f k p → P (f i) = true := by
  intro k
  induction k with
  | zero => intro p i h1 h2; have : i < p := h2; omega
  | succ k ih =>
    intro p i h1 h2
    rw [scn_s] at h2
    split at h2
    · next c =>
      by_cases e : i = p
      · rw [e]; exact c
      · exact ih (p + 1) i (by omega) h2
    · omega
/-- a TOKEN from p on: where it begins, of what kind it is, where it ends, its value -/
def tB (f : Nat → Int32) (n p : Nat) : Nat := scn bl f (n - p) p
def tK (f : Nat → Int32) (n p : Nat) : Nat := if n ≤ tB f n p then 0 else if ltr (f (tB f n p)) = true then 1 else if dg (f (tB f n p)) = true then 2 else 3
def tE (f : Nat → Int32) (n p : Nat) : Nat := if n ≤ tB f n p then tB f n p else if ltr (f (tB f n p)) = true then scn ltr f (n - tB f n p) (tB f n p) else if dg (f (tB f n p)) = true then scn dg f (n - tB f n p) (tB f n p) else tB f n p + 1
def tvv (f : Nat → Int32) (b : Nat) : Nat → Nat
  | 0 => 0
  | i + 1 => if i < 4 then tvv f b i * 10 + (f (b + i)).toNatClampNeg - 48 else 10000
def tV (f : Nat → Int32) (n p : Nat) : Int32 := if tK f n p = 2 then nI (tvv f (tB f n p) (tE f n p - tB f n p)) else if tK f n p = 3 then f (tB f n p) else 0
/-- the reference's kind -/
def tJ (f : Nat → Int32) (n p : Nat) : Nat := if tK f n p = 3 then (if mkd (f (tB f n p)) = true then 3 else 4) else tK f n p
theorem tB_b {f : Nat → Int32} {n p : Nat} (h : p ≤ n) : p ≤ tB f n p ∧ tB f n p ≤ n := by
  have := scn_b (P := bl) (f := f) (n - p) p
  unfold tB
  omega
theorem tE_b {f : Nat → Int32} {n p : Nat} (h : p ≤ n) : tB f n p ≤ tE f n p ∧ tE f n p ≤ n := by
  have hb := tB_b (f := f) h
  unfold tE
  split
  · omega
  split
  · have := scn_b (P := ltr) (f := f) (n - tB f n p) (tB f n p); omega
  split
  · have := scn_b (P := dg) (f := f) (n - tB f n p) (tB f n p); omega
  · omega
theorem tK_b {f : Nat → Int32} {n p : Nat} (h : p ≤ n) (hk : tK f n p ≠ 0) : tB f n p < n ∧ tB f n p < tE f n p := by
  have hb := tB_b (f := f) h
  unfold tK at hk
  unfold tE
  by_cases c : n ≤ tB f n p
  · rw [if_pos c] at hk; exact absurd rfl hk
  have c1 : tB f n p < n := by omega
  refine ⟨c1, ?_⟩
  rw [if_neg c]
  obtain ⟨k, hk2⟩ : ∃ k, n - tB f n p = k + 1 := ⟨n - tB f n p - 1, by omega⟩
  rw [hk2]
  split
  · next d => have := scn_f (P := ltr) (f := f) (k := k) d; omega
  split
  · next d => have := scn_f (P := dg) (f := f) (k := k) d; omega
  · omega
theorem tK_4 {f : Nat → Int32} {n p : Nat} : tK f n p ≤ 3 := by
  unfold tK
  split
  · omega
  split
  · omega
  split <;> omega
theorem tvv_b {f : Nat → Int32} {b : Nat} : ∀ i, i ≤ 4 → (∀ j, j < i → dg (f (b + j)) = true) → tvv f b i < 10 ^ i := by
  intro i
  induction i with
  | zero => intro _ _; show (0 : Nat) < 1; omega
  | succ i ih =>
    intro hi hd
    have h1 := ih (by omega) (fun j hj => hd j (by omega))
    obtain ⟨d, d1, d2, d3⟩ := dg_n (hd i (by omega))
    show (if i < 4 then tvv f b i * 10 + (f (b + i)).toNatClampNeg - 48 else 10000) < 10 ^ (i + 1)
    rw [if_pos (by omega), d3, nI_clamp (by omega), Nat.pow_succ]
    omega
theorem tvv_5 {f : Nat → Int32} {b i : Nat} (h : 4 < i) : tvv f b i = 10000 := by
  obtain ⟨j, rfl⟩ : ∃ j, i = j + 1 := ⟨i - 1, by omega⟩
  show (if j < 4 then tvv f b j * 10 + (f (b + j)).toNatClampNeg - 48 else 10000) = 10000
  rw [if_neg (by omega)]
theorem tvv_s {f : Nat → Int32} {b i d : Nat} (h : i < 4) (hd : f (b + i) = nI d) (h1 : 48 ≤ d) (h2 : d ≤ 57) : nI (tvv f b i) * 10 + f (b + i) - 48 = nI (tvv f b (i + 1)) := by
  have e : tvv f b (i + 1) = tvv f b i * 10 + d - 48 := by
    show (if i < 4 then tvv f b i * 10 + (f (b + i)).toNatClampNeg - 48 else 10000) = _
    rw [if_pos h, hd, nI_clamp (by omega)]
  rw [e, hd, show (10 : Int32) = nI 10 from rfl, show (48 : Int32) = nI 48 from rfl, pk_mul, nI_add, pk_sub (by omega)]
/-! the class reads a TOKEN -/
theorem fLet {s : zS} {f : Nat → Int32} {n : Nat} (hn : n ≤ 700) (h2 : s 4 2 = nI n) (ht : ∀ j, j < 700 → s 5 j = f j) : ∀ k i, i + k = n → zlp (fun q : Int32 × zS => FX3_readToken_L80 4 q.1 q.2) (nI i, s) = FX3_readToken_b200 4 (nI (scn ltr f k i)) s := by
  intro k
  induction k with
  | zero =>
    intro i hi
    refine zlp_exit ?_
    show FX3_readToken_L80 4 (nI i) s = _
    unfold FX3_readToken_L80
    rw [h2, if_pos (nI_le (by omega) (by omega))]
    rfl
  | succ k ih =>
    intro i hi
    have st : FX3_readToken_L80 4 (nI i) s = if ltr (f i) = true then some (.inl (nI (i + 1), s)) else zinr (FX3_readToken_b200 4 (nI i) s) := by
      unfold FX3_readToken_L80
      rw [h2, if_neg (nI_ge (by omega) (by omega)), show (4 + 1 : Nat) = 5 from rfl, fat', show ln 0 5 = 700 from rfl, rd_n (by omega : i < 700) (by decide), ht i (by omega), zbd_s, fltr, zbd_s, zlet_eq, nI_1]
      cases ltr (f i) <;> rfl
    rw [scn_s]
    by_cases c : ltr (f i) = true
    · rw [if_pos c] at st ⊢
      exact (zlp_step (a' := (nI (i + 1), s)) st).trans (ih (i + 1) (by omega))
    · rw [if_neg c] at st ⊢
      exact zlp_exit st
theorem fDig {f : Nat → Int32} {n b : Nat} (hn : n ≤ 700) : ∀ k i s, i + k = n → b ≤ i → s 4 2 = nI n → (∀ j, j < 700 → s 5 j = f j) → s 4 4 = nI b → s 4 6 = nI (tvv f b (i - b)) → ∃ s', zlp (fun q : Int32 × zS => FX3_readToken_L120 4 q.1 q.2) (nI i, s) = FX3_readToken_b200 4 (nI (scn dg f k i)) s' ∧ (∀ x j, ¬ (x = 4 ∧ j = 6) → s' x j = s x j) ∧ s' 4 6 = nI (tvv f b (scn dg f k i - b)) := by
  intro k
  induction k with
  | zero =>
    intro i s hi hb h2 ht h4 h6
    refine ⟨s, zlp_exit ?_, fun _ _ _ => rfl, h6⟩
    show FX3_readToken_L120 4 (nI i) s = _
    unfold FX3_readToken_L120
    rw [h2, if_pos (nI_le (by omega) (by omega))]
    rfl
  | succ k ih =>
    intro i s hi hb h2 ht h4 h6
    have st : FX3_readToken_L120 4 (nI i) s = if dg (f i) = true then some (.inl (nI (i + 1), zup s 4 6 (nI (tvv f b (i + 1 - b))))) else zinr (FX3_readToken_b200 4 (nI i) s) := by
      unfold FX3_readToken_L120
      rw [h2, if_neg (nI_ge (by omega) (by omega)), show (4 + 1 : Nat) = 5 from rfl, fat', show ln 0 5 = 700 from rfl, rd_n (by omega : i < 700) (by decide), ht i (by omega), zbd_s, fdg, zbd_s]
      by_cases c : dg (f i) = true
      · rw [c, b01_t, if_neg (by decide), if_pos rfl, h4, pk_sub hb, h6]
        unfold FX3_readToken_b178
        obtain ⟨d, d1, d2, d3⟩ := dg_n c
        obtain ⟨a, rfl⟩ : ∃ a, i = b + a := ⟨i - b, by omega⟩
        rw [Nat.add_sub_cancel_left, show b + a + 1 - b = a + 1 from by omega]
        by_cases c4 : a < 4
        · rw [if_neg (show ¬ (4 : Int32) ≤ nI a from nI_ge (b := 4) c4 (by decide)), fat', show ln 0 5 = 700 from rfl, rd_n (by omega : b + a < 700) (by decide), ht (b + a) (by omega), zbd_s, zlet_eq, zlet_eq, tvv_s c4 d3 d1 d2, nI_1]
        · rw [if_pos (show (4 : Int32) ≤ nI a from nI_le (a := 4) (by omega) (by omega)), zlet_eq, zlet_eq, tvv_5 (by omega : 4 < a + 1), nI_1]
          rfl
      · rw [Bool.eq_false_iff.mpr c, b01_f, if_pos rfl, if_neg (by decide)]
    rw [scn_s]
    by_cases c : dg (f i) = true
    · rw [if_pos c] at st ⊢
      obtain ⟨s', e1, e2, e3⟩ := ih (i + 1) (zup s 4 6 (nI (tvv f b (i + 1 - b)))) (by omega) (by omega) (by rw [zup_at, if_neg (by omega)]; exact h2) (fun j hj => by rw [zup_n (by decide)]; exact ht j hj) (by rw [zup_at, if_neg (by omega)]; exact h4) (by rw [zup_at, if_pos ⟨rfl, rfl⟩])
      exact ⟨s', (zlp_step (a' := (nI (i + 1), zup s 4 6 (nI (tvv f b (i + 1 - b))))) st).trans e1, fun x j hx => by rw [e2 x j hx, zup_at, if_neg hx], e3⟩
    · rw [if_neg c] at st ⊢
      exact ⟨s, zlp_exit st, fun _ _ _ => rfl, h6⟩
theorem fTk {s : zS} {f : Nat → Int32} {n p : Nat} (hn : n ≤ 700) (hp : p ≤ n) (h2 : s 4 2 = nI n) (h5 : s 4 5 = nI p) (ht : ∀ j, j < 700 → s 5 j = f j) : ∃ s', FX3_readToken 4 s = some (0, s') ∧ (∀ x j, ¬ (x = 4 ∧ 3 ≤ j ∧ j ≤ 6) → s' x j = s x j) ∧ s' 4 3 = nI (tK f n p) ∧ s' 4 4 = nI (tB f n p) ∧ s' 4 5 = nI (tE f n p) ∧ s' 4 6 = tV f n p := by
  have sk : ∀ k i, i + k = n → zlp (fun q : Int32 × zS => FX3_readToken_L5 4 q.1 q.2) (nI i, s) = FX3_readToken_b33 4 (nI (scn bl f k i)) s := by
    intro k
    induction k with
    | zero =>
      intro i hi
      refine zlp_exit ?_
      show FX3_readToken_L5 4 (nI i) s = _
      unfold FX3_readToken_L5
      rw [h2, if_pos (nI_le (by omega) (by omega))]
      rfl
    | succ k ih =>
      intro i hi
      have st : FX3_readToken_L5 4 (nI i) s = if bl (f i) = true then some (.inl (nI (i + 1), s)) else zinr (FX3_readToken_b33 4 (nI i) s) := by
        unfold FX3_readToken_L5
        rw [h2, if_neg (nI_ge (by omega) (by omega)), show (4 + 1 : Nat) = 5 from rfl, fat', show ln 0 5 = 700 from rfl, rd_n (by omega : i < 700) (by decide), ht i (by omega), zbd_s, fbl, zbd_s, zlet_eq, nI_1]
        cases bl (f i) <;> rfl
      rw [scn_s]
      by_cases c : bl (f i) = true
      · rw [if_pos c] at st ⊢
        exact (zlp_step (a' := (nI (i + 1), s)) st).trans (ih (i + 1) (by omega))
      · rw [if_neg c] at st ⊢
        exact zlp_exit st
  have e0 : FX3_readToken 4 s = FX3_readToken_b33 4 (nI (tB f n p)) s := by
    unfold FX3_readToken
    rw [zlet_eq, h5]
    exact sk (n - p) p (by omega)
  have hb := tB_b (f := f) hp
  rw [e0]
  generalize hbb : tB f n p = b at hb ⊢
  unfold FX3_readToken_b33
  rw [zlet_eq, zlet_eq, show (4 + 1 : Nat) = 5 from rfl, fat', zup_n (by decide : 5 ≠ 4), zup_n (by decide : 5 ≠ 4), show ln 0 5 = 700 from rfl, zbd_s, zlet_eq]
  have u2 : zup (zup s 4 4 (nI b)) 4 6 0 4 2 = nI n := by simp [zup_at]; exact h2
  rw [u2]
  by_cases c : n ≤ b
  · have hK : tK f n p = 0 := by unfold tK; rw [hbb, if_pos c]
    have hE : tE f n p = b := by unfold tE; rw [hbb, if_pos c]
    have hV : tV f n p = 0 := by unfold tV; rw [hK]; rfl
    rw [if_neg (nI_nlt c (by omega)), hK, hE, hV]
    unfold FX3_readToken_b200
    rw [zlet_eq, zlet_eq]
    exact ⟨_, rfl, fun x j hx => by simp only [zup_at]; rw [if_neg (by omega), if_neg (by omega), if_neg (by omega), if_neg (by omega)], by simp [zup_at]; rfl, by simp [zup_at], by simp [zup_at], by simp [zup_at]⟩
  rw [if_pos (nI_lt (by omega) (by omega)), rd_n (by omega : b < 700) (by decide), ht b (by omega), fltr, zbd_s]
  by_cases c1 : ltr (f b) = true
  · have hK : tK f n p = 1 := by unfold tK; rw [hbb, if_neg c, if_pos c1]
    have hE : tE f n p = scn ltr f (n - b) b := by unfold tE; rw [hbb, if_neg c, if_pos c1]
    have hV : tV f n p = 0 := by unfold tV; rw [hK]; rfl
    rw [c1, b01_t, if_neg (by decide), zlet_eq, hK, hE, hV]
    have := fLet (s := zup (zup (zup s 4 4 (nI b)) 4 6 0) 4 3 1) (f := f) hn (by simp [zup_at]; exact h2) (fun j hj => by rw [zup_n (by decide), zup_n (by decide), zup_n (by decide)]; exact ht j hj) (n - b) b (by omega)
    refine ⟨_, this.trans (by unfold FX3_readToken_b200; rw [zlet_eq]), fun x j hx => by simp only [zup_at]; rw [if_neg (by omega), if_neg (by omega), if_neg (by omega), if_neg (by omega)], by simp [zup_at]; rfl, by simp [zup_at], by simp [zup_at], by simp [zup_at]⟩
  rw [Bool.eq_false_iff.mpr c1, b01_f, if_pos rfl, fdg, zbd_s]
  by_cases c2 : dg (f b) = true
  · have hK : tK f n p = 2 := by unfold tK; rw [hbb, if_neg c, if_neg c1, if_pos c2]
    have hE : tE f n p = scn dg f (n - b) b := by unfold tE; rw [hbb, if_neg c, if_neg c1, if_pos c2]
    have hV : tV f n p = nI (tvv f b (scn dg f (n - b) b - b)) := by unfold tV; rw [hK, if_pos rfl, hE, hbb]
    rw [c2, b01_t, if_neg (by decide), zlet_eq, hK, hE, hV]
    obtain ⟨s', e1, e2, e3⟩ := fDig (s := zup (zup (zup s 4 4 (nI b)) 4 6 0) 4 3 2) (f := f) (b := b) hn (n - b) b (by omega) (Nat.le_refl b) (by simp [zup_at]; exact h2) (fun j hj => by rw [zup_n (by decide), zup_n (by decide), zup_n (by decide)]; exact ht j hj) (by simp [zup_at]) (by rw [Nat.sub_self]; simp [zup_at]; rfl)
    refine ⟨_, e1.trans (by unfold FX3_readToken_b200; rw [zlet_eq]), fun x j hx => ?_, ?_, ?_, by simp [zup_at], ?_⟩
    · rw [zup_at, if_neg (by omega), e2 x j (by omega)]; simp only [zup_at]; rw [if_neg (by omega), if_neg (by omega), if_neg (by omega)]
    · rw [zup_at, if_neg (by omega), e2 4 3 (by omega)]; simp [zup_at]; rfl
    · rw [zup_at, if_neg (by omega), e2 4 4 (by omega)]; simp [zup_at]
    · rw [zup_at, if_neg (by omega), e3]
  · have hK : tK f n p = 3 := by unfold tK; rw [hbb, if_neg c, if_neg c1, if_neg c2]
    have hE : tE f n p = b + 1 := by unfold tE; rw [hbb, if_neg c, if_neg c1, if_neg c2]
    have hV : tV f n p = f b := by unfold tV; rw [hK, if_neg (by decide), if_pos rfl, hbb]
    rw [Bool.eq_false_iff.mpr c2, b01_f, if_pos rfl, zlet_eq, zlet_eq, zlet_eq, nI_1, hK, hE, hV]
    unfold FX3_readToken_b200
    rw [zlet_eq]
    exact ⟨_, rfl, fun x j hx => by simp only [zup_at]; rw [if_neg (by omega), if_neg (by omega), if_neg (by omega), if_neg (by omega), if_neg (by omega)], by simp [zup_at]; rfl, by simp [zup_at], by simp [zup_at], by simp [zup_at]⟩
