/-! the reference: rows for its cells; what it shares with the class -/
theorem rn_3 : ln 1 3 = 18 := Eq.trans rfl rfl
theorem rn_4 : ln 1 4 = 20 := Eq.trans rfl rfl
theorem rn_5 : ln 1 5 = 20 := Eq.trans rfl rfl
theorem rn_6 : ln 1 6 = 20 := Eq.trans rfl rfl
theorem rn_7 : ln 1 7 = 20 := Eq.trans rfl rfl
theorem rn_8 : ln 1 8 = 16 := Eq.trans rfl rfl
theorem rn_9 : ln 1 9 = 16 := Eq.trans rfl rfl
theorem rn_10 : ln 1 10 = 16 := Eq.trans rfl rfl
theorem rn_11 : ln 1 11 = 16 := Eq.trans rfl rfl
theorem rn_12 : ln 1 12 = 16 := Eq.trans rfl rfl
theorem rn_13 : ln 1 13 = 192 := Eq.trans rfl rfl
theorem rn_14 : ln 1 14 = 8 := Eq.trans rfl rfl
theorem rn_15 : ln 1 15 = 1400 := Eq.trans rfl rfl
theorem rn_16 : ln 1 16 = 3 := Eq.trans rfl rfl
theorem rn_17 : ln 1 17 = 700 := Eq.trans rfl rfl
theorem rn_18 : ln 1 18 = 100 := Eq.trans rfl rfl
theorem rn_19 : ln 1 19 = 1040 := Eq.trans rfl rfl
theorem rn_20 : ln 1 20 = 7 := Eq.trans rfl rfl
theorem rn_21 : ln 1 21 = 64 := Eq.trans rfl rfl
theorem rn_22 : ln 1 22 = 10 := Eq.trans rfl rfl
theorem rn_23 : ln 1 23 = 10 := Eq.trans rfl rfl
theorem rn_24 : ln 1 24 = 8 := Eq.trans rfl rfl
theorem rn_25 : ln 1 25 = 8 := Eq.trans rfl rfl
theorem rn_26 : ln 1 26 = 8 := Eq.trans rfl rfl
theorem rn_27 : ln 1 27 = 10 := Eq.trans rfl rfl
theorem rn_28 : ln 1 28 = 10 := Eq.trans rfl rfl
theorem rn_29 : ln 1 29 = 12 := Eq.trans rfl rfl
theorem rn_30 : ln 1 30 = 12 := Eq.trans rfl rfl
theorem rn_31 : ln 1 31 = 8 := Eq.trans rfl rfl
theorem rn_32 : ln 1 32 = 8 := Eq.trans rfl rfl
theorem rn_33 : ln 1 33 = 8 := Eq.trans rfl rfl
theorem rn_34 : ln 1 34 = 26 := Eq.trans rfl rfl
theorem rn_35 : ln 1 35 = 1040 := Eq.trans rfl rfl
theorem rn_36 : ln 1 36 = 12 := Eq.trans rfl rfl
theorem rn_37 : ln 1 37 = 12 := Eq.trans rfl rfl
theorem rn_38 : ln 1 38 = 8 := Eq.trans rfl rfl
theorem rn_39 : ln 1 39 = 8 := Eq.trans rfl rfl
theorem rn_40 : ln 1 40 = 3 := Eq.trans rfl rfl
theorem tn_0 : Int32.toNatClampNeg 0 = 0 := Eq.trans rfl rfl
theorem tn_1 : Int32.toNatClampNeg 1 = 1 := Eq.trans rfl rfl
theorem tn_2 : Int32.toNatClampNeg 2 = 2 := Eq.trans rfl rfl
theorem tn_3 : Int32.toNatClampNeg 3 = 3 := Eq.trans rfl rfl
theorem tn_4 : Int32.toNatClampNeg 4 = 4 := Eq.trans rfl rfl
theorem tn_5 : Int32.toNatClampNeg 5 = 5 := Eq.trans rfl rfl
theorem tn_6 : Int32.toNatClampNeg 6 = 6 := Eq.trans rfl rfl
theorem tn_7 : Int32.toNatClampNeg 7 = 7 := Eq.trans rfl rfl
theorem tn_8 : Int32.toNatClampNeg 8 = 8 := Eq.trans rfl rfl
theorem zi_18_0 {β : Type} (r : Option β) : zin 18 0 r = r := Eq.trans rfl rfl
theorem zi_18_1 {β : Type} (r : Option β) : zin 18 1 r = r := Eq.trans rfl rfl
theorem zi_18_2 {β : Type} (r : Option β) : zin 18 2 r = r := Eq.trans rfl rfl
theorem zi_18_3 {β : Type} (r : Option β) : zin 18 3 r = r := Eq.trans rfl rfl
theorem zi_18_4 {β : Type} (r : Option β) : zin 18 4 r = r := Eq.trans rfl rfl
theorem zi_18_5 {β : Type} (r : Option β) : zin 18 5 r = r := Eq.trans rfl rfl
theorem zi_18_6 {β : Type} (r : Option β) : zin 18 6 r = r := Eq.trans rfl rfl
theorem zi_18_7 {β : Type} (r : Option β) : zin 18 7 r = r := Eq.trans rfl rfl
theorem zi_18_8 {β : Type} (r : Option β) : zin 18 8 r = r := Eq.trans rfl rfl
theorem zi_7_0 {β : Type} (r : Option β) : zin 7 0 r = r := Eq.trans rfl rfl
theorem zi_7_1 {β : Type} (r : Option β) : zin 7 1 r = r := Eq.trans rfl rfl
theorem zi_7_2 {β : Type} (r : Option β) : zin 7 2 r = r := Eq.trans rfl rfl
theorem zi_7_3 {β : Type} (r : Option β) : zin 7 3 r = r := Eq.trans rfl rfl
theorem zi_7_4 {β : Type} (r : Option β) : zin 7 4 r = r := Eq.trans rfl rfl
theorem zi_7_5 {β : Type} (r : Option β) : zin 7 5 r = r := Eq.trans rfl rfl
theorem zi_7_6 {β : Type} (r : Option β) : zin 7 6 r = r := Eq.trans rfl rfl
theorem zi_64_0 {β : Type} (r : Option β) : zin 64 0 r = r := Eq.trans rfl rfl
theorem nI_m1 {a : Nat} (h : a < 2 ^ 31) : ¬ nI a = -1 := fun z => by have := (fa_eq _ _).mp z; rw [nI_toInt h] at this; simp at this
/-- only what a day works with has changed -/
def sc (k j : Nat) : Bool := (20 ≤ k && k ≤ 26) || (k == 0 && (46 ≤ j && j ≤ 59))
def Fr (τ0 τ : zS) : Prop := ∀ k j, sc k j = false → τ k j = τ0 k j
theorem Fr.rf {τ : zS} : Fr τ τ := fun _ _ _ => rfl
theorem Fr.tr {a b c : zS} (h : Fr a b) (h2 : Fr b c) : Fr a c := fun k j hk => (h2 k j hk).trans (h k j hk)
theorem Fr.up {τ0 τ : zS} {k j : Nat} {v : Int32} (h : Fr τ0 τ) (hs : sc k j = true) : Fr τ0 (zup τ k j v) := by
  intro a i ha
  rw [zup_at, if_neg (fun z => by rw [z.1, z.2, hs] at ha; cases ha)]
  exact h a i ha
theorem Fr.row {τ0 τ : zS} (h : Fr τ0 τ) (k : Nat) (hk : k ≠ 0) (hk2 : k < 20 ∨ 26 < k) : τ k = τ0 k := by
  funext j
  refine h k j ?_
  unfold sc
  simp
  omega
/-- somebody of the shop, on both sides -/
def rP (τ S : zS) (na p c t l : Nat) : Prop := τ 8 p = S 8 p ∧ τ 9 p = S 9 p ∧ τ 10 p = S 10 p ∧ τ 11 p = S 11 p ∧ τ 12 p = S 12 p ∧ S 9 p = nI c ∧ S 10 p = nI t ∧ S 12 p = nI l ∧ 1 ≤ c ∧ c ≤ 60 ∧ 1 ≤ l ∧ l ≤ 12 ∧ t ≤ l ∧ ∀ i, i < l → τ 13 (12 * p + i) = S 13 (12 * p + i) ∧ ∃ a, a < na ∧ S 13 (12 * p + i) = nI a
def rF (τ S : zS) (na : Nat) (δ : Nat → Nat → Nat) : Prop := ∀ a b, a < na → b < na → S 6 (10 * a + b) = nI (δ a b) ∧ τ 18 (10 * a + b) = (if δ a b = 99 then -1 else nI (δ a b)) ∧ (δ a b ≤ 9 ∨ δ a b = 99) ∧ ∀ g, g < na → bt (S 4 a) b = true → δ a g ≤ δ b g + 1
/-- a sign, on both sides -/
def sg (s t : Int32) : Prop := (s = t ∧ -8 < s) ∨ (s = -10 ∧ t = -27) ∨ (s = -11 ∧ t = -26) ∨ (s = -12 ∧ t = -28) ∨ (s = -13 ∧ t = -24) ∨ (s = -14 ∧ t = -25) ∨ (s = -15 ∧ t = -20) ∨ (s = -16 ∧ t = -21) ∨ (s = -17 ∧ t = -22) ∨ (s = -18 ∧ t = -23)
/-- how high the stack is, ahead of each sign -/
def hw (f : Nat → Int32) (m : Nat) (h : Nat → Nat) : Prop := h 0 = 0 ∧ h m = 1 ∧ ∀ i, i < m → h i ≤ 35 ∧ (if -8 < f i then h (i + 1) = h i + 1 else if f i = -12 then 1 ≤ h i ∧ h (i + 1) = h i else 2 ≤ h i ∧ h (i + 1) + 1 = h i)
def rR (τ S : zS) (r : Nat) : Prop := vR S r ∧ τ 14 r = S 15 r ∧ (0 < r → τ 14 (r - 1) = S 15 (r - 1)) ∧ (∀ i, mA S r ≤ i → i < mB S r → sg (S 16 i) (τ 15 i)) ∧ ∃ h, hw (fun i => S 16 (mA S r + i)) (mB S r - mA S r) h
/-- the shop, on both sides -/
def rS (τ S : zS) (na n nr : Nat) : Prop :=
  (na ≤ 10 ∧ S 1 0 = nI na ∧ τ 3 0 = nI na) ∧ (n ≤ 8 ∧ S 7 0 = nI n ∧ τ 3 3 = nI n) ∧ (nr ≤ 4 ∧ S 14 0 = nI nr ∧ τ 3 4 = nI nr) ∧
  (τ 3 5 = S 0 3 ∧ τ 3 6 = S 0 4 ∧ τ 3 7 = S 0 5 ∧ τ 3 1 = S 1 1 ∧ τ 3 2 = S 1 2) ∧ (∀ a, a < na → τ 4 a = S 2 a ∧ τ 6 a = S 4 a) ∧
  (∀ p, p < n → ∃ c t l, rP τ S na p c t l) ∧ (∃ δ, rF τ S na δ) ∧ (∀ r, r < nr → rR τ S r)
theorem rS.fr {τ0 τ S : zS} {na n nr : Nat} (h : rS τ0 S na n nr) (hf : Fr τ0 τ) : rS τ S na n nr := by
  unfold rS rP rF rR at *
  rw [hf.row 3 (by decide) (by decide), hf.row 4 (by decide) (by decide), hf.row 6 (by decide) (by decide), hf.row 8 (by decide) (by decide), hf.row 9 (by decide) (by decide), hf.row 10 (by decide) (by decide), hf.row 11 (by decide) (by decide), hf.row 12 (by decide) (by decide), hf.row 13 (by decide) (by decide), hf.row 14 (by decide) (by decide), hf.row 15 (by decide) (by decide), hf.row 18 (by decide) (by decide)]
  exact h
/-- an aisle, or none -/
def oa (na : Nat) (x : Int32) : Prop := x = -1 ∨ ∃ a, a < na ∧ x = nI a
/-- where somebody is, on both sides -/
def rW (τ d : zS) (na p : Nat) : Prop := (τ 24 p < 0 ∧ d 4 p = -1) ∨ ∃ i a, i < 12 ∧ a < na ∧ τ 24 p = nI i ∧ τ 13 (12 * p + i) = nI a ∧ d 4 p = nI a
/-- a day, on both sides: what is told, what has come of it -/
def rC (τ d : zS) (na n : Nat) : Prop := τ 0 46 = d 0 1 ∧ τ 0 47 = d 0 2 ∧ τ 0 48 = d 0 3 ∧ τ 0 49 = d 0 4 ∧ (∀ a, a < na → τ 22 a = d 1 a ∧ τ 7 a = d 2 a) ∧ ∀ q, q < n → bt (τ 0 50) q = !bt (d 0 5) q
def rN (τ S d : zS) : Prop := τ 0 51 = d 0 12 ∧ τ 0 52 = d 8 5 ∧ τ 0 53 = d 0 13 ∧ τ 0 54 = d 8 6 ∧ τ 0 55 = d 8 7 ∧ τ 0 57 = d 8 1 ∧ τ 0 58 = d 8 3 ∧ τ 0 59 = d 8 4 ∧ d 8 0 = τ 0 56 + S 0 4 * τ 0 58
def rH (τ d : zS) (na p : Nat) : Prop := τ 25 p = d 5 p ∧ τ 26 p = d 6 p ∧ oa na (d 5 p)
def rD (τ S : zS) (na n : Nat) (d : zS) : Prop := rC τ d na n ∧ rN τ S d ∧ oa na (d 0 12) ∧ (∀ a, a < na → τ 23 a = d 3 a) ∧ (∀ p, p < n → rH τ d na p) ∧ (∀ p, p < n → rW τ d na p)
/-! its small methods -/
theorem gIn {τ : zS} {p : Nat} (hp : p < 8) : FX8_isInside 0 (nI p) τ = some (b01 (!decide (τ 24 p < 0)), τ) := by
  unfold FX8_isInside FX8_isInside_b14
  simp only [zlet_eq, zbd_s, zgd_t, zinr_s, Nat.zero_add, rn_3, rn_4, rn_5, rn_6, rn_7, rn_8, rn_9, rn_10, rn_11, rn_12, rn_13, rn_14, rn_15, rn_16, rn_17, rn_18, rn_19, rn_20, rn_21, rn_22, rn_23, rn_24, rn_25, rn_26, rn_27, rn_28, rn_29, rn_30, rn_31, rn_32, rn_33, rn_34, rn_35, rn_36, rn_37, rn_38, rn_39, rn_40, tn_0, tn_1, tn_2, tn_3, tn_4, tn_5, tn_6, tn_7, tn_8, zi_18_0, zi_18_1, zi_18_2, zi_18_3, zi_18_4, zi_18_5, zi_18_6, zi_18_7, zi_18_8, zi_7_0, zi_7_1, zi_7_2, zi_7_3, zi_7_4, zi_7_5, zi_7_6, zi_64_0, zin_n _ hp (by decide : 8 < 2 ^ 31), nI_clamp (by omega : p < 2 ^ 31), zgd_00, zgd_11]
  by_cases c : τ 24 p < 0 <;> simp [c, b01]
theorem gAi {τ : zS} {p i : Nat} (hp : p < 8) (hi : i < 12) (h : τ 24 p = nI i) : FX8_aisleOf 0 (nI p) τ = some (τ 13 (12 * p + i), τ) := by
  unfold FX8_aisleOf
  have e : 12 * nI p + nI i = nI (12 * p + i) := by rw [show (12 : Int32) = nI 12 from rfl, pk_mul, nI_add]
  simp only [zlet_eq, zbd_s, zgd_t, zinr_s, Nat.zero_add, rn_3, rn_4, rn_5, rn_6, rn_7, rn_8, rn_9, rn_10, rn_11, rn_12, rn_13, rn_14, rn_15, rn_16, rn_17, rn_18, rn_19, rn_20, rn_21, rn_22, rn_23, rn_24, rn_25, rn_26, rn_27, rn_28, rn_29, rn_30, rn_31, rn_32, rn_33, rn_34, rn_35, rn_36, rn_37, rn_38, rn_39, rn_40, tn_0, tn_1, tn_2, tn_3, tn_4, tn_5, tn_6, tn_7, tn_8, zi_18_0, zi_18_1, zi_18_2, zi_18_3, zi_18_4, zi_18_5, zi_18_6, zi_18_7, zi_18_8, zi_7_0, zi_7_1, zi_7_2, zi_7_3, zi_7_4, zi_7_5, zi_7_6, zi_64_0, zin_n _ hp (by decide : 8 < 2 ^ 31), nI_clamp (by omega : p < 2 ^ 31), h, e, zin_n _ (by omega : 12 * p + i < 192) (by decide : 192 < 2 ^ 31), nI_clamp (by omega : 12 * p + i < 2 ^ 31)]
theorem gSc {τ : zS} {p : Nat} {m : Int32} (hp : p < 8) : FX8_seconds 0 (nI p) m τ = some (m - τ 9 p + 1, τ) := by
  unfold FX8_seconds
  simp only [zlet_eq, zbd_s, zgd_t, zinr_s, Nat.zero_add, rn_3, rn_4, rn_5, rn_6, rn_7, rn_8, rn_9, rn_10, rn_11, rn_12, rn_13, rn_14, rn_15, rn_16, rn_17, rn_18, rn_19, rn_20, rn_21, rn_22, rn_23, rn_24, rn_25, rn_26, rn_27, rn_28, rn_29, rn_30, rn_31, rn_32, rn_33, rn_34, rn_35, rn_36, rn_37, rn_38, rn_39, rn_40, tn_0, tn_1, tn_2, tn_3, tn_4, tn_5, tn_6, tn_7, tn_8, zi_18_0, zi_18_1, zi_18_2, zi_18_3, zi_18_4, zi_18_5, zi_18_6, zi_18_7, zi_18_8, zi_7_0, zi_7_1, zi_7_2, zi_7_3, zi_7_4, zi_7_5, zi_7_6, zi_64_0, zin_n _ (by omega : p < 16) (by decide : 16 < 2 ^ 31), nI_clamp (by omega : p < 2 ^ 31)]
theorem gSe {τ d : zS} {na a : Nat} (h10 : na ≤ 10) (h1 : τ 0 51 = d 0 12) (h2 : oa na (d 0 12)) (h3 : ∀ a, a < na → τ 7 a = d 2 a) (ha : a < na) : FX8_isSeen 0 (nI a) τ = some (b01 (mSe d (nI a)), τ) := by
  unfold FX8_isSeen FX8_isSeen_b33 FX8_isSeen_b37 FX8_isSeen_b38 mSe
  rcases h2 with h2 | ⟨e, he, h2⟩
  · rw [h1, h2]
    rfl
  · have c1 : ¬ nI e = -1 := nI_m1 (by omega)
    have c2 : nI e = nI a ↔ e = a := nI_eq (by omega) (by omega)
    have c3 : nI a = nI e ↔ a = e := nI_eq (by omega) (by omega)
    have c4 : ¬ nI a < 0 := nI_pos (by omega)
    have c5 : ¬ 32 ≤ nI a := nI_ge (b := 32) (by omega) (by omega)
    simp only [zlet_eq, zbd_s, zgd_t, zinr_s, Nat.zero_add, rn_3, rn_4, rn_5, rn_6, rn_7, rn_8, rn_9, rn_10, rn_11, rn_12, rn_13, rn_14, rn_15, rn_16, rn_17, rn_18, rn_19, rn_20, rn_21, rn_22, rn_23, rn_24, rn_25, rn_26, rn_27, rn_28, rn_29, rn_30, rn_31, rn_32, rn_33, rn_34, rn_35, rn_36, rn_37, rn_38, rn_39, rn_40, tn_0, tn_1, tn_2, tn_3, tn_4, tn_5, tn_6, tn_7, tn_8, zi_18_0, zi_18_1, zi_18_2, zi_18_3, zi_18_4, zi_18_5, zi_18_6, zi_18_7, zi_18_8, zi_7_0, zi_7_1, zi_7_2, zi_7_3, zi_7_4, zi_7_5, zi_7_6, zi_64_0, h1, h2, if_neg c1, zin_n _ (by omega : e < 20) (by decide : 20 < 2 ^ 31), nI_clamp (by omega : e < 2 ^ 31), nI_clamp (by omega : a < 2 ^ 31), rd_n (by omega : e < 10) (by decide : 10 < 2 ^ 31), zgd_00, zgd_11, h3 e he, bt_1 (by omega : a < 32), c2, c3]
    by_cases c : e = a
    · subst c; simp [b01, c1]
    · have c' : ¬ a = e := fun z => c z.symm
      cases hb : bt (d 2 e) a <;> simp [c, c', c1, c4, c5, b01]
/-! one place changed on both sides -/
theorem rD.thing {τ S d : zS} {na n p : Nat} {x y : Int32} (h : rD τ S na n d) (hv : oa na y) (e : x = y) : rD (zup τ 25 p x) S na n (zup d 5 p y) := by
  obtain ⟨hC, hN, hS, hA, hH, hW⟩ := h
  exact ⟨by simpa [rC, zup_at] using hC, by simpa [rN, zup_at] using hN, by simpa [zup_at] using hS, fun a ha => by simpa [zup_at] using hA a ha, fun q hq => by
    subst e
    obtain ⟨a, b, c⟩ := hH q hq
    by_cases e : q = p
    · simp [rH, zup_at, e]; subst e; exact ⟨b, hv⟩
    · simp [rH, zup_at, e]; exact ⟨a, b, c⟩, fun q hq => by simpa [rW, zup_at] using hW q hq⟩
theorem rD.beside {τ S d : zS} {na n p : Nat} {x y : Int32} (h : rD τ S na n d) (e : x = y) : rD (zup τ 26 p x) S na n (zup d 6 p y) := by
  obtain ⟨hC, hN, hS, hA, hH, hW⟩ := h
  exact ⟨by simpa [rC, zup_at] using hC, by simpa [rN, zup_at] using hN, by simpa [zup_at] using hS, fun a ha => by simpa [zup_at] using hA a ha, fun q hq => by
    subst e
    obtain ⟨a, b, c⟩ := hH q hq
    by_cases e : q = p
    · simp [rH, zup_at, e]; subst e; exact ⟨a, c⟩
    · simp [rH, zup_at, e]; exact ⟨a, b, c⟩, fun q hq => by simpa [rW, zup_at] using hW q hq⟩
theorem rD.stock {τ S d : zS} {na n p : Nat} {x y : Int32} (h : rD τ S na n d) (e : x = y) : rD (zup τ 23 p x) S na n (zup d 3 p y) := by
  obtain ⟨hC, hN, hS, hA, hH, hW⟩ := h
  exact ⟨by simpa [rC, zup_at] using hC, by simpa [rN, zup_at] using hN, by simpa [zup_at] using hS, fun a ha => by
    subst e
    by_cases e : a = p
    · simp [zup_at, e]
    · simpa [zup_at, e] using hA a ha, fun q hq => by simpa [rH, zup_at] using hH q hq, fun q hq => by simpa [rW, zup_at] using hW q hq⟩
theorem rD.place {τ S d : zS} {na n p : Nat} {x y : Int32} (h : rD τ S na n d) (hv : p < n → rW (zup τ 24 p x) (zup d 4 p y) na p) : rD (zup τ 24 p x) S na n (zup d 4 p y) := by
  obtain ⟨hC, hN, hS, hA, hH, hW⟩ := h
  exact ⟨by simpa [rC, zup_at] using hC, by simpa [rN, zup_at] using hN, by simpa [zup_at] using hS, fun a ha => by simpa [zup_at] using hA a ha, fun q hq => by simpa [rH, zup_at] using hH q hq, fun q hq => by
    by_cases e : q = p
    · subst e; exact hv hq
    · simpa [rW, zup_at, e] using hW q hq⟩
theorem rD.eye {τ S d : zS} {na n : Nat} {x y : Int32} (h : rD τ S na n d) (hv : oa na y) (e : x = y) : rD (zup τ 0 51 x) S na n (zup d 0 12 y) := by
  obtain ⟨hC, hN, hS, hA, hH, hW⟩ := h
  exact ⟨by simpa [rC, zup_at] using hC, by subst e; obtain ⟨n1, n2⟩ := hN; exact ⟨by simp [zup_at], by simpa [zup_at] using n2⟩, by simpa [zup_at] using hv, fun a ha => by simpa [zup_at] using hA a ha, fun q hq => by simpa [rH, zup_at] using hH q hq, fun q hq => by simpa [rW, zup_at] using hW q hq⟩
theorem rD.took {τ S d : zS} {na n : Nat} {x y : Int32} (h : rD τ S na n d) (e : x = y) : rD (zup τ 0 52 x) S na n (zup d 8 5 y) := by
  obtain ⟨hC, hN, hS, hA, hH, hW⟩ := h
  exact ⟨by simpa [rC, zup_at] using hC, by subst e; obtain ⟨n1, n2, n3, n4, n5, n6, n7, n8, n9⟩ := hN; simp [rN, zup_at, n1, n2, n3, n4, n5, n6, n7, n8, n9], by simpa [zup_at] using hS, fun a ha => by simpa [zup_at] using hA a ha, fun q hq => by simpa [rH, zup_at] using hH q hq, fun q hq => by simpa [rW, zup_at] using hW q hq⟩
theorem rD.sight {τ S d : zS} {na n : Nat} {x y : Int32} (h : rD τ S na n d) (e : x = y) : rD (zup τ 0 53 x) S na n (zup d 0 13 y) := by
  obtain ⟨hC, hN, hS, hA, hH, hW⟩ := h
  exact ⟨by simpa [rC, zup_at] using hC, by subst e; obtain ⟨n1, n2, n3, n4, n5, n6, n7, n8, n9⟩ := hN; simp [rN, zup_at, n1, n2, n3, n4, n5, n6, n7, n8, n9], by simpa [zup_at] using hS, fun a ha => by simpa [zup_at] using hA a ha, fun q hq => by simpa [rH, zup_at] using hH q hq, fun q hq => by simpa [rW, zup_at] using hW q hq⟩
theorem rD.notd {τ S d : zS} {na n : Nat} {x y : Int32} (h : rD τ S na n d) (e : x = y) : rD (zup τ 0 54 x) S na n (zup d 8 6 y) := by
  obtain ⟨hC, hN, hS, hA, hH, hW⟩ := h
  exact ⟨by simpa [rC, zup_at] using hC, by subst e; obtain ⟨n1, n2, n3, n4, n5, n6, n7, n8, n9⟩ := hN; simp [rN, zup_at, n1, n2, n3, n4, n5, n6, n7, n8, n9], by simpa [zup_at] using hS, fun a ha => by simpa [zup_at] using hA a ha, fun q hq => by simpa [rH, zup_at] using hH q hq, fun q hq => by simpa [rW, zup_at] using hW q hq⟩
theorem rD.caught {τ S d : zS} {na n : Nat} {x y : Int32} (h : rD τ S na n d) (e : x = y) : rD (zup τ 0 55 x) S na n (zup d 8 7 y) := by
  obtain ⟨hC, hN, hS, hA, hH, hW⟩ := h
  exact ⟨by simpa [rC, zup_at] using hC, by subst e; obtain ⟨n1, n2, n3, n4, n5, n6, n7, n8, n9⟩ := hN; simp [rN, zup_at, n1, n2, n3, n4, n5, n6, n7, n8, n9], by simpa [zup_at] using hS, fun a ha => by simpa [zup_at] using hA a ha, fun q hq => by simpa [rH, zup_at] using hH q hq, fun q hq => by simpa [rW, zup_at] using hW q hq⟩
theorem rD.lostN {τ S d : zS} {na n : Nat} {x y : Int32} (h : rD τ S na n d) (e : x = y) : rD (zup τ 0 57 x) S na n (zup d 8 1 y) := by
  obtain ⟨hC, hN, hS, hA, hH, hW⟩ := h
  exact ⟨by simpa [rC, zup_at] using hC, by subst e; obtain ⟨n1, n2, n3, n4, n5, n6, n7, n8, n9⟩ := hN; simp [rN, zup_at, n1, n2, n3, n4, n5, n6, n7, n8, n9], by simpa [zup_at] using hS, fun a ha => by simpa [zup_at] using hA a ha, fun q hq => by simpa [rH, zup_at] using hH q hq, fun q hq => by simpa [rW, zup_at] using hW q hq⟩
theorem rD.paid {τ S d : zS} {na n : Nat} {x y : Int32} (h : rD τ S na n d) (e : x = y) : rD (zup τ 0 59 x) S na n (zup d 8 4 y) := by
  obtain ⟨hC, hN, hS, hA, hH, hW⟩ := h
  exact ⟨by simpa [rC, zup_at] using hC, by subst e; obtain ⟨n1, n2, n3, n4, n5, n6, n7, n8, n9⟩ := hN; simp [rN, zup_at, n1, n2, n3, n4, n5, n6, n7, n8, n9], by simpa [zup_at] using hS, fun a ha => by simpa [zup_at] using hA a ha, fun q hq => by simpa [rH, zup_at] using hH q hq, fun q hq => by simpa [rW, zup_at] using hW q hq⟩
theorem rD.lost {τ S d : zS} {na n : Nat} {x y z : Int32} (h : rD τ S na n d) (e : x = τ 0 56 + z) (e2 : y = d 8 0 + z) : rD (zup τ 0 56 x) S na n (zup d 8 0 y) := by
  obtain ⟨hC, hN, hS, hA, hH, hW⟩ := h
  exact ⟨by simpa [rC, zup_at] using hC, by subst e e2; obtain ⟨n1, n2, n3, n4, n5, n6, n7, n8, n9⟩ := hN; refine ⟨by simpa [zup_at] using n1, by simpa [zup_at] using n2, by simpa [zup_at] using n3, by simpa [zup_at] using n4, by simpa [zup_at] using n5, by simpa [zup_at] using n6, by simpa [zup_at] using n7, by simpa [zup_at] using n8, ?_⟩; simp only [zup_at]; simp; rw [n9, Int32.add_assoc, Int32.add_assoc, Int32.add_comm z], by simpa [zup_at] using hS, fun a ha => by simpa [zup_at] using hA a ha, fun q hq => by simpa [rH, zup_at] using hH q hq, fun q hq => by simpa [rW, zup_at] using hW q hq⟩
theorem rD.fals {τ S d : zS} {na n : Nat} {x y z : Int32} (h : rD τ S na n d) (e : x = τ 0 58 + 1) (e2 : y = d 8 3 + 1) (e3 : z = d 8 0 + S 0 4) : rD (zup τ 0 58 x) S na n (zup (zup d 8 3 y) 8 0 z) := by
  obtain ⟨hC, hN, hS, hA, hH, hW⟩ := h
  exact ⟨by simpa [rC, zup_at] using hC, by subst e e2 e3; obtain ⟨n1, n2, n3, n4, n5, n6, n7, n8, n9⟩ := hN; refine ⟨by simpa [zup_at] using n1, by simpa [zup_at] using n2, by simpa [zup_at] using n3, by simpa [zup_at] using n4, by simpa [zup_at] using n5, by simpa [zup_at] using n6, by simp [zup_at, n7], by simpa [zup_at] using n8, ?_⟩; simp only [zup_at]; simp; rw [n9, Int32.mul_add, Int32.mul_one, Int32.add_assoc], by simpa [zup_at] using hS, fun a ha => by simpa [zup_at] using hA a ha, fun q hq => by simpa [rH, zup_at] using hH q hq, fun q hq => by simpa [rW, zup_at] using hW q hq⟩
theorem rD.free {τ S d : zS} {na n : Nat} {y : Int32} (h : rD τ S na n d) : rD τ S na n (zup d 8 2 y) := by
  obtain ⟨hC, hN, hS, hA, hH, hW⟩ := h
  exact ⟨by simpa [rC, zup_at] using hC, by simpa [rN, zup_at] using hN, by simpa [zup_at] using hS, fun a ha => by simpa [zup_at] using hA a ha, fun q hq => by simpa [rH, zup_at] using hH q hq, fun q hq => by simpa [rW, zup_at] using hW q hq⟩
theorem rD.free7 {τ S d : zS} {na n p : Nat} {y : Int32} (h : rD τ S na n d) : rD τ S na n (zup d 7 p y) := by
  obtain ⟨hC, hN, hS, hA, hH, hW⟩ := h
  exact ⟨by simpa [rC, zup_at] using hC, by simpa [rN, zup_at] using hN, by simpa [zup_at] using hS, fun a ha => by simpa [zup_at] using hA a ha, fun q hq => by simpa [rH, zup_at] using hH q hq, fun q hq => by simpa [rW, zup_at] using hW q hq⟩
theorem rD.free9 {τ S d : zS} {na n p : Nat} {y : Int32} (h : rD τ S na n d) : rD τ S na n (zup d 9 p y) := by
  obtain ⟨hC, hN, hS, hA, hH, hW⟩ := h
  exact ⟨by simpa [rC, zup_at] using hC, by simpa [rN, zup_at] using hN, by simpa [zup_at] using hS, fun a ha => by simpa [zup_at] using hA a ha, fun q hq => by simpa [rH, zup_at] using hH q hq, fun q hq => by simpa [rW, zup_at] using hW q hq⟩
theorem rD.free10 {τ S d : zS} {na n p : Nat} {y : Int32} (h : rD τ S na n d) : rD τ S na n (zup d 10 p y) := by
  obtain ⟨hC, hN, hS, hA, hH, hW⟩ := h
  exact ⟨by simpa [rC, zup_at] using hC, by simpa [rN, zup_at] using hN, by simpa [zup_at] using hS, fun a ha => by simpa [zup_at] using hA a ha, fun q hq => by simpa [rH, zup_at] using hH q hq, fun q hq => by simpa [rW, zup_at] using hW q hq⟩
theorem rD.free11 {τ S d : zS} {na n p : Nat} {y : Int32} (h : rD τ S na n d) : rD τ S na n (zup d 11 p y) := by
  obtain ⟨hC, hN, hS, hA, hH, hW⟩ := h
  exact ⟨by simpa [rC, zup_at] using hC, by simpa [rN, zup_at] using hN, by simpa [zup_at] using hS, fun a ha => by simpa [zup_at] using hA a ha, fun q hq => by simpa [rH, zup_at] using hH q hq, fun q hq => by simpa [rW, zup_at] using hW q hq⟩
theorem rD.free12 {τ S d : zS} {na n p : Nat} {y : Int32} (h : rD τ S na n d) : rD τ S na n (zup d 12 p y) := by
  obtain ⟨hC, hN, hS, hA, hH, hW⟩ := h
  exact ⟨by simpa [rC, zup_at] using hC, by simpa [rN, zup_at] using hN, by simpa [zup_at] using hS, fun a ha => by simpa [zup_at] using hA a ha, fun q hq => by simpa [rH, zup_at] using hH q hq, fun q hq => by simpa [rW, zup_at] using hW q hq⟩
theorem rD.fret20 {τ S d : zS} {na n p : Nat} {x : Int32} (h : rD τ S na n d) : rD (zup τ 20 p x) S na n d := by
  obtain ⟨hC, hN, hS, hA, hH, hW⟩ := h
  exact ⟨by simpa [rC, zup_at] using hC, by simpa [rN, zup_at] using hN, by simpa [zup_at] using hS, fun a ha => by simpa [zup_at] using hA a ha, fun q hq => by simpa [rH, zup_at] using hH q hq, fun q hq => by simpa [rW, zup_at] using hW q hq⟩
theorem rD.fret21 {τ S d : zS} {na n p : Nat} {x : Int32} (h : rD τ S na n d) : rD (zup τ 21 p x) S na n d := by
  obtain ⟨hC, hN, hS, hA, hH, hW⟩ := h
  exact ⟨by simpa [rC, zup_at] using hC, by simpa [rN, zup_at] using hN, by simpa [zup_at] using hS, fun a ha => by simpa [zup_at] using hA a ha, fun q hq => by simpa [rH, zup_at] using hH q hq, fun q hq => by simpa [rW, zup_at] using hW q hq⟩
theorem zup_comm {d : zS} {a b i j : Nat} {v w : Int32} (h : a ≠ b) : zup (zup d a i v) b j w = zup (zup d b j w) a i v := by
  funext k l
  simp only [zup_at]
  repeat' split
  all_goals first | rfl | (exfalso; omega)
theorem mTal_z {d : zS} {p w : Nat} {v x : Int32} : mTal (zup d 5 p v) w x = zup (mTal d w x) 5 p v := by
  unfold mTal
  rw [zup_n (by decide : 8 ≠ 5), zup_comm (by decide)]
theorem mMrk_z {d : zS} {p q w : Nat} {v : Int32} : mMrk (zup d 5 p v) w q = zup (mMrk d w q) 5 p v := by
  unfold mMrk
  rw [zup_n (by decide : 8 ≠ 5), zup_comm (by decide)]
theorem mBck_z {d : zS} {p : Nat} {v x : Int32} : mBck (zup d 5 p v) x = zup (mBck d x) 5 p v := by
  unfold mBck pt
  rw [zup_n (by decide : 3 ≠ 5)]
  repeat' split
  · rfl
  · rfl
  · rw [zup_comm (by decide)]
theorem mBck_n {d : zS} {a : Nat} (h : a < 10) : mBck d (nI a) = zup d 3 a (d 3 a + 1) := by
  unfold mBck
  rw [pt_n h (by decide), rd_n h (by decide)]
/-- he leaves -/
theorem gLv {τ S d : zS} {na n p c t l : Nat} (h10 : na ≤ 10) (h8 : n ≤ 8) (hp : p < n) (hP : rP τ S na p c t l) (hD : rD τ S na n d) : ∃ τ', FX8_leave 0 (nI p) τ = some (0, τ') ∧ Fr τ τ' ∧ rD τ' S na n (if d 5 p = -1 then zup d 4 p (-1) else mLv S p (zup d 4 p (-1))) ∧ τ' 24 = upd (τ 24) p (-2) := by
  have hp8 : p < 8 := by omega
  have hD1 : rD (zup τ 24 p (-2)) S na n (zup d 4 p (-1)) := hD.place (fun _ => Or.inl ⟨by simp [zup_at], by simp [zup_at]⟩)
  obtain ⟨hC, hN, hS, hA, hH, hW⟩ := hD
  obtain ⟨hH1, hH2, hH3⟩ := hH p hp
  obtain ⟨n1, n2, n3, n4, n5, n6, n7, n8, n9⟩ := hN
  obtain ⟨c1, c2, c3, c4, c5, c6⟩ := hC
  have e8 := hP.1
  rcases hH3 with hn | ⟨a, ha, hv⟩
  · rw [if_pos hn]
    refine ⟨zup τ 24 p (-2), ?_, Fr.rf.up rfl, hD1, zup_s⟩
    unfold FX8_leave
    simp only [zlet_eq, zbd_s, zgd_t, zinr_s, Nat.zero_add, rn_3, rn_4, rn_5, rn_6, rn_7, rn_8, rn_9, rn_10, rn_11, rn_12, rn_13, rn_14, rn_15, rn_16, rn_17, rn_18, rn_19, rn_20, rn_21, rn_22, rn_23, rn_24, rn_25, rn_26, rn_27, rn_28, rn_29, rn_30, rn_31, rn_32, rn_33, rn_34, rn_35, rn_36, rn_37, rn_38, rn_39, rn_40, tn_0, tn_1, tn_2, tn_3, tn_4, tn_5, tn_6, tn_7, tn_8, zi_18_0, zi_18_1, zi_18_2, zi_18_3, zi_18_4, zi_18_5, zi_18_6, zi_18_7, zi_18_8, zi_7_0, zi_7_1, zi_7_2, zi_7_3, zi_7_4, zi_7_5, zi_7_6, zi_64_0, zin_n _ hp8 (by decide : 8 < 2 ^ 31), nI_clamp (by omega : p < 2 ^ 31), zup_n (by decide : 25 ≠ 24), hH1, hn, if_true]
  · have c0 : ¬ nI a = -1 := nI_m1 (by omega)
    rw [if_neg (by rw [hv]; exact c0)]
    unfold FX8_leave FX8_leave_b139 FX8_leave_b109 FX8_leave_b169
    simp only [zlet_eq, zbd_s, zgd_t, zinr_s, Nat.zero_add, rn_3, rn_4, rn_5, rn_6, rn_7, rn_8, rn_9, rn_10, rn_11, rn_12, rn_13, rn_14, rn_15, rn_16, rn_17, rn_18, rn_19, rn_20, rn_21, rn_22, rn_23, rn_24, rn_25, rn_26, rn_27, rn_28, rn_29, rn_30, rn_31, rn_32, rn_33, rn_34, rn_35, rn_36, rn_37, rn_38, rn_39, rn_40, tn_0, tn_1, tn_2, tn_3, tn_4, tn_5, tn_6, tn_7, tn_8, zi_18_0, zi_18_1, zi_18_2, zi_18_3, zi_18_4, zi_18_5, zi_18_6, zi_18_7, zi_18_8, zi_7_0, zi_7_1, zi_7_2, zi_7_3, zi_7_4, zi_7_5, zi_7_6, zi_64_0, zin_n _ hp8 (by decide : 8 < 2 ^ 31), zin_n _ (by omega : p < 16) (by decide : 16 < 2 ^ 31), zin_n _ (by omega : a < 10) (by decide : 10 < 2 ^ 31), nI_clamp (by omega : p < 2 ^ 31), nI_clamp (by omega : a < 2 ^ 31), zup_n (by decide : 25 ≠ 24), zup_n (by decide : 25 ≠ 0), zup_n (by decide : 8 ≠ 24), zup_n (by decide : 22 ≠ 24), zup_n (by decide : 23 ≠ 0), zup_n (by decide : 23 ≠ 24), zup_n (by decide : 0 ≠ 24), hH1, hv, if_neg c0, fisOf _ (Nat.lt_trans hp8 (by decide : 8 < 32)), b01_eq0, e8, n2, n3, c4]
    simp only [mLv, mTal_z, mMrk_z, mBck_z, zup_n (by decide : 0 ≠ 4), zup_n (by decide : 8 ≠ 4), zup_n (by decide : 5 ≠ 4)]
    simp only [hv, mBck_n (by omega : a < 10), zup_n (by decide : 1 ≠ 4), rd_n (by omega : a < 10) (by decide : 10 < 2 ^ 31)]
    have z : ∀ (j : Nat) (v : Int32), j ≠ 49 → zup (zup τ 24 p (-2)) 0 j v 0 49 = d 0 4 := fun j v hj => by rw [zup_at, if_neg (by omega), zup_n (by decide), c4]
    rw [z 59 _ (by decide)]
    unfold mTal mMrk
    by_cases h3 : S 8 p = 0
    · cases h1 : bt (d 8 5) p <;> cases h2 : bt (d 0 13) p <;> by_cases h4 : d 0 4 = 2 <;> simp only [h3, h4, and_true, and_false, and_self, if_true, if_false, Bool.true_eq_false, Bool.false_eq_true] <;> refine ⟨_, rfl, ?_, ?_, ?_⟩
      all_goals first | (refine rD.thing ?_ (Or.inl rfl) rfl) | (simp only [zup_n (by decide : 24 ≠ 25), zup_n (by decide : 24 ≠ 0), zup_s]; done) | (repeat' (first | exact Fr.rf | refine Fr.up ?_ rfl))
      all_goals first | exact hD1.paid (by simp [zup_at, n8]) | exact (hD1.paid (by simp [zup_at, n8])).fals (by simp [zup_at]) (by simp [zup_at]) (by simp [zup_at])
    · have w1 := (c5 a ha).1
      have w2 := hA a ha
      by_cases h4 : d 0 4 = 2
      · cases h1 : bt (d 8 5) p <;> simp only [h3, h4, and_true, and_false, and_self, true_and, false_and, true_or, or_true, if_true, if_false, Bool.true_eq_false, Bool.false_eq_true] <;> refine ⟨_, rfl, ?_, ?_, ?_⟩
        all_goals first | (refine rD.thing ?_ (Or.inl rfl) rfl) | (simp only [zup_n (by decide : 24 ≠ 25), zup_n (by decide : 24 ≠ 23), zup_n (by decide : 24 ≠ 0), zup_s]; done) | (repeat' (first | exact Fr.rf | refine Fr.up ?_ rfl))
        · exact (hD1.lost (z := d 1 a) (by simp [zup_at, w1]) (by simp [zup_at])).lostN (by simp [zup_at, n6])
        · refine rD.stock (rD.caught (rD.free hD1) ?_) ?_
          · simp [zup_at, n5, sb]
          · simp [zup_at, w2]
      · have z2 : ∀ (j : Nat) (v : Int32), j ≠ 49 → zup (zup τ 24 p (-2)) 0 j v 0 49 = d 0 4 := z
        cases h1 : bt (d 8 5) p <;> cases h2 : bt (d 0 13) p <;> by_cases h5 : d 0 4 = 1 <;> simp only [h3, h4, h5, and_true, and_false, and_self, true_and, false_and, true_or, or_true, false_or, or_false, or_self, if_true, if_false, Bool.true_eq_false, Bool.false_eq_true, show ¬ (1 : Int32) = 2 from by decide] <;> refine ⟨_, rfl, ?_, ?_, ?_⟩
        all_goals first | (refine rD.thing ?_ (Or.inl rfl) rfl) | (simp only [zup_n (by decide : 24 ≠ 25), zup_n (by decide : 24 ≠ 23), zup_n (by decide : 24 ≠ 0), zup_s]; done) | (repeat' (first | exact Fr.rf | refine Fr.up ?_ rfl))
        all_goals first | exact (hD1.lost (z := d 1 a) (by simp [zup_at, w1]) (by simp [zup_at])).lostN (by simp [zup_at, n6]) | skip
        all_goals (refine rD.stock (rD.caught (rD.free hD1) ?_) ?_)
        · simp [zup_at, n5, sb]
        · simp [zup_at, w2]
