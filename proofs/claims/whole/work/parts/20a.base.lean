theorem fa_lt (a b : Int32) : a < b ↔ a.toInt < b.toInt := Int32.lt_iff_toInt_lt
theorem fa_le (a b : Int32) : a ≤ b ↔ a.toInt ≤ b.toInt := Int32.le_iff_toInt_le
theorem fa_eq (a b : Int32) : a = b ↔ a.toInt = b.toInt := Int32.toInt_inj.symm
theorem fa_of_lt {a b : Int32} (h : a < b) : a ≤ b ∧ ¬ b ≤ a ∧ ¬ b < a ∧ a ≠ b ∧ b ≠ a := by
  rw [fa_lt] at h
  refine ⟨?_, ?_, ?_, ?_, ?_⟩
  · rw [fa_le]; omega
  · rw [fa_le]; omega
  · rw [fa_lt]; omega
  · intro e; rw [fa_eq] at e; omega
  · intro e; rw [fa_eq] at e; omega
theorem fa_of_nlt {a b : Int32} (h : ¬ a < b) : b ≤ a := by
  rw [fa_lt] at h
  rw [fa_le]
  omega
theorem fa_of_nle {a b : Int32} (h : ¬ a ≤ b) : b < a := by
  rw [fa_le] at h
  rw [fa_lt]
  omega
theorem fa_le_ne {a b : Int32} (h : a ≤ b) (h2 : a ≠ b) : a < b := by
  rw [fa_le] at h
  rw [fa_lt]
  have h3 : a.toInt ≠ b.toInt := fun e => h2 ((fa_eq a b).mpr e)
  omega
theorem fa_three (a b : Int32) : a < b ∨ a = b ∨ b < a := by
  rw [fa_lt, fa_lt, fa_eq]
  omega
theorem fa_trans {a b c : Int32} (h : a < b) (h2 : b ≤ c) : a < c := by
  rw [fa_lt] at *
  rw [fa_le] at h2
  omega
/-! ===== Int32 by its bits: bt x i ===== -/
def bt (x : Int32) (i : Nat) : Bool := x.toBitVec.getLsbD i
theorem b_ext {x y : Int32} (h : ∀ i, i < 32 → bt x i = bt y i) : x = y := Int32.toBitVec_inj.mp (BitVec.eq_of_getLsbD_eq (fun i hi => h i hi))
theorem b_or (x y : Int32) (i : Nat) : bt (x ||| y) i = (bt x i || bt y i) := by unfold bt; rw [Int32.toBitVec_or, BitVec.getLsbD_or]
theorem b_and (x y : Int32) (i : Nat) : bt (x &&& y) i = (bt x i && bt y i) := by unfold bt; rw [Int32.toBitVec_and, BitVec.getLsbD_and]
theorem b_xor (x y : Int32) (i : Nat) : bt (x ^^^ y) i = (bt x i ^^ bt y i) := by unfold bt; rw [Int32.toBitVec_xor, BitVec.getLsbD_xor]
theorem b_big {x : Int32} {i : Nat} (h : 32 ≤ i) : bt x i = false := BitVec.getLsbD_of_ge _ _ h
theorem b_255 (i : Nat) : bt 255 i = decide (i < 8) := by
  rcases Nat.lt_or_ge i 32 with h | h
  · exact (by decide +kernel : ∀ i, i < 32 → bt 255 i = decide (i < 8)) i h
  · rw [b_big h, decide_eq_false (by omega)]
theorem b_65535 (i : Nat) : bt 65535 i = decide (i < 16) := by
  rcases Nat.lt_or_ge i 32 with h | h
  · exact (by decide +kernel : ∀ i, i < 32 → bt 65535 i = decide (i < 16)) i h
  · rw [b_big h, decide_eq_false (by omega)]
theorem b_m1 : ∀ i, i < 32 → bt (-1) i = true := by decide +kernel
theorem b_0 (i : Nat) : bt 0 i = false := BitVec.getLsbD_zero
theorem s_l : ∀ n, n < 32 → ((nI n &&& 31).toBitVec.smod 32).toNat = n := by decide +kernel
theorem s_u : ∀ n, n < 32 → (((nI n).toUInt32 &&& Int32.toUInt32 31).toBitVec % 32).toNat = n := by decide +kernel
theorem b_shl (n : Nat) (hn : n < 32) (x : Int32) {i : Nat} (hi : i < 32) : bt (x <<< (nI n &&& 31)) i = (decide (n ≤ i) && bt x (i - n)) := by
  unfold bt
  rw [Int32.toBitVec_shiftLeft]
  show (x.toBitVec <<< ((nI n &&& 31).toBitVec.smod 32).toNat).getLsbD i = _
  rw [s_l n hn, BitVec.getLsbD_shiftLeft]
  rcases Nat.lt_or_ge i n with h | h
  · simp [h, Nat.not_le.mpr h]
  · simp [hi, h, Nat.not_lt.mpr h]
theorem b_ushr (n : Nat) (hn : n < 32) (x : Int32) (i : Nat) : bt ((x.toUInt32 >>> ((nI n).toUInt32 &&& Int32.toUInt32 31)).toInt32) i = bt x (n + i) := by
  show (x.toUInt32 >>> ((nI n).toUInt32 &&& Int32.toUInt32 31)).toBitVec.getLsbD i = x.toUInt32.toBitVec.getLsbD (n + i)
  rw [UInt32.toBitVec_shiftRight]
  show (x.toUInt32.toBitVec >>> (((nI n).toUInt32 &&& Int32.toUInt32 31).toBitVec % 32).toNat).getLsbD i = _
  rw [s_u n hn, BitVec.getLsbD_ushiftRight]
theorem b_sshr (n : Nat) (hn : n < 32) (x : Int32) {i : Nat} (hi : i < 32) : bt (x >>> (nI n &&& 31)) i = if n + i < 32 then bt x (n + i) else bt x 31 := by
  unfold bt
  rw [Int32.toBitVec_shiftRight]
  show (x.toBitVec.sshiftRight ((nI n &&& 31).toBitVec.smod 32).toNat).getLsbD i = _
  rw [s_l n hn, BitVec.getLsbD_sshiftRight, BitVec.msb_eq_getLsbD_last]
  simp [hi]
theorem b_shl8 (x : Int32) {i : Nat} (hi : i < 32) : bt (x <<< ((8 : Int32) &&& 31)) i = (decide (8 ≤ i) && bt x (i - 8)) := b_shl 8 (by omega) x hi
theorem b_shl16 (x : Int32) {i : Nat} (hi : i < 32) : bt (x <<< ((16 : Int32) &&& 31)) i = (decide (16 ≤ i) && bt x (i - 16)) := b_shl 16 (by omega) x hi
theorem b_shl24 (x : Int32) {i : Nat} (hi : i < 32) : bt (x <<< ((24 : Int32) &&& 31)) i = (decide (24 ≤ i) && bt x (i - 24)) := b_shl 24 (by omega) x hi
theorem b_sshr8 (x : Int32) {i : Nat} (hi : i < 32) : bt (x >>> ((8 : Int32) &&& 31)) i = if 8 + i < 32 then bt x (8 + i) else bt x 31 := b_sshr 8 (by omega) x hi
/-! the pure part: rows for the programs' words -/
theorem zlet_eq {α β : Type} (a : α) (f : α → β) : zlet a f = f a := Eq.trans rfl rfl
theorem zbd_s {β : Type} (r : Int32) (σ : zS) (f : Int32 → zS → Option β) : zbd (some (r, σ)) f = f r σ := Eq.trans rfl rfl
theorem zgd_t {β : Type} (r : Option β) : zgd true r = r := Eq.trans rfl rfl
theorem zinr_s {α β : Type} (b : β) : (zinr (some b) : Option (α ⊕ β)) = some (.inr b) := Eq.trans rfl rfl
theorem zbx_0 {β : Type} (r : Int32) (σ : zS) (f : Int32 → zS → Option β) (g : Nat → zS → Option β) : zbx (some (0, r, σ)) f g = f r σ := Eq.trans rfl rfl
theorem zbx_1 {β : Type} (r : Int32) (σ : zS) (f : Int32 → zS → Option β) (g : Nat → zS → Option β) : zbx (some (1, r, σ)) f g = g 1 σ := Eq.trans rfl rfl
theorem zbx_2 {β : Type} (r : Int32) (σ : zS) (f : Int32 → zS → Option β) (g : Nat → zS → Option β) : zbx (some (2, r, σ)) f g = g 2 σ := Eq.trans rfl rfl
theorem zin_n {β : Type} {n p : Nat} (r : Option β) (h : p < n) (hn : n < 2 ^ 31) : zin n (nI p) r = r := by unfold zin; rw [if_neg (nI_in h hn)]
/-- loops -/
theorem zlp_step {α β : Type} {f : α → Option (α ⊕ β)} {a a' : α} (h : f a = some (.inl a')) : zlp f a = zlp f a' := by
  have key : ∀ b, zlp f a = some b ↔ zlp f a' = some b := by
    intro b
    rw [zlp_iff, zlp_iff]
    constructor
    · intro ⟨n, hn⟩
      cases n with
      | zero => cases hn
      | succ n => unfold zit at hn; rw [h] at hn; exact ⟨n, hn⟩
    · intro ⟨n, hn⟩
      refine ⟨n + 1, ?_⟩
      unfold zit; rw [h]; exact hn
  cases e : zlp f a' with
  | some b => exact (key b).mpr e
  | none =>
    cases e2 : zlp f a with
    | none => rfl
    | some b => rw [(key b).mp e2] at e; cases e
theorem zlp_end {α β : Type} {f : α → Option (α ⊕ β)} {a : α} {b : β} (h : f a = some (.inr b)) : zlp f a = some b := by
  rw [zlp_iff]
  refine ⟨1, ?_⟩
  unfold zit; rw [h]
theorem zlp_to {α β : Type} {f : α → Option (α ⊕ β)} (st : Nat → α) (n : Nat) (h : ∀ p, p < n → f (st p) = some (.inl (st (p + 1)))) : zlp f (st 0) = zlp f (st n) := by
  induction n with
  | zero => rfl
  | succ n ih => rw [ih (fun p hp => h p (by omega)), zlp_step (h n (by omega))]
theorem zlp_for {α β : Type} {f : α → Option (α ⊕ β)} (st : Nat → α) (n : Nat) {b : β} (h : ∀ p, p < n → f (st p) = some (.inl (st (p + 1)))) (he : f (st n) = some (.inr b)) : zlp f (st 0) = some b := by
  rw [zlp_to st n h, zlp_end he]
/-- a loop with an invariant and a measure -/
theorem zlp_inv {α β : Type} {f : α → Option (α ⊕ β)} (I : α → Prop) (P : β → Prop) (m : α → Nat) (hs : ∀ a, I a → (∃ a', f a = some (.inl a') ∧ I a' ∧ m a' < m a) ∨ (∃ b, f a = some (.inr b) ∧ P b)) : ∀ a, I a → ∃ b, zlp f a = some b ∧ P b := by
  have key : ∀ n a, m a < n → I a → ∃ b, zlp f a = some b ∧ P b := by
    intro n
    induction n with
    | zero => intro a h; omega
    | succ n ih =>
      intro a h hI
      rcases hs a hI with ⟨a', h1, h2, h3⟩ | ⟨b, h1, h2⟩
      · rw [zlp_step h1]
        exact ih a' (by omega) h2
      · exact ⟨b, zlp_end h1, h2⟩
  exact fun a => key (m a + 1) a (by omega)
/-- an iteration over 0 .. n-1 -/
def fo {α : Type} (f : Nat → α → α) : Nat → α → α
  | 0, a => a
  | n + 1, a => f n (fo f n a)
theorem fo_inv {α : Type} {f : Nat → α → α} (I : Nat → α → Prop) {n : Nat} {a : α} (h0 : I 0 a) (hs : ∀ p a, p < n → I p a → I (p + 1) (f p a)) : I n (fo f n a) := by
  have : ∀ k, k ≤ n → I k (fo f k a) := by
    intro k
    induction k with
    | zero => intro _; exact h0
    | succ k ih => intro hk; exact hs k _ (by omega) (ih (by omega))
  exact this n (Nat.le_refl n)
theorem fo_congr {α : Type} {f g : Nat → α → α} {n : Nat} {a : α} (h : ∀ p a, p < n → f p a = g p a) : fo f n a = fo g n a := by
  have : ∀ k, k ≤ n → fo f k a = fo g k a := by
    intro k
    induction k with
    | zero => intro _; rfl
    | succ k ih => intro hk; show f k (fo f k a) = g k (fo g k a); rw [ih (by omega), h k _ (by omega)]
  exact this n (Nat.le_refl n)
/-- cells and places -/
theorem zup_s {σ : zS} {k j : Nat} {v : Int32} : zup σ k j v k = upd (σ k) j v := by unfold zup; rw [if_pos rfl]
theorem zup_n {σ : zS} {k j a : Nat} {v : Int32} (h : a ≠ k) : zup σ k j v a = σ a := by unfold zup; rw [if_neg h]
theorem zup_at {σ : zS} {k j a i : Nat} {v : Int32} : zup σ k j v a i = if a = k ∧ i = j then v else σ a i := by
  unfold zup
  by_cases h : a = k
  · rw [if_pos h]
    subst h
    unfold upd
    by_cases h2 : i = j
    · rw [if_pos h2, if_pos ⟨rfl, h2⟩]
    · rw [if_neg h2, if_neg (fun z => h2 z.2)]
  · rw [if_neg h, if_neg (fun z => h z.1)]
theorem zrow_at {σ : zS} {k a : Nat} {f : Nat → Int32} : zrow σ k f a = if a = k then f else σ a := rfl
/-- reading and writing as the class does -/
def rd (n : Nat) (f : Nat → Int32) (i : Int32) : Int32 := if i < 0 then 0 else if nI n ≤ i then 0 else f i.toNatClampNeg
def pt (n : Nat) (σ : zS) (k : Nat) (i v : Int32) : zS := if i < 0 then σ else if nI n ≤ i then σ else zup σ k i.toNatClampNeg v
theorem rd_n {n p : Nat} {f : Nat → Int32} (h : p < n) (hn : n < 2 ^ 31) : rd n f (nI p) = f p := by
  unfold rd
  rw [if_neg (nI_pos (by omega)), if_neg (nI_ge h hn), nI_clamp (by omega)]
theorem pt_n {n p k : Nat} {σ : zS} {v : Int32} (h : p < n) (hn : n < 2 ^ 31) : pt n σ k (nI p) v = zup σ k p v := by
  unfold pt
  rw [if_neg (nI_pos (by omega)), if_neg (nI_ge h hn), nI_clamp (by omega)]
theorem rd_m1 {n : Nat} {f : Nat → Int32} : rd n f (-1) = 0 := rfl
theorem pt_m1 {n k : Nat} {σ : zS} {v : Int32} : pt n σ k (-1) v = σ := rfl
theorem vp_of_not {n : Nat} {i : Int32} (hn : n < 2 ^ 31) (h1 : ¬ i < 0) (h2 : ¬ nI n ≤ i) : ¬ (i < 0 ∨ n ≤ i.toNatClampNeg) := by
  obtain ⟨j, hj, rfl⟩ := nI_of h1
  rw [nI_leI hn hj] at h2
  rw [nI_clamp hj]
  intro h
  rcases h with h | h
  · exact h1 h
  · exact h2 h
theorem fat (k : Nat) (i : Int32) (σ : zS) (hn : ln 0 k < 2 ^ 31) : FX7_at k i σ = some (rd (ln 0 k) (σ k) i, σ) := by
  unfold FX7_at FX7_at_b16 FX7_at_b17 rd
  by_cases h1 : i < 0
  · rw [if_pos h1, if_pos h1]
  · rw [if_neg h1, if_neg h1]
    by_cases h2 : nI (ln 0 k) ≤ i
    · rw [if_pos h2, if_pos h2]
    · rw [if_neg h2, if_neg h2]
      unfold zin
      rw [if_neg (vp_of_not hn h1 h2)]
theorem fput (k : Nat) (i v : Int32) (σ : zS) (hn : ln 0 k < 2 ^ 31) : FX7_put k i v σ = some (0, pt (ln 0 k) σ k i v) := by
  unfold FX7_put FX7_put_b14 pt
  by_cases h1 : i < 0
  · rw [if_pos h1, if_pos h1]
  · rw [if_neg h1, if_neg h1]
    by_cases h2 : nI (ln 0 k) ≤ i
    · rw [if_pos h2, if_pos h2]
    · rw [if_neg h2, if_neg h2]
      unfold zin
      rw [if_neg (vp_of_not hn h1 h2)]
      rfl
theorem ln_small (L k : Nat) : ln L k < 2 ^ 31 := by
  have : ∀ l : List Nat, (∀ x ∈ l, x < 2 ^ 31) → l.getD k 0 < 2 ^ 31 := by
    intro l hl
    rw [List.getD_eq_getElem?_getD]
    cases h : l[k]? with
    | none => decide
    | some x => exact hl x (List.mem_of_getElem? h)
  unfold ln
  match L with
  | 0 => exact this _ (by decide)
  | L + 1 => exact this zln1 (by decide)
theorem fat' (k : Nat) (i : Int32) (σ : zS) : FX7_at k i σ = some (rd (ln 0 k) (σ k) i, σ) := fat k i σ (ln_small 0 k)
theorem fput' (k : Nat) (i v : Int32) (σ : zS) : FX7_put k i v σ = some (0, pt (ln 0 k) σ k i v) := fput k i v σ (ln_small 0 k)
/-- truth as an int -/
def b01 (b : Bool) : Int32 := if b = true then 1 else 0
theorem b01_gd {β : Type} (b : Bool) (r : Option β) : zgd (b01 b == 0 || b01 b == 1) r = r := by cases b <;> rfl
theorem b01_eq0 (b : Bool) : (b01 b = 0) ↔ b = false := by cases b <;> decide
theorem b01_ne0 (b : Bool) : (¬ b01 b = 0) ↔ b = true := by cases b <;> decide
theorem b01_t : b01 true = 1 := rfl
theorem b01_f : b01 false = 0 := rfl
theorem b01_inj {a b : Bool} : b01 a = b01 b ↔ a = b := by cases a <;> cases b <;> decide
theorem zgd_11 {β : Type} (r : Option β) : zgd ((1 : Int32) == 0 || (1 : Int32) == 1) r = r := Eq.trans rfl rfl
theorem zgd_00 {β : Type} (r : Option β) : zgd ((0 : Int32) == 0 || (0 : Int32) == 1) r = r := Eq.trans rfl rfl
/-- bits -/
theorem bt_0 {x : Int32} {p : Nat} (hp : p < 32) : ((x >>> (nI p &&& 31)) &&& 1 = 0) ↔ bt x p = false := by
  have key : ∀ i, i < 32 → bt ((x >>> (nI p &&& 31)) &&& 1) i = (decide (i = 0) && bt x p) := by
    intro i hi
    rw [b_and, b_sshr p hp x hi, show bt (1 : Int32) i = decide (i = 0) from (by decide +kernel : ∀ i, i < 32 → bt (1 : Int32) i = decide (i = 0)) i hi]
    by_cases h0 : i = 0
    · subst h0
      rw [if_pos (by omega)]
      simp
    · simp [h0]
  constructor
  · intro h
    have := key 0 (by omega)
    rw [h, b_0] at this
    simpa using this.symm
  · intro h
    apply b_ext
    intro i hi
    rw [key i hi, h, b_0, Bool.and_false]
theorem bt_1 {x : Int32} {p : Nat} (hp : p < 32) : ((x >>> (nI p &&& 31)) &&& 1 = 1) ↔ bt x p = true := by
  have key : ∀ i, i < 32 → bt ((x >>> (nI p &&& 31)) &&& 1) i = (decide (i = 0) && bt x p) := by
    intro i hi
    rw [b_and, b_sshr p hp x hi, show bt (1 : Int32) i = decide (i = 0) from (by decide +kernel : ∀ i, i < 32 → bt (1 : Int32) i = decide (i = 0)) i hi]
    by_cases h0 : i = 0
    · subst h0
      rw [if_pos (by omega)]
      simp
    · simp [h0]
  constructor
  · intro h
    have := key 0 (by omega)
    rw [h] at this
    simpa [show bt (1 : Int32) 0 = true from by decide +kernel] using this.symm
  · intro h
    apply b_ext
    intro i hi
    rw [key i hi, h, Bool.and_true]
    exact ((by decide +kernel : ∀ i, i < 32 → bt (1 : Int32) i = decide (i = 0)) i hi).symm
/-- one bit -/
def sb (p : Nat) : Int32 := (1 : Int32) <<< (nI p &&& 31)
theorem sb_bt {p i : Nat} (hp : p < 32) (hi : i < 32) : bt (sb p) i = decide (i = p) := by
  unfold sb
  rw [b_shl p hp 1 hi]
  by_cases h : p ≤ i
  · rw [show bt (1 : Int32) (i - p) = decide (i - p = 0) from (by decide +kernel : ∀ i, i < 32 → bt (1 : Int32) i = decide (i = 0)) (i - p) (by omega)]
    have : (i - p = 0) ↔ (i = p) := by omega
    simp [h, this]
  · simp [h]; omega
theorem bt_or {x : Int32} {p i : Nat} (hp : p < 32) (hi : i < 32) : bt (x ||| sb p) i = (bt x i || decide (i = p)) := by rw [b_or, sb_bt hp hi]
theorem bt_off {x : Int32} {p i : Nat} (hp : p < 32) (hi : i < 32) : bt (x &&& (sb p ^^^ (-1))) i = (bt x i && !decide (i = p)) := by
  rw [b_and, b_xor, sb_bt hp hi, b_m1 i hi]
  cases decide (i = p) <;> simp
theorem fholds {x : Int32} {p : Nat} (σ : zS) (hp : p < 32) : FX7_holds x (nI p) σ = some (b01 (bt x p), σ) := by
  unfold FX7_holds FX7_holds_b22 FX7_holds_b23
  rw [if_neg (nI_pos (by omega)), if_neg (show ¬ (32 : Int32) ≤ nI p from nI_ge (b := 32) hp (by omega))]
  cases h : bt x p
  · rw [if_pos ((bt_0 hp).mpr h)]; rfl
  · rw [if_neg (fun z => by rw [(bt_0 hp).mp z] at h; cases h)]; rfl
theorem fisOf {x : Int32} {p : Nat} (σ : zS) (hp : p < 32) : FX8_isOf x (nI p) σ = some (b01 (bt x p), σ) := by
  unfold FX8_isOf FX8_isOf_b14
  cases h : bt x p
  · rw [if_neg (fun z => by rw [(bt_1 hp).mp z] at h; cases h)]; rfl
  · rw [if_pos ((bt_1 hp).mpr h)]; rfl
theorem fbit (p : Nat) (σ : zS) : FX7_bit (nI p) σ = some (sb p, σ) := rfl
