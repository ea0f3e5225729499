/-! the fewest WAYS: over each AISLE in turn (the class), by levels (the reference) -/
def wlk (E : Nat → Nat → Bool) (na : Nat) : Nat → Nat → Nat → Prop
  | 0, a, b => a = b
  | m + 1, a, b => ∃ c, c < na ∧ wlk E na m a c ∧ E c b = true
theorem wlk_s {E : Nat → Nat → Bool} {na m a b : Nat} : wlk E na (m + 1) a b ↔ ∃ c, c < na ∧ wlk E na m a c ∧ E c b = true := Iff.rfl
theorem wlk_cat {E : Nat → Nat → Bool} {na m a c : Nat} (h : wlk E na m a c) : ∀ l b, wlk E na l c b → wlk E na (m + l) a b := by
  intro l
  induction l with
  | zero => intro b hb; have : c = b := hb; rw [← this]; exact h
  | succ l ih =>
    intro b hb
    obtain ⟨x, x1, x2, x3⟩ := hb
    exact ⟨x, x1, ih x x2, x3⟩
def fw0 (E : Nat → Nat → Bool) (a b : Nat) : Nat := if a = b then 0 else if E a b = true then 1 else 99
def fwm (D : Nat → Nat → Nat) (k a b : Nat) : Nat := if D a k + D k b < D a b then D a k + D k b else D a b
def fw (E : Nat → Nat → Bool) : Nat → Nat → Nat → Nat
  | 0 => fw0 E
  | k + 1 => fwm (fw E k) k
theorem fwm_le {D : Nat → Nat → Nat} {k a b : Nat} : fwm D k a b ≤ D a b ∧ fwm D k a b ≤ D a k + D k b := by
  unfold fwm
  split <;> omega
theorem fw_aa {E : Nat → Nat → Bool} : ∀ k a, fw E k a a = 0 := by
  intro k
  induction k with
  | zero => intro a; exact if_pos rfl
  | succ k ih =>
    intro a
    have := (fwm_le (D := fw E k) (k := k) (a := a) (b := a)).1
    rw [ih a] at this
    exact Nat.le_zero.mp this
theorem fw_99 {E : Nat → Nat → Bool} : ∀ k a b, fw E k a b ≤ 99 := by
  intro k
  induction k with
  | zero =>
    intro a b
    show fw0 E a b ≤ 99
    unfold fw0
    split
    · omega
    · split <;> omega
  | succ k ih => intro a b; exact Nat.le_trans (fwm_le (D := fw E k)).1 (ih a b)
theorem fw_1 {E : Nat → Nat → Bool} {a b : Nat} (h : E a b = true) : ∀ k, fw E k a b ≤ 1 := by
  intro k
  induction k with
  | zero =>
    show fw0 E a b ≤ 1
    unfold fw0
    rw [if_pos h]
    split <;> omega
  | succ k ih => exact Nat.le_trans (fwm_le (D := fw E k)).1 ih
theorem fw_k {E : Nat → Nat → Bool} {k a : Nat} : fw E (k + 1) a k = fw E k a k ∧ fw E (k + 1) k a = fw E k k a := by
  have h0 := fw_aa (E := E) k k
  refine ⟨?_, ?_⟩
  · show fwm (fw E k) k a k = _
    unfold fwm
    rw [if_neg (by omega)]
  · show fwm (fw E k) k k a = _
    unfold fwm
    rw [if_neg (by omega)]
theorem fw_tri {E : Nat → Nat → Bool} : ∀ k c, c < k → ∀ a b, fw E k a b ≤ fw E k a c + fw E k c b := by
  intro k
  induction k with
  | zero => intro c hc; omega
  | succ k ih =>
    intro c hc a b
    have m1 : fw E (k + 1) a b ≤ fw E k a b ∧ fw E (k + 1) a b ≤ fw E k a k + fw E k k b := fwm_le (D := fw E k)
    by_cases e : c = k
    · subst e
      rw [fw_k.1, fw_k.2]
      exact m1.2
    have hi := ih c (by omega)
    have d1 : fw E (k + 1) a c = fw E k a c ∨ fw E (k + 1) a c = fw E k a k + fw E k k c := by
      show fwm (fw E k) k a c = _ ∨ fwm (fw E k) k a c = _
      unfold fwm
      split
      · exact Or.inr rfl
      · exact Or.inl rfl
    have d2 : fw E (k + 1) c b = fw E k c b ∨ fw E (k + 1) c b = fw E k c k + fw E k k b := by
      show fwm (fw E k) k c b = _ ∨ fwm (fw E k) k c b = _
      unfold fwm
      split
      · exact Or.inr rfl
      · exact Or.inl rfl
    have x1 := hi a b
    have x2 := hi k b
    have x3 := hi a k
    omega
theorem fw_w {E : Nat → Nat → Bool} {na : Nat} : ∀ k, k ≤ na → ∀ a b, a < na → b < na → fw E k a b < 99 → wlk E na (fw E k a b) a b := by
  intro k
  induction k with
  | zero =>
    intro _ a b ha hb h
    have h : fw0 E a b < 99 := h
    show wlk E na (fw0 E a b) a b
    unfold fw0 at *
    by_cases c : a = b
    · rw [if_pos c]; exact c
    · rw [if_neg c] at h ⊢
      by_cases e : E a b = true
      · rw [if_pos e]; exact ⟨a, ha, rfl, e⟩
      · rw [if_neg e] at h; omega
  | succ k ih =>
    intro hk a b ha hb h
    have h : fwm (fw E k) k a b < 99 := h
    show wlk E na (fwm (fw E k) k a b) a b
    unfold fwm at *
    by_cases c : fw E k a k + fw E k k b < fw E k a b
    · rw [if_pos c] at h ⊢
      exact wlk_cat (ih (by omega) a k ha (by omega) (by omega)) _ b (ih (by omega) k b (by omega) hb (by omega))
    · rw [if_neg c] at h ⊢
      exact ih (by omega) a b ha hb h
/-- what both have in the end -/
def dst (E : Nat → Nat → Bool) (na : Nat) : Nat → Nat → Nat := fw E na
theorem dst_aa {E : Nat → Nat → Bool} {na a : Nat} : dst E na a a = 0 := fw_aa na a
theorem dst_e {E : Nat → Nat → Bool} {na a b c : Nat} (hb : b < na) (h : E b c = true) : dst E na a c ≤ dst E na a b + 1 := by
  have h1 := fw_tri (E := E) na b hb a c
  have h2 := fw_1 h na
  unfold dst
  omega
theorem dst_n {E : Nat → Nat → Bool} {na a b g : Nat} (hb : b < na) (h : E a b = true) : dst E na a g ≤ dst E na b g + 1 := by
  have h1 := fw_tri (E := E) na b hb a g
  have h2 := fw_1 h na
  unfold dst
  omega
theorem dst_wl {E : Nat → Nat → Bool} {na a : Nat} (ha : a < na) : ∀ m b, wlk E na m a b → dst E na a b ≤ m := by
  intro m
  induction m with
  | zero => intro b h; have h : a = b := h; rw [← h, dst_aa]; exact Nat.le_refl 0
  | succ m ih =>
    intro b ⟨c, c1, c2, c3⟩
    have := ih c c2
    have := dst_e (a := a) c1 c3
    omega
/-- the last WAY but one -/
theorem dst_p {E : Nat → Nat → Bool} {na a b m : Nat} (ha : a < na) (hb : b < na) (h : dst E na a b = m + 1) (hm : m + 1 < 99) : ∃ c, c < na ∧ dst E na a c = m ∧ E c b = true := by
  have h' : fw E na a b = m + 1 := h
  have w := fw_w (E := E) na (Nat.le_refl na) a b ha hb (by omega)
  rw [h'] at w
  obtain ⟨c, c1, c2, c3⟩ := w
  have h1 := dst_wl ha m c c2
  have h2 := dst_e (a := a) c1 c3
  exact ⟨c, c1, by omega, c3⟩
theorem fb_ct_one {p q : Nat → Bool} {n i : Nat} (hi : i < n) (hp : p i = false) (hq : q i = true) (h : ∀ k, k < n → p k = true → q k = true) : fb_ct p n + 1 ≤ fb_ct q n := by
  have e := fb_ct_upd p true (i := i) (n := n) hi
  rw [hp] at e
  have := fb_ct_sub (p := fun k => if k = i then true else p k) (q := q) (n := n) (fun k hk hk2 => by
    by_cases c : k = i
    · rw [c]; exact hq
    · simp only [c, if_false] at hk2; exact h k hk hk2)
  rw [if_neg (by decide), if_pos rfl] at e
  omega
theorem dst_c {E : Nat → Nat → Bool} {na a : Nat} (ha : a < na) : ∀ j, j < 99 → (∃ x, x < na ∧ dst E na a x = j) → j + 1 ≤ fb_ct (fun y => decide (dst E na a y ≤ j)) na := by
  intro j
  induction j with
  | zero =>
    intro _ _
    have := fb_ct_one (p := fun _ => false) (q := fun y => decide (dst E na a y ≤ 0)) ha rfl (by rw [dst_aa]; rfl) (fun k _ hk => by cases hk)
    omega
  | succ j ih =>
    intro hj ⟨x, x1, x2⟩
    obtain ⟨c, c1, c2, -⟩ := dst_p ha x1 x2 hj
    have h1 := ih (by omega) ⟨c, c1, c2⟩
    have h2 := fb_ct_one (p := fun y => decide (dst E na a y ≤ j)) (q := fun y => decide (dst E na a y ≤ j + 1)) (i := x) x1 (by rw [x2]; exact decide_eq_false (by omega)) (by rw [x2]; exact decide_eq_true (by omega)) (fun k _ hk => by
      have := of_decide_eq_true hk
      exact decide_eq_true (by omega))
    omega
theorem dst_9 {E : Nat → Nat → Bool} {na a b : Nat} (ha : a < na) (hb : b < na) : dst E na a b < na ∨ dst E na a b = 99 := by
  have h9 : dst E na a b ≤ 99 := fw_99 na a b
  by_cases c : dst E na a b = 99
  · exact Or.inr c
  · left
    have h1 := dst_c (E := E) ha (dst E na a b) (by omega) ⟨b, hb, rfl⟩
    have h2 := fb_ct_le (fun y => decide (dst E na a y ≤ dst E na a b)) na
    omega
/-! the class measures -/
section
variable {qt : Nat}
def mM (s : zS) (qt na : Nat) (D : Nat → Nat → Nat) : Prop := ∀ a b, a < na → b < na → s (qt + 6) (10 * a + b) = nI (D a b)
def mK (s0 s : zS) (qt : Nat) : Prop := ∀ k, k ≠ qt + 6 → s k = s0 k
theorem idx10 {a b : Nat} : nI a * 10 + nI b = nI (10 * a + b) := by rw [show (10 : Int32) = nI 10 from rfl, pk_mul, nI_add, Nat.mul_comm]
theorem fbt {s : zS} {na a b : Nat} {D : Nat → Nat → Nat} (hq : qt = 46 ∨ qt = 64) (h10 : na ≤ 10) (h : s (qt + 6) (10 * a + b) = nI (D a b)) (ha : a < na) (hb : b < na) : FX1_between (qt + 1) (nI a) (nI b) s = some (nI (D a b), s) := by
  have l : ln 0 (qt + 6) = 100 := by rcases hq with rfl | rfl <;> rfl
  unfold FX1_between
  rw [show qt + 1 + 5 = qt + 6 from rfl, idx10, fat', l, rd_n (by omega : 10 * a + b < 100) (by decide), zbd_s, h]
theorem fpt6 {s : zS} {na a b : Nat} {x : Int32} (hq : qt = 46 ∨ qt = 64) (h10 : na ≤ 10) (ha : a < na) (hb : b < na) : FX7_put (qt + 1 + 5) (nI a * 10 + nI b) x s = some (0, zup s (qt + 6) (10 * a + b) x) := by
  have l : ln 0 (qt + 6) = 100 := by rcases hq with rfl | rfl <;> rfl
  rw [show qt + 1 + 5 = qt + 6 from rfl, idx10, fput', l, pt_n (by omega : 10 * a + b < 100) (by decide)]
theorem mK.up {s0 s : zS} {j : Nat} {x : Int32} (h : mK s0 s qt) : mK s0 (zup s (qt + 6) j x) qt := fun k hk => (zup_n hk).trans (h k hk)
/-- one row of the first step -/
theorem fm_b {s0 : zS} {na a : Nat} {J : Nat → Int32} (hq : qt = 46 ∨ qt = 64) (h10 : na ≤ 10) (h1 : s0 (qt + 1) 0 = nI na) (hJ : ∀ i, i < 10 → s0 (qt + 4) i = J i) (ha : a < na) : ∀ k b s, b + k = na → mK s0 s qt → (∀ x y, x < na → y < na → (x < a ∨ (x = a ∧ y < b)) → s (qt + 6) (10 * x + y) = nI (fw0 (fun x y => bt (J x) y) x y)) → ∃ s', zlp (fun q : Int32 × zS => FX1_measure_L12 (qt + 1) (nI a) q.1 q.2) (nI b, s) = some (.inl (nI (a + 1), s')) ∧ mK s0 s' qt ∧ ∀ x y, x < na → y < na → x < a + 1 → s' (qt + 6) (10 * x + y) = nI (fw0 (fun x y => bt (J x) y) x y) := by
  have l4 : ln 0 (qt + 4) = 10 := by rcases hq with rfl | rfl <;> rfl
  intro k
  induction k with
  | zero =>
    intro b s hb hK hM
    refine ⟨s, zlp_end ?_, hK, fun x y hx hy hxa => hM x y hx hy (by omega)⟩
    show FX1_measure_L12 (qt + 1) (nI a) (nI b) s = _
    unfold FX1_measure_L12 FX1_measure_b63
    rw [hK (qt + 1) (by omega), h1, if_pos (nI_le (by omega) (by omega)), zlet_eq, nI_1]
    rfl
  | succ k ih =>
    intro b s hb hK hM
    have st : FX1_measure_L12 (qt + 1) (nI a) (nI b) s = some (.inl (nI (b + 1), zup s (qt + 6) (10 * a + b) (nI (fw0 (fun x y => bt (J x) y) a b)))) := by
      unfold FX1_measure_L12 FX1_measure_b54 fw0
      rw [hK (qt + 1) (by omega), h1, if_neg (nI_ge (by omega) (by omega))]
      by_cases c : a = b
      · subst c
        rw [if_pos rfl, if_pos rfl, fpt6 hq h10 ha ha, zbd_s, zlet_eq, nI_1]
        rfl
      · rw [if_neg (fun z => c ((nI_eq (by omega) (by omega)).mp z)), if_neg c, fjos, show qt + 1 + 3 = qt + 4 from rfl, l4, rd_n (by omega : a < 10) (by decide), hds_n (by omega : b < 32), hK (qt + 4) (by omega), hJ a (by omega), zbd_s, fpt6 hq h10 ha (by omega), fpt6 hq h10 ha (by omega), zbd_s, zbd_s, zlet_eq, zlet_eq, nI_1]
        show _ = some (Sum.inl (nI (b + 1), zup s (qt + 6) (10 * a + b) (nI (if bt (J a) b = true then 1 else 99))))
        cases bt (J a) b <;> rfl
    obtain ⟨s', e1, e2, e3⟩ := ih (b + 1) _ (by omega) (hK.up (j := 10 * a + b) (x := nI (fw0 (fun x y => bt (J x) y) a b))) (fun x y hx hy hxy => by
      by_cases c : x = a ∧ y = b
      · rw [c.1, c.2, zup_at, if_pos ⟨rfl, rfl⟩]
      · rw [zup_at, if_neg (by omega)]
        exact hM x y hx hy (by omega))
    exact ⟨s', (zlp_step (f := fun q : Int32 × zS => FX1_measure_L12 (qt + 1) (nI a) q.1 q.2) (a := (nI b, s)) st).trans e1, e2, e3⟩
theorem fm_1 {s0 : zS} {na : Nat} {J : Nat → Int32} (hq : qt = 46 ∨ qt = 64) (h10 : na ≤ 10) (h1 : s0 (qt + 1) 0 = nI na) (hJ : ∀ i, i < 10 → s0 (qt + 4) i = J i) : ∀ k a s, a + k = na → mK s0 s qt → (∀ x y, x < na → y < na → x < a → s (qt + 6) (10 * x + y) = nI (fw0 (fun x y => bt (J x) y) x y)) → ∃ s', zlp (fun q : Int32 × zS => FX1_measure_L2 (qt + 1) q.1 q.2) (nI a, s) = FX1_measure_b69 (qt + 1) s' ∧ mK s0 s' qt ∧ mM s' qt na (fw0 (fun x y => bt (J x) y)) := by
  intro k
  induction k with
  | zero =>
    intro a s ha hK hM
    refine ⟨s, zlp_exit ?_, hK, fun x y hx hy => hM x y hx hy (by omega)⟩
    show FX1_measure_L2 (qt + 1) (nI a) s = _
    unfold FX1_measure_L2
    rw [hK (qt + 1) (by omega), h1, if_pos (nI_le (by omega) (by omega))]
  | succ k ih =>
    intro a s ha hK hM
    obtain ⟨s1, e1, e2, e3⟩ := fm_b hq h10 h1 hJ (by omega : a < na) na 0 s (Nat.zero_add na) hK (fun x y hx hy hxy => hM x y hx hy (by omega))
    have st : FX1_measure_L2 (qt + 1) (nI a) s = some (.inl (nI (a + 1), s1)) := by
      unfold FX1_measure_L2
      rw [hK (qt + 1) (by omega), h1, if_neg (nI_ge (by omega) (by omega)), zlet_eq]
      exact e1
    obtain ⟨s', g1, g2, g3⟩ := ih (a + 1) s1 (by omega) e2 e3
    exact ⟨s', (zlp_step (f := fun q : Int32 × zS => FX1_measure_L2 (qt + 1) q.1 q.2) (a := (nI a, s)) st).trans g1, g2, g3⟩
/-- over one AISLE, a row -/
theorem fm_c {s0 : zS} {na o a : Nat} {D : Nat → Nat → Nat} (hq : qt = 46 ∨ qt = 64) (h10 : na ≤ 10) (h1 : s0 (qt + 1) 0 = nI na) (h0 : D o o = 0) (h99 : ∀ x y, D x y ≤ 99) (ho : o < na) (ha : a < na) : ∀ k b s, b + k = na → mK s0 s qt → (∀ x y, x < na → y < na → s (qt + 6) (10 * x + y) = nI (if x < a ∨ (x = a ∧ y < b) then fwm D o x y else D x y)) → ∃ s', zlp (fun q : Int32 × zS => FX1_measure_L91 (qt + 1) (nI o) (nI a) q.1 q.2) (nI b, s) = some (.inl (nI (a + 1), s')) ∧ mK s0 s' qt ∧ ∀ x y, x < na → y < na → s' (qt + 6) (10 * x + y) = nI (if x < a + 1 then fwm D o x y else D x y) := by
  have fk : ∀ x, fwm D o x o = D x o ∧ fwm D o o x = D o x := fun x => by
    unfold fwm
    rw [if_neg (by omega), if_neg (by omega)]
    exact ⟨rfl, rfl⟩
  intro k
  induction k with
  | zero =>
    intro b s hb hK hM
    refine ⟨s, zlp_end ?_, hK, fun x y hx hy => ?_⟩
    · show FX1_measure_L91 (qt + 1) (nI o) (nI a) (nI b) s = _
      unfold FX1_measure_L91 FX1_measure_b144
      rw [hK (qt + 1) (by omega), h1, if_pos (nI_le (by omega) (by omega)), zlet_eq, nI_1]
      rfl
    · rw [hM x y hx hy]
      by_cases c : x < a + 1
      · rw [if_pos c, if_pos (by omega)]
      · rw [if_neg c, if_neg (by omega)]
  | succ k ih =>
    intro b s hb hK hM
    have r1 : s (qt + 6) (10 * a + o) = nI (D a o) := by
      rw [hM a o ha ho]
      split
      · rw [(fk a).1]
      · rfl
    have r2 : s (qt + 6) (10 * o + b) = nI (D o b) := by
      rw [hM o b ho (by omega)]
      split
      · rw [(fk b).2]
      · rfl
    have r3 : s (qt + 6) (10 * a + b) = nI (D a b) := by
      rw [hM a b ha (by omega), if_neg (by omega)]
    have x1 := h99 a o
    have x2 := h99 o b
    have x3 := h99 a b
    have st : FX1_measure_L91 (qt + 1) (nI o) (nI a) (nI b) s = some (.inl (nI (b + 1), zup s (qt + 6) (10 * a + b) (nI (fwm D o a b)))) := by
      unfold FX1_measure_L91 fwm
      rw [hK (qt + 1) (by omega), h1, if_neg (nI_ge (by omega) (by omega)), fbt hq h10 r1 ha ho, zbd_s, fbt hq h10 r2 ho (by omega), zbd_s, zlet_eq, fbt hq h10 r3 ha (by omega), zbd_s, fpt6 hq h10 ha (by omega), zbd_s, zlet_eq, nI_1, nI_add]
      by_cases c : D a o + D o b < D a b
      · rw [if_pos c, if_pos (nI_lt c (by omega))]
      · rw [if_neg c, if_neg (nI_nlt (by omega) (by omega))]
    obtain ⟨s', e1, e2, e3⟩ := ih (b + 1) _ (by omega) (hK.up (j := 10 * a + b) (x := nI (fwm D o a b))) (fun x y hx hy => by
      by_cases c : x = a ∧ y = b
      · rw [c.1, c.2, zup_at, if_pos ⟨rfl, rfl⟩, if_pos (by omega)]
      · rw [zup_at, if_neg (by omega), hM x y hx hy]
        by_cases c2 : x < a ∨ (x = a ∧ y < b)
        · rw [if_pos c2, if_pos (by omega)]
        · rw [if_neg c2, if_neg (by omega)])
    exact ⟨s', (zlp_step (f := fun q : Int32 × zS => FX1_measure_L91 (qt + 1) (nI o) (nI a) q.1 q.2) (a := (nI b, s)) st).trans e1, e2, e3⟩
theorem fm_2 {s0 : zS} {na o : Nat} {D : Nat → Nat → Nat} (hq : qt = 46 ∨ qt = 64) (h10 : na ≤ 10) (h1 : s0 (qt + 1) 0 = nI na) (h0 : D o o = 0) (h99 : ∀ x y, D x y ≤ 99) (ho : o < na) : ∀ k a s, a + k = na → mK s0 s qt → (∀ x y, x < na → y < na → s (qt + 6) (10 * x + y) = nI (if x < a then fwm D o x y else D x y)) → ∃ s', zlp (fun q : Int32 × zS => FX1_measure_L81 (qt + 1) (nI o) q.1 q.2) (nI a, s) = some (.inl (nI (o + 1), s')) ∧ mK s0 s' qt ∧ mM s' qt na (fwm D o) := by
  intro k
  induction k with
  | zero =>
    intro a s ha hK hM
    refine ⟨s, zlp_end ?_, hK, fun x y hx hy => by rw [hM x y hx hy, if_pos (by omega)]⟩
    show FX1_measure_L81 (qt + 1) (nI o) (nI a) s = _
    unfold FX1_measure_L81 FX1_measure_b150
    rw [hK (qt + 1) (by omega), h1, if_pos (nI_le (by omega) (by omega)), zlet_eq, nI_1]
    rfl
  | succ k ih =>
    intro a s ha hK hM
    obtain ⟨s1, e1, e2, e3⟩ := fm_c hq h10 h1 h0 h99 ho (by omega : a < na) na 0 s (Nat.zero_add na) hK (fun x y hx hy => by
      rw [hM x y hx hy]
      by_cases c : x < a
      · rw [if_pos c, if_pos (by omega)]
      · rw [if_neg c, if_neg (by omega)])
    have st : FX1_measure_L81 (qt + 1) (nI o) (nI a) s = some (.inl (nI (a + 1), s1)) := by
      unfold FX1_measure_L81
      rw [hK (qt + 1) (by omega), h1, if_neg (nI_ge (by omega) (by omega)), zlet_eq]
      exact e1
    obtain ⟨s', g1, g2, g3⟩ := ih (a + 1) s1 (by omega) e2 e3
    exact ⟨s', (zlp_step (f := fun q : Int32 × zS => FX1_measure_L81 (qt + 1) (nI o) q.1 q.2) (a := (nI a, s)) st).trans g1, g2, g3⟩
theorem fm_3 {s0 : zS} {na : Nat} {E : Nat → Nat → Bool} (hq : qt = 46 ∨ qt = 64) (h10 : na ≤ 10) (h1 : s0 (qt + 1) 0 = nI na) : ∀ k o s, o + k = na → mK s0 s qt → mM s qt na (fw E o) → ∃ s', zlp (fun q : Int32 × zS => FX1_measure_L71 (qt + 1) q.1 q.2) (nI o, s) = some (0, s') ∧ mK s0 s' qt ∧ mM s' qt na (dst E na) := by
  intro k
  induction k with
  | zero =>
    intro o s ho hK hM
    refine ⟨s, zlp_end ?_, hK, ?_⟩
    · show FX1_measure_L71 (qt + 1) (nI o) s = _
      unfold FX1_measure_L71 FX1_measure_b156
      rw [hK (qt + 1) (by omega), h1, if_pos (nI_le (by omega) (by omega))]
      rfl
    · have e : o = na := by omega
      rw [e] at hM
      exact hM
  | succ k ih =>
    intro o s ho hK hM
    obtain ⟨s1, e1, e2, e3⟩ := fm_2 hq h10 h1 (fw_aa (E := E) o o) (fw_99 o) (by omega : o < na) na 0 s (Nat.zero_add na) hK (fun x y hx hy => by rw [if_neg (by omega)]; exact hM x y hx hy)
    have st : FX1_measure_L71 (qt + 1) (nI o) s = some (.inl (nI (o + 1), s1)) := by
      unfold FX1_measure_L71
      rw [hK (qt + 1) (by omega), h1, if_neg (nI_ge (by omega) (by omega)), zlet_eq]
      exact e1
    obtain ⟨s', g1, g2, g3⟩ := ih (o + 1) s1 (by omega) e2 e3
    exact ⟨s', (zlp_step (f := fun q : Int32 × zS => FX1_measure_L71 (qt + 1) q.1 q.2) (a := (nI o, s)) st).trans g1, g2, g3⟩
theorem fMs {s : zS} {na : Nat} {J : Nat → Int32} (hq : qt = 46 ∨ qt = 64) (h10 : na ≤ 10) (h1 : s (qt + 1) 0 = nI na) (hJ : ∀ i, i < 10 → s (qt + 4) i = J i) : ∃ s', FX1_measure (qt + 1) s = some (0, s') ∧ mK s s' qt ∧ mM s' qt na (dst (fun x y => bt (J x) y) na) := by
  obtain ⟨s1, e1, e2, e3⟩ := fm_1 hq h10 h1 hJ na 0 s (Nat.zero_add na) (fun _ _ => rfl) (fun x y _ _ hx => by omega)
  obtain ⟨s', g1, g2, g3⟩ := fm_3 (E := fun x y => bt (J x) y) hq h10 h1 na 0 s1 (Nat.zero_add na) e2 e3
  refine ⟨s', ?_, g2, g3⟩
  unfold FX1_measure
  rw [zlet_eq]
  refine Eq.trans e1 ?_
  unfold FX1_measure_b69
  rw [zlet_eq]
  exact g1
end
