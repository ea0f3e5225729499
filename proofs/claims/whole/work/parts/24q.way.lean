/-! the reference tells how far, by levels -/
section
variable {E : Nat → Nat → Bool} {na : Nat} {J : Nat → Int32}
/-- a level: known up to m, and those found for m + 1 -/
def lvl (E : Nat → Nat → Bool) (na a m : Nat) (q : Nat → Bool) (x : Nat) : Int32 := if dst E na a x ≤ m then nI (dst E na a x) else if q x = true then nI (m + 1) else -1
def tfK (t0 t : zS) (a : Nat) : Prop := (∀ k, k ≠ 18 → t k = t0 k) ∧ ∀ j, (j < 10 * a ∨ 10 * a + 10 ≤ j) → t 18 j = t0 18 j
theorem tfK.up {t0 t : zS} {a c : Nat} {x : Int32} (h : tfK t0 t a) (hc : c < 10) : tfK t0 (zup t 18 (10 * a + c) x) a := by
  refine ⟨fun k hk => (zup_n hk).trans (h.1 k hk), fun j hj => ?_⟩
  rw [zup_at, if_neg (by omega)]
  exact h.2 j hj
theorem idx10' {a b : Nat} : 10 * nI a + nI b = nI (10 * a + b) := by rw [show (10 : Int32) = nI 10 from rfl, pk_mul, nI_add]
theorem lv_m {a m x : Nat} {q : Nat → Bool} (hm : m ≤ 20) (h99 : dst E na a x ≤ 99) : lvl E na a m q x = nI m ↔ dst E na a x = m := by
  unfold lvl
  by_cases c : dst E na a x ≤ m
  · rw [if_pos c]; exact nI_eq (by omega) (by omega)
  · rw [if_neg c]
    constructor
    · intro z
      split at z
      · have := (nI_eq (by omega) (by omega)).mp z; omega
      · exact absurd z.symm (nI_m1 (by omega))
    · intro z; omega
/-- the innermost: from b on to c -/
theorem tf_c {t0 : zS} {a b m : Nat} (h10 : na ≤ 10) (h1 : t0 3 0 = nI na) (hJ : ∀ i, i < na → t0 6 i = J i) (hE : ∀ i j, E i j = bt (J i) j) (ha : a < na) (hb : b < na) (hm : m < na) (hbm : dst E na a b = m) : ∀ k c t q, c + k = na → tfK t0 t a → (∀ x, x < na → t 18 (10 * a + x) = lvl E na a m q x) → (∀ x, x < na → q x = true → dst E na a x = m + 1) → ∃ t' q', zlp (fun w : Int32 × zS => FX8_tellFar_L96 0 (nI a) (nI m) (nI b) w.1 w.2) (nI c, t) = some (.inl (nI (b + 1), t')) ∧ tfK t0 t' a ∧ (∀ x, x < na → t' 18 (10 * a + x) = lvl E na a m q' x) ∧ (∀ x, x < na → q' x = true → dst E na a x = m + 1) ∧ (∀ x, x < na → q x = true → q' x = true) ∧ ∀ x, c ≤ x → x < na → E b x = true → dst E na a x = m + 1 → q' x = true := by
  have z3 : ∀ (β : Type) (r : Option β), zin (ln 1 (0 + 3)) 0 r = r := fun β r => zin_n (p := 0) r (by decide : 0 < 18) (by decide)
  intro k
  induction k with
  | zero =>
    intro c t q hc hK hM hq
    refine ⟨t, q, zlp_end ?_, hK, hM, hq, fun _ _ z => z, fun x h1 h2 => by omega⟩
    show FX8_tellFar_L96 0 (nI a) (nI m) (nI b) (nI c) t = _
    unfold FX8_tellFar_L96 FX8_tellFar_b159
    rw [z3, show (0 + 3 : Nat) = 3 from rfl, show (0 : Int32).toNatClampNeg = 0 from rfl, hK.1 3 (by decide), h1, if_pos (nI_le (by omega) (by omega)), zlet_eq, nI_1]
    rfl
  | succ k ih =>
    intro c t q hc hK hM hq
    have hcn : c < na := by omega
    have h99 : dst E na a c ≤ 99 := fw_99 na a c
    have b6 : t 6 b = J b := by rw [hK.1 6 (by decide)]; exact hJ b hb
    have st : FX8_tellFar_L96 0 (nI a) (nI m) (nI b) (nI c) t = if lvl E na a m q c = -1 ∧ E b c = true then some (.inl (nI (c + 1), zup t 18 (10 * a + c) (nI (m + 1)))) else some (.inl (nI (c + 1), t)) := by
      unfold FX8_tellFar_L96 FX8_tellFar_b153
      rw [z3, show (0 + 3 : Nat) = 3 from rfl, show (0 : Int32).toNatClampNeg = 0 from rfl, hK.1 3 (by decide), h1, if_neg (nI_ge hcn (by omega)), idx10', show (0 + 18 : Nat) = 18 from rfl, show (0 + 6 : Nat) = 6 from rfl, show ln 1 18 = 100 from rfl, show ln 1 6 = 20 from rfl, zin_n _ (by omega : 10 * a + c < 100) (by decide), nI_clamp (by omega : 10 * a + c < 2 ^ 31), hM c hcn, zin_n _ (by omega : b < 20) (by decide), zin_n _ (by omega : 10 * a + c < 100) (by decide), zlet_eq, zlet_eq, zlet_eq, nI_clamp (by omega : b < 2 ^ 31), b6, nI_1, nI_1]
      by_cases c1 : lvl E na a m q c = -1
      · rw [if_pos c1]
        by_cases c2 : E b c = true
        · rw [if_pos ((bt_1 (by omega : c < 32)).mpr (by rw [← hE]; exact c2)), if_pos ⟨c1, c2⟩]
        · rw [if_neg (fun z => c2 (by rw [hE]; exact (bt_1 (by omega : c < 32)).mp z)), if_neg (fun z => c2 z.2)]
      · rw [if_neg c1, if_neg (fun z => c1 z.1)]
    by_cases cc : lvl E na a m q c = -1 ∧ E b c = true
    · rw [if_pos cc] at st
      have d1 : dst E na a c = m + 1 := by
        have h1 := dst_e (a := a) hb cc.2
        have h2 := cc.1
        unfold lvl at h2
        by_cases e : dst E na a c ≤ m
        · rw [if_pos e] at h2; exact absurd h2 (nI_m1 (by omega))
        · omega
      obtain ⟨t', q', e1, e2, e3, e4, e5, e6⟩ := ih (c + 1) _ (fun x => if x = c then true else q x) (by omega) (hK.up (c := c) (x := nI (m + 1)) (by omega)) (fun x hx => by
        by_cases e : x = c
        · subst e
          rw [zup_at, if_pos ⟨rfl, rfl⟩]
          unfold lvl
          rw [if_neg (by omega), if_pos (if_pos rfl)]
        · rw [zup_at, if_neg (by omega), hM x hx]
          unfold lvl
          simp only [e, if_false]) (fun x hx hqx => by
        by_cases e : x = c
        · rw [e]; exact d1
        · simp only [e, if_false] at hqx; exact hq x hx hqx)
      refine ⟨t', q', (zlp_step (f := fun w : Int32 × zS => FX8_tellFar_L96 0 (nI a) (nI m) (nI b) w.1 w.2) (a := (nI c, t)) st).trans e1, e2, e3, e4, fun x hx hqx => e5 x hx (by
        by_cases e : x = c
        · simp [e]
        · simp only [e, if_false]; exact hqx), fun x hx hxn hEx hdx => ?_⟩
      by_cases e : x = c
      · exact e5 x hxn (by simp [e])
      · exact e6 x (by omega) hxn hEx hdx
    · rw [if_neg cc] at st
      obtain ⟨t', q', e1, e2, e3, e4, e5, e6⟩ := ih (c + 1) t q (by omega) hK hM hq
      refine ⟨t', q', (zlp_step (f := fun w : Int32 × zS => FX8_tellFar_L96 0 (nI a) (nI m) (nI b) w.1 w.2) (a := (nI c, t)) st).trans e1, e2, e3, e4, e5, fun x hx hxn hEx hdx => ?_⟩
      by_cases e : x = c
      · subst e
        refine e5 x hxn ?_
        by_cases qx : q x = true
        · exact qx
        · exfalso
          refine cc ⟨?_, hEx⟩
          unfold lvl
          rw [if_neg (by omega), if_neg qx]
      · exact e6 x (by omega) hxn hEx hdx
/-- a level -/
theorem tf_b {t0 : zS} {a m : Nat} (h10 : na ≤ 10) (h1 : t0 3 0 = nI na) (hJ : ∀ i, i < na → t0 6 i = J i) (hE : ∀ i j, E i j = bt (J i) j) (ha : a < na) (hm : m < na) : ∀ k b t q, b + k = na → tfK t0 t a → (∀ x, x < na → t 18 (10 * a + x) = lvl E na a m q x) → (∀ x, x < na → q x = true → dst E na a x = m + 1) → (∀ y, y < b → dst E na a y = m → ∀ x, x < na → E y x = true → dst E na a x = m + 1 → q x = true) → ∃ t', zlp (fun w : Int32 × zS => FX8_tellFar_L65 0 (nI a) (nI m) w.1 w.2) (nI b, t) = some (.inl (nI (m + 1), t')) ∧ tfK t0 t' a ∧ ∀ x, x < na → t' 18 (10 * a + x) = lvl E na a (m + 1) (fun _ => false) x := by
  have z3 : ∀ (β : Type) (r : Option β), zin (ln 1 (0 + 3)) 0 r = r := fun β r => zin_n (p := 0) r (by decide : 0 < 18) (by decide)
  intro k
  induction k with
  | zero =>
    intro b t q hb hK hM hq hall
    refine ⟨t, zlp_end ?_, hK, fun x hx => ?_⟩
    · show FX8_tellFar_L65 0 (nI a) (nI m) (nI b) t = _
      unfold FX8_tellFar_L65 FX8_tellFar_b165
      rw [z3, show (0 + 3 : Nat) = 3 from rfl, show (0 : Int32).toNatClampNeg = 0 from rfl, hK.1 3 (by decide), h1, if_pos (nI_le (by omega) (by omega)), zlet_eq, nI_1]
      rfl
    · rw [hM x hx]
      unfold lvl
      by_cases c : dst E na a x ≤ m
      · rw [if_pos c, if_pos (by omega)]
      · rw [if_neg c]
        by_cases c2 : dst E na a x ≤ m + 1
        · have d1 : dst E na a x = m + 1 := by omega
          obtain ⟨y, y1, y2, y3⟩ := dst_p ha hx d1 (by omega)
          rw [if_pos c2, if_pos (hall y (by omega) y2 x hx y3 d1), d1]
        · rw [if_neg c2, if_neg (fun z => c2 (by rw [hq x hx z]; exact Nat.le_refl _)), if_neg (by simp)]
  | succ k ih =>
    intro b t q hb hK hM hq hall
    have hbn : b < na := by omega
    have st : FX8_tellFar_L65 0 (nI a) (nI m) (nI b) t = if dst E na a b = m then zlp (fun w : Int32 × zS => FX8_tellFar_L96 0 (nI a) (nI m) (nI b) w.1 w.2) (nI 0, t) else some (.inl (nI (b + 1), t)) := by
      unfold FX8_tellFar_L65 FX8_tellFar_b159
      rw [z3, show (0 + 3 : Nat) = 3 from rfl, show (0 : Int32).toNatClampNeg = 0 from rfl, hK.1 3 (by decide), h1, if_neg (nI_ge hbn (by omega)), idx10', show (0 + 18 : Nat) = 18 from rfl, show ln 1 18 = 100 from rfl, zin_n _ (by omega : 10 * a + b < 100) (by decide), nI_clamp (by omega : 10 * a + b < 2 ^ 31), hM b hbn, zlet_eq, zlet_eq, nI_1]
      by_cases c : dst E na a b = m
      · rw [if_pos c, if_pos ((lv_m (by omega) (fw_99 na a b)).mpr c)]
        rfl
      · rw [if_neg c, if_neg (fun z => c ((lv_m (by omega) (fw_99 na a b)).mp z))]
    by_cases c : dst E na a b = m
    · obtain ⟨t1, q1, e1, e2, e3, e4, e5, e6⟩ := tf_c h10 h1 hJ hE ha hbn hm c na 0 t q (Nat.zero_add na) hK hM hq
      rw [if_pos c, e1] at st
      obtain ⟨t', g1, g2, g3⟩ := ih (b + 1) t1 q1 (by omega) e2 e3 e4 (fun y hy hym x hx hEx hdx => by
        by_cases e : y = b
        · subst e; exact e6 x (Nat.zero_le x) hx hEx hdx
        · exact e5 x hx (hall y (by omega) hym x hx hEx hdx))
      exact ⟨t', (zlp_step (f := fun w : Int32 × zS => FX8_tellFar_L65 0 (nI a) (nI m) w.1 w.2) (a := (nI b, t)) st).trans g1, g2, g3⟩
    · rw [if_neg c] at st
      obtain ⟨t', g1, g2, g3⟩ := ih (b + 1) t q (by omega) hK hM hq (fun y hy hym x hx hEx hdx => by
        by_cases e : y = b
        · subst e; exact absurd hym c
        · exact hall y (by omega) hym x hx hEx hdx)
      exact ⟨t', (zlp_step (f := fun w : Int32 × zS => FX8_tellFar_L65 0 (nI a) (nI m) w.1 w.2) (a := (nI b, t)) st).trans g1, g2, g3⟩
/-- all levels -/
theorem tf_m {t0 : zS} {a : Nat} (h10 : na ≤ 10) (h1 : t0 3 0 = nI na) (hJ : ∀ i, i < na → t0 6 i = J i) (hE : ∀ i j, E i j = bt (J i) j) (ha : a < na) : ∀ k m t, m + k = na → tfK t0 t a → (∀ x, x < na → t 18 (10 * a + x) = lvl E na a m (fun _ => false) x) → ∃ t', zlp (fun w : Int32 × zS => FX8_tellFar_L53 0 (nI a) w.1 w.2) (nI m, t) = some (.inl (nI (a + 1), t')) ∧ tfK t0 t' a ∧ ∀ x, x < na → t' 18 (10 * a + x) = if dst E na a x = 99 then -1 else nI (dst E na a x) := by
  have z3 : ∀ (β : Type) (r : Option β), zin (ln 1 (0 + 3)) 0 r = r := fun β r => zin_n (p := 0) r (by decide : 0 < 18) (by decide)
  intro k
  induction k with
  | zero =>
    intro m t hm hK hM
    refine ⟨t, zlp_end ?_, hK, fun x hx => ?_⟩
    · show FX8_tellFar_L53 0 (nI a) (nI m) t = _
      unfold FX8_tellFar_L53 FX8_tellFar_b171
      rw [z3, show (0 + 3 : Nat) = 3 from rfl, show (0 : Int32).toNatClampNeg = 0 from rfl, hK.1 3 (by decide), h1, if_pos (nI_le (by omega) (by omega)), zlet_eq, nI_1]
      rfl
    · rw [hM x hx]
      unfold lvl
      rcases dst_9 (E := E) ha hx with c | c
      · rw [if_pos (by omega), if_neg (by omega)]
      · rw [if_neg (by omega), if_pos c, if_neg (by simp)]
  | succ k ih =>
    intro m t hm hK hM
    obtain ⟨t1, e1, e2, e3⟩ := tf_b h10 h1 hJ hE ha (by omega : m < na) na 0 t (fun _ => false) (Nat.zero_add na) hK hM (fun x _ z => by cases z) (fun y hy => by omega)
    have st : FX8_tellFar_L53 0 (nI a) (nI m) t = some (.inl (nI (m + 1), t1)) := by
      unfold FX8_tellFar_L53
      rw [z3, show (0 + 3 : Nat) = 3 from rfl, show (0 : Int32).toNatClampNeg = 0 from rfl, hK.1 3 (by decide), h1, if_neg (nI_ge (by omega) (by omega)), zlet_eq]
      exact e1
    obtain ⟨t', g1, g2, g3⟩ := ih (m + 1) t1 (by omega) e2 e3
    exact ⟨t', (zlp_step (f := fun w : Int32 × zS => FX8_tellFar_L53 0 (nI a) w.1 w.2) (a := (nI m, t)) st).trans g1, g2, g3⟩
/-- a row: nothing known but itself -/
theorem tf_0 {t0 : zS} {a : Nat} (h10 : na ≤ 10) (h1 : t0 3 0 = nI na) (ha : a < na) : ∀ k b t, b + k = na → tfK t0 t a → (∀ x, x < b → t 18 (10 * a + x) = if a = x then 0 else -1) → ∃ t', zlp (fun w : Int32 × zS => FX8_tellFar_L14 0 (nI a) w.1 w.2) (nI b, t) = FX8_tellFar_b51 0 (nI a) t' ∧ tfK t0 t' a ∧ ∀ x, x < na → t' 18 (10 * a + x) = if a = x then 0 else -1 := by
  have z3 : ∀ (β : Type) (r : Option β), zin (ln 1 (0 + 3)) 0 r = r := fun β r => zin_n (p := 0) r (by decide : 0 < 18) (by decide)
  intro k
  induction k with
  | zero =>
    intro b t hb hK hM
    refine ⟨t, zlp_exit ?_, hK, fun x hx => hM x (by omega)⟩
    show FX8_tellFar_L14 0 (nI a) (nI b) t = _
    unfold FX8_tellFar_L14
    rw [z3, show (0 + 3 : Nat) = 3 from rfl, show (0 : Int32).toNatClampNeg = 0 from rfl, hK.1 3 (by decide), h1, if_pos (nI_le (by omega) (by omega))]
  | succ k ih =>
    intro b t hb hK hM
    have st : FX8_tellFar_L14 0 (nI a) (nI b) t = some (.inl (nI (b + 1), zup t 18 (10 * a + b) (if a = b then 0 else -1))) := by
      unfold FX8_tellFar_L14 FX8_tellFar_b44
      rw [z3, show (0 + 3 : Nat) = 3 from rfl, show (0 : Int32).toNatClampNeg = 0 from rfl, hK.1 3 (by decide), h1, if_neg (nI_ge (by omega) (by omega)), idx10', show (0 + 18 : Nat) = 18 from rfl, show ln 1 18 = 100 from rfl, zin_n _ (by omega : 10 * a + b < 100) (by decide), zin_n _ (by omega : 10 * a + b < 100) (by decide), nI_clamp (by omega : 10 * a + b < 2 ^ 31), zlet_eq, zlet_eq, zlet_eq, zlet_eq, nI_1]
      by_cases c : a = b
      · rw [if_pos c, if_pos (by rw [c])]
      · rw [if_neg c, if_neg (fun z => c ((nI_eq (by omega) (by omega)).mp z))]
    obtain ⟨t', g1, g2, g3⟩ := ih (b + 1) _ (by omega) (hK.up (c := b) (x := if a = b then 0 else -1) (by omega)) (fun x hx => by
      by_cases e : x = b
      · subst e; rw [zup_at, if_pos ⟨rfl, rfl⟩]
      · rw [zup_at, if_neg (by omega)]; exact hM x (by omega))
    exact ⟨t', (zlp_step (f := fun w : Int32 × zS => FX8_tellFar_L14 0 (nI a) w.1 w.2) (a := (nI b, t)) st).trans g1, g2, g3⟩
theorem gTF {t : zS} (h10 : na ≤ 10) (h1 : t 3 0 = nI na) (hJ : ∀ i, i < na → t 6 i = J i) (hE : ∀ i j, E i j = bt (J i) j) : ∃ t', FX8_tellFar 0 t = some (0, t') ∧ (∀ k, k ≠ 18 → t' k = t k) ∧ ∀ a b, a < na → b < na → t' 18 (10 * a + b) = if dst E na a b = 99 then -1 else nI (dst E na a b) := by
  have z3 : ∀ (β : Type) (r : Option β), zin (ln 1 (0 + 3)) 0 r = r := fun β r => zin_n (p := 0) r (by decide : 0 < 18) (by decide)
  have key : ∀ k a u, a + k = na → (∀ k, k ≠ 18 → u k = t k) → (∀ x y, x < a → y < na → u 18 (10 * x + y) = if dst E na x y = 99 then -1 else nI (dst E na x y)) → ∃ t', zlp (fun w : Int32 × zS => FX8_tellFar_L2 0 w.1 w.2) (nI a, u) = some (0, t') ∧ (∀ k, k ≠ 18 → t' k = t k) ∧ ∀ a b, a < na → b < na → t' 18 (10 * a + b) = if dst E na a b = 99 then -1 else nI (dst E na a b) := by
    intro k
    induction k with
    | zero =>
      intro a u ha hK hM
      refine ⟨u, zlp_end ?_, hK, fun x y hx hy => hM x y (by omega) hy⟩
      show FX8_tellFar_L2 0 (nI a) u = _
      unfold FX8_tellFar_L2 FX8_tellFar_b177
      rw [z3, show (0 + 3 : Nat) = 3 from rfl, show (0 : Int32).toNatClampNeg = 0 from rfl, hK 3 (by decide), h1, if_pos (nI_le (by omega) (by omega))]
      rfl
    | succ k ih =>
      intro a u ha hK hM
      have u1 : u 3 0 = nI na := by rw [hK 3 (by decide)]; exact h1
      have uJ : ∀ i, i < na → u 6 i = J i := fun i hi => by rw [hK 6 (by decide)]; exact hJ i hi
      obtain ⟨t1, e1, e2, e3⟩ := tf_0 h10 u1 (by omega : a < na) na 0 u (Nat.zero_add na) ⟨fun _ _ => rfl, fun _ _ => rfl⟩ (fun x hx => by omega)
      obtain ⟨t2, g1, g2, g3⟩ := tf_m (E := E) h10 u1 uJ hE (by omega : a < na) na 0 t1 (Nat.zero_add na) e2 (fun x hx => by
        rw [e3 x hx]
        unfold lvl
        by_cases c : a = x
        · subst c
          rw [if_pos rfl, dst_aa, if_pos (Nat.le_refl 0)]
          rfl
        · have : ¬ dst E na a x ≤ 0 := fun z => by
            have w := fw_w (E := E) na (Nat.le_refl na) a x (by omega) hx (by show dst E na a x < 99; omega)
            rw [show fw E na a x = 0 from by show dst E na a x = 0; omega] at w
            exact c w
          rw [if_neg c, if_neg this, if_neg (by simp)])
      have st : FX8_tellFar_L2 0 (nI a) u = some (.inl (nI (a + 1), t2)) := by
        unfold FX8_tellFar_L2
        rw [z3, show (0 + 3 : Nat) = 3 from rfl, show (0 : Int32).toNatClampNeg = 0 from rfl, u1, if_neg (nI_ge (by omega) (by omega)), zlet_eq, show zlp (fun w : Int32 × zS => FX8_tellFar_L14 0 (nI a) w.1 w.2) (0, u) = _ from e1]
        unfold FX8_tellFar_b51
        rw [zlet_eq]
        exact g1
      obtain ⟨t', y1, y2, y3⟩ := ih (a + 1) t2 (by omega) (fun k hk => (g2.1 k hk).trans (hK k hk)) (fun x y hx hy => by
        by_cases e : x = a
        · subst e; exact g3 y hy
        · rw [g2.2 _ (by omega)]; exact hM x y (by omega) hy)
      exact ⟨t', (zlp_step (f := fun w : Int32 × zS => FX8_tellFar_L2 0 w.1 w.2) (a := (nI a, u)) st).trans y1, y2, y3⟩
  unfold FX8_tellFar
  rw [zlet_eq]
  exact key na 0 t (Nat.zero_add na) (fun _ _ => rfl) (fun x y hx => by omega)
end
