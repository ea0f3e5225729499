/-! glass -/
def gI (σ t : zS) (q na n nr m : Nat) (b2 b3 : Int32) : Prop := RQ σ t q na n nr ∧ TG σ t q na n ∧ σ 6 4 = nI m ∧ t 0 2 = 0 ∧ t 0 62 = 1 ∧ t 0 60 = b2 ∧ t 0 61 = b3 ∧ ∃ c, c ≤ 479520 ∧ b3 = nI c
theorem gI.x {σ σ' t : zS} {q na n nr m : Nat} {b2 b3 : Int32} (h : gI σ t q na n nr m b2 b3) (f : Fx σ σ') : gI σ' t q na n nr m b2 b3 := by
  obtain ⟨h1, ⟨c1, c2, T1, T2, T3, T4⟩, h3, h4⟩ := h
  have hq := h1.2.1.1
  exact ⟨h1.x f, ⟨by rw [c1]; exact (f 6 0 rfl).symm, by rw [c2]; exact (f 6 1 rfl).symm, by rw [T1]; exact (f 6 2 rfl).symm, by rw [T2]; exact (f 6 3 rfl).symm, fun a ha => by rw [T3 a ha]; exact (f _ _ (xsc_row (by omega) (by omega) (by omega) (by omega) (by omega) (by omega) (by omega) a)).symm, T4⟩, (f 6 4 rfl).trans h3, h4⟩
theorem gI.ask {σ t : zS} {q na n nr m a b : Nat} {b2 b3 v : Int32} (h : gI σ t q na n nr m b2 b3) (ha : a < na) (hb : b < 32) (hnb : bt (t 7 a) b = false) : ∃ c σ' t', c ≤ 479520 ∧ FX7_costMirrored 0 (nI a) (nI b) σ = some (nI c, σ') ∧ FX8_ask 0 v (zup t 7 a (t 7 a ||| sb b)) = some (0, t') ∧ gI σ' (zup t' 7 a (t' 7 a &&& (sb b ^^^ (-1)))) q na n nr m (if b3 ≤ nI c then b2 else v) (if b3 ≤ nI c then b3 else nI c) ∧ Fx σ σ' := by
  obtain ⟨h1, h2, h3, h4, z1, z2, z3, e, e1, e2⟩ := h
  obtain ⟨c, σ', t', c1, a1, a2, a3, a4, a5, a6, a9, a10⟩ := ask2 (v := v) h1 h2 ha hb hnb
  have o0 : ∀ j, zup t' 7 a (t' 7 a &&& (sb b ^^^ (-1))) 0 j = t' 0 j := fun j => by rw [zup_n (by decide)]
  refine ⟨c, σ', t', c1, a1, a2, ⟨a3, a4, (a5 6 4 rfl).trans h3, by rw [o0]; exact a6.trans h4, ?_⟩, a5⟩
  rw [o0, o0, o0]
  by_cases y : b3 ≤ nI c
  · have no : ¬ (t 0 62 = 0 ∨ nI c < t 0 61) := by
      rw [z1, z3]
      rintro (w | w)
      · exact absurd w (by decide)
      · rw [fa_lt] at w; rw [fa_le] at y; omega
    obtain ⟨y1, y2, y3⟩ := a10 no
    rw [if_pos y, if_pos y]
    exact ⟨y1.trans z1, y2.trans z2, y3.trans z3, e, e1, e2⟩
  · have w : nI c < t 0 61 := by rw [z3]; exact fa_of_nle y
    obtain ⟨y1, y2, y3⟩ := a9 (Or.inr w)
    rw [if_neg y, if_neg y]
    exact ⟨y1, y2, y3, c, c1, rfl⟩
/-- the reference's turn -/
theorem gl_t {σ t : zS} {q na n nr a b : Nat} {x1 : Int32} (h : RQ σ t q na n nr) (ha : a < na) (hb : b < na) : FX8_glass_L57 0 x1 (nI a) (nI b) t = if a = b then some (.inl (nI (b + 1), t)) else if bt (t 7 a) b = true then some (.inl (nI (b + 1), t)) else zbd (FX8_ask 0 (10 * nI a + nI b) (zup t 7 a (t 7 a ||| sb b))) (fun _ s => some (.inl (nI (b + 1), zup s 7 a (s 7 a &&& (sb b ^^^ (-1)))))) := by
  have h10 := h.2.2.1.1.1.1
  have e0 : t 3 0 = nI na := h.2.2.1.1.1.2.2
  have hb32 : b < 32 := by omega
  unfold FX8_glass_L57 FX8_glass_b124 FX8_glass_b130
  rw [show (0 + 3 : Nat) = 3 from rfl, show (0 + 7 : Nat) = 7 from rfl, show (0 : Int32).toNatClampNeg = 0 from rfl, e0, show ln 1 3 = 18 from rfl, show zin 18 0 _ = _ from zin_n (p := 0) _ (by decide : 0 < 18) (by decide), if_neg (nI_ge hb (by omega)), show ln 1 7 = 20 from rfl, nI_clamp (by omega : a < 2 ^ 31)]
  simp only [nI_eq (by omega : a < 2 ^ 31) (by omega : b < 2 ^ 31), zin_n _ (by omega : a < 20) (by decide : 20 < 2 ^ 31), fisOf _ hb32, zbd_s, zlet_eq, nI_1]
  by_cases c : a = b
  · rw [if_pos c, if_pos c]
  · rw [if_neg c, if_neg c]
    cases hbt : bt (t 7 a) b
    · rfl
    · rfl
/-- the class's turn -/
theorem gl_c {σ t : zS} {q na n nr a b : Nat} {x1 b2 b3 : Int32} (h : RQ σ t q na n nr) (ha : a < na) (hb : b < na) (h3 : ¬ b3 = 0) : FX7_glass_L70 0 x1 (nI a) b2 b3 (nI b) σ = if a = b then some (.inl (b2, b3, nI (b + 1), σ)) else if bt (t 7 a) b = true then some (.inl (b2, b3, nI (b + 1), σ)) else zbd (FX7_costMirrored 0 (nI a) (nI b) σ) (fun r s => if b3 ≤ r then some (.inl (b2, b3, nI (b + 1), s)) else some (.inl (10 * nI a + nI b, r, nI (b + 1), s))) := by
  have h10 := h.2.2.1.1.1.1
  obtain ⟨c1, c2, c3⟩ := h.2.2.1.c
  have hb32 : b < 32 := by omega
  have ha10 : a < 10 := by omega
  have w7 : σ 7 a = t 7 a := (h.2.2.2.1.1.2.2.2.2 a ha).1
  have kq := h.2.1.q
  have i1 : isn (nI a) na = true := (isn_t (by omega)).mpr ⟨a, ha, rfl⟩
  have i2 : isn (nI b) na = true := (isn_t (by omega)).mpr ⟨b, hb, rfl⟩
  have le : b3 ≤ b3 := by rw [fa_le]; omega
  unfold FX7_glass_L70 FX7_canHang FX7_canHang_b55 FX7_canHang_b56 FX7_glass_b112 FX7_glass_b132
  have hd := h.2.1.d (Or.inl rfl : 24 = 24 ∨ 24 = 35)
  simp only [kq.2, kd_q hd, zgd_t, zlet_eq, c1, if_neg (nI_ge hb (by omega : na < 2 ^ 31)), if_neg h3, fha c1, i1, i2, zbd_s, b01_eq0, Bool.true_eq_false, if_false, nI_eq (by omega : a < 2 ^ 31) (by omega : b < 2 ^ 31), Nat.zero_add, Nat.reduceAdd, fat', show ln 0 7 = 10 from rfl, rd_n ha10 (by decide : 10 < 2 ^ 31), fholds _ hb32, w7, zgd_00, zgd_11, nI_1]
  by_cases c : a = b
  · simp only [if_pos c, zbd_s, if_true, if_pos le]
  · simp only [if_neg c]
    cases hbt : bt (t 7 a) b
    · simp only [if_true, zbd_s, show ¬ (1 : Int32) = 0 from by decide, if_false, Bool.false_eq_true]
    · simp only [Bool.true_eq_false, if_false, zbd_s, if_true, if_pos le]
theorem fw7 {σ t : zS} {q na n nr a : Nat} (h : RQ σ t q na n nr) (ha : a < na) : σ 7 a = t 7 a := (h.2.2.2.1.1.2.2.2.2 a ha).1
/-- nothing better can come: only the reference goes on -/
theorem gl_0 {σ : zS} {q na n nr m a : Nat} {b2 x1 : Int32} (ha : a < na) : ∀ k b t, b + k = na → gI σ t q na n nr m b2 0 → ∃ t', zlp (fun w : Int32 × zS => FX8_glass_L57 0 x1 (nI a) w.1 w.2) (nI b, t) = some (.inl (nI (a + 1), t')) ∧ gI σ t' q na n nr m b2 0 := by
  intro k
  induction k with
  | zero =>
    intro b t hb h
    have h10 := h.1.2.2.1.1.1.1
    have e0 : t 3 0 = nI na := h.1.2.2.1.1.1.2.2
    refine ⟨t, zlp_end ?_, h⟩
    show FX8_glass_L57 0 x1 (nI a) (nI b) t = _
    unfold FX8_glass_L57 FX8_glass_b130
    rw [show (0 + 3 : Nat) = 3 from rfl, show (0 : Int32).toNatClampNeg = 0 from rfl, e0, show ln 1 3 = 18 from rfl, show zin 18 0 _ = _ from zin_n (p := 0) _ (by decide : 0 < 18) (by decide), if_pos (nI_le (by omega : na ≤ b) (by omega)), zlet_eq, nI_1]
    rfl
  | succ k ih =>
    intro b t hb h
    have h10 := h.1.2.2.1.1.1.1
    have st := gl_t (x1 := x1) h.1 ha (by omega : b < na)
    have hd : ∀ t2, gI σ t2 q na n nr m b2 0 → FX8_glass_L57 0 x1 (nI a) (nI b) t = some (.inl (nI (b + 1), t2)) → ∃ t', zlp (fun w : Int32 × zS => FX8_glass_L57 0 x1 (nI a) w.1 w.2) (nI b, t) = some (.inl (nI (a + 1), t')) ∧ gI σ t' q na n nr m b2 0 := by
      intro t2 h2 e
      obtain ⟨t', y1, y2⟩ := ih (b + 1) t2 (by omega) h2
      exact ⟨t', (zlp_step (a' := (nI (b + 1), t2)) e).trans y1, y2⟩
    by_cases c : a = b
    · rw [if_pos c] at st
      exact hd t h st
    rw [if_neg c] at st
    cases hbt : bt (t 7 a) b
    · rw [hbt, if_neg (show ¬ false = true from by decide)] at st
      obtain ⟨c0, σ', t', c1, -, a2, a3, a4⟩ := h.ask (v := 10 * nI a + nI b) ha (by omega : b < 32) hbt
      rw [a2, zbd_s] at st
      have le : (0 : Int32) ≤ nI c0 := nI_le (a := 0) (Nat.zero_le _) (by omega)
      rw [if_pos le, if_pos le] at a3
      exact hd _ (a3.x (fun k j hk => (a4 k j hk).symm)) st
    · rw [hbt, if_pos rfl] at st
      exact hd t h st
/-- a row -/
theorem gl_l {q na n nr m a : Nat} {x1 : Int32} (ha : a < na) : ∀ k b σ t b2 b3, b + k = na → gI σ t q na n nr m b2 b3 → ∃ σ' t' b2' b3', zlp (fun w : Int32 × Int32 × Int32 × zS => FX7_glass_L70 0 x1 (nI a) w.1 w.2.1 w.2.2.1 w.2.2.2) (b2, b3, nI b, σ) = some (.inl (b2', b3', nI (a + 1), σ')) ∧ zlp (fun w : Int32 × zS => FX8_glass_L57 0 x1 (nI a) w.1 w.2) (nI b, t) = some (.inl (nI (a + 1), t')) ∧ gI σ' t' q na n nr m b2' b3' := by
  intro k
  induction k with
  | zero =>
    intro b σ t b2 b3 hb h
    have h10 := h.1.2.2.1.1.1.1
    have e0 : t 3 0 = nI na := h.1.2.2.1.1.1.2.2
    obtain ⟨c1, -, -⟩ := h.1.2.2.1.c
    have kq := h.1.2.1.q
    refine ⟨σ, t, b2, b3, zlp_end ?_, zlp_end ?_, h⟩
    · show FX7_glass_L70 0 x1 (nI a) b2 b3 (nI b) σ = _
      unfold FX7_glass_L70 FX7_glass_b138
      rw [kq.1, kq.2, zgd_t, zlet_eq, c1, if_pos (nI_le (by omega : na ≤ b) (by omega)), zlet_eq, nI_1]
      rfl
    · show FX8_glass_L57 0 x1 (nI a) (nI b) t = _
      unfold FX8_glass_L57 FX8_glass_b130
      rw [show (0 + 3 : Nat) = 3 from rfl, show (0 : Int32).toNatClampNeg = 0 from rfl, e0, show ln 1 3 = 18 from rfl, show zin 18 0 _ = _ from zin_n (p := 0) _ (by decide : 0 < 18) (by decide), if_pos (nI_le (by omega : na ≤ b) (by omega)), zlet_eq, nI_1]
      rfl
  | succ k ih =>
    intro b σ t b2 b3 hb h
    have h10 := h.1.2.2.1.1.1.1
    by_cases e3 : b3 = 0
    · subst e3
      obtain ⟨t', y1, y2⟩ := gl_0 (x1 := x1) ha (k + 1) b t hb h
      obtain ⟨c1, -, -⟩ := h.1.2.2.1.c
      have kq := h.1.2.1.q
      refine ⟨σ, t', b2, 0, zlp_end ?_, y1, y2⟩
      show FX7_glass_L70 0 x1 (nI a) b2 0 (nI b) σ = _
      unfold FX7_glass_L70 FX7_glass_b138
      rw [kq.1, kq.2, zgd_t, zlet_eq, c1, if_neg (nI_ge (by omega : b < na) (by omega)), if_pos rfl, zlet_eq, nI_1]
      rfl
    have st := gl_t (x1 := x1) h.1 ha (by omega : b < na)
    have sc := gl_c (x1 := x1) (b2 := b2) h.1 ha (by omega : b < na) e3
    have hd : ∀ σ2 t2 c2 c3, gI σ2 t2 q na n nr m c2 c3 → FX7_glass_L70 0 x1 (nI a) b2 b3 (nI b) σ = some (.inl (c2, c3, nI (b + 1), σ2)) → FX8_glass_L57 0 x1 (nI a) (nI b) t = some (.inl (nI (b + 1), t2)) → ∃ σ' t' b2' b3', zlp (fun w : Int32 × Int32 × Int32 × zS => FX7_glass_L70 0 x1 (nI a) w.1 w.2.1 w.2.2.1 w.2.2.2) (b2, b3, nI b, σ) = some (.inl (b2', b3', nI (a + 1), σ')) ∧ zlp (fun w : Int32 × zS => FX8_glass_L57 0 x1 (nI a) w.1 w.2) (nI b, t) = some (.inl (nI (a + 1), t')) ∧ gI σ' t' q na n nr m b2' b3' := by
      intro σ2 t2 c2 c3 h2 e1 e2
      obtain ⟨σ', t', b2', b3', y1, y2, y3⟩ := ih (b + 1) σ2 t2 c2 c3 (by omega) h2
      exact ⟨σ', t', b2', b3', (zlp_step (a' := (c2, c3, nI (b + 1), σ2)) e1).trans y1, (zlp_step (a' := (nI (b + 1), t2)) e2).trans y2, y3⟩
    by_cases c : a = b
    · rw [if_pos c] at st sc
      exact hd σ t b2 b3 h sc st
    rw [if_neg c] at st sc
    cases hbt : bt (t 7 a) b
    · rw [hbt, if_neg (show ¬ false = true from by decide)] at st sc
      obtain ⟨c0, σ', t', c1, a1, a2, a3, a4⟩ := h.ask (v := 10 * nI a + nI b) ha (by omega : b < 32) hbt
      rw [a2, zbd_s] at st
      rw [a1, zbd_s] at sc
      by_cases y : b3 ≤ nI c0
      · rw [if_pos y] at sc
        rw [if_pos y, if_pos y] at a3
        exact hd _ _ _ _ a3 sc st
      · rw [if_neg y] at sc
        rw [if_neg y, if_neg y] at a3
        exact hd _ _ _ _ a3 sc st
    · rw [hbt, if_pos rfl] at st sc
      exact hd σ t b2 b3 h sc st
