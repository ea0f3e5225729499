/-! lay: what an order costs -/
/-- a day with its WORTHS laid by an order -/
def dC (σ S : zS) (na : Nat) (π : Nat → Nat) : zS := fun i j => if i = 0 then (if j = 1 then σ 6 0 else if j = 2 then σ 6 1 else if j = 3 then σ 6 2 else if j = 4 then σ 6 3 else 0) else if i = 1 then (if j < na then S 2 (π j) else 0) else if i = 2 then σ 7 j else if i = 3 then σ 8 j else 0
def cL (σ S : zS) (na n : Nat) (π : Nat → Nat) : Nat := (mRu S na n (dC σ S na π) 8 0).toNatClampNeg
/-- the reference is told of it -/
def LT (σ S t : zS) (na n : Nat) : Prop := t 0 46 = σ 6 0 ∧ t 0 47 = σ 6 1 ∧ t 0 48 = σ 6 2 ∧ t 0 49 = σ 6 3 ∧ ∀ p, p < n → bt (t 0 50) p = true
def L22 (S t : zS) (a : Nat) (π : Nat → Nat) : Prop := ∀ i, i < a → t 22 i = S 2 (π i)
theorem rB_dC {σ S t : zS} {na n nr : Nat} {π : Nat → Nat} (hT : LT σ S t na n) (h22 : L22 S t na π) (h7 : ∀ a, a < na → σ 7 a = t 7 a) (h8 : ∀ a, a < na → t 23 a = σ 8 a ∧ ∃ s, s ≤ 99 ∧ σ 8 a = nI s) (hc : cfv na n nr (σ 6 0) (σ 6 1)) : rB t na n nr 99 (dC σ S na π) := by
  obtain ⟨t1, t2, t3, t4, t5⟩ := hT
  refine ⟨⟨t1, t2, t3, t4, fun a ha => ⟨?_, (h7 a ha).symm⟩, fun p hp => ?_⟩, fun a ha => h8 a ha, hc⟩
  · show t 22 a = if a < na then S 2 (π a) else 0
    rw [if_pos ha]; exact h22 a ha
  · rw [t5 p hp]
    show true = !bt 0 p
    rw [b_0]; rfl
/-- the same day costs the same, told either way -/
theorem cs_eq {τ S d d' : zS} {na n nr : Nat} (hS : rSh τ S na n nr) (h1 : rB τ na n nr 99 d) (h2 : rB τ na n nr 99 d') : mRu S na n d 8 0 = mRu S na n d' 8 0 := by
  obtain ⟨t1, a1, -⟩ := gCo hS.1 hS.2.1 h1 (by decide)
  obtain ⟨t2, b1, -⟩ := gCo hS.1 hS.2.1 h2 (by decide)
  rw [a1] at b1
  exact congrArg Prod.fst (Option.some.inj b1)
/-- only what lay works with has changed in the class -/
def FL (σ σ' : zS) : Prop := ∀ k j, xsc k j = false → k ≠ 2 → σ' k j = σ k j
theorem FL.tr {a b c : zS} (h : FL a b) (h2 : FL b c) : FL a c := fun k j hk h3 => (h2 k j hk h3).trans (h k j hk h3)
theorem Fx.l {a b : zS} (h : Fx a b) : FL a b := fun k j hk _ => h k j hk
theorem only1.l {a b : zS} (h : only1 a b) : FL a b := fun k j hk _ => by rw [h k (fun z => by subst z; cases hk)]
theorem FL.r {a b : zS} (h : FL a b) (k : Nat) (hk : ∀ j, xsc k j = false) (h2 : k ≠ 2) : b k = a k := funext fun j => h k j (hk j) h2
theorem FL.sh {σ σ' : zS} {q : Nat} (h : FL σ σ') (hq : q = 46 ∨ q = 64) : ss q σ' = ss q σ := by
  funext i j
  unfold ss
  split
  · rfl
  · next c =>
    refine h _ _ ?_ (by omega)
    unfold xsc
    simp
    omega
section
variable {σ t : zS} {q na n nr : Nat}
theorem fcL (h : RQ σ t q na n nr) (h5 : na ≤ 5) {σ' : zS} (hF : FL σ σ') {π : Nat → Nat} (hπ : ∀ j, j < na → π j < na) (hr : rowG σ' na π) : ∃ σ'', FX7_costLaid 0 (nI na) σ' = some (nI (cL σ (ss q σ) na n π), σ'') ∧ Fx σ' σ'' ∧ σ'' 1 = σ' 1 ∧ cL σ (ss q σ) na n π ≤ 479520 := by
  obtain ⟨hq, p1, -⟩ := id h.2.1
  have hd : dH 35 q := ⟨Or.inr rfl, hq⟩
  obtain ⟨⟨w1, w2, w3, -, w5⟩, -⟩ := h.2.2.2.1
  have e6 : σ' 6 = σ 6 := hF.r 6 (fun j => xsc_row (by decide) (by decide) (by decide) (by decide) (by decide) (by decide) (by decide) j) (by decide)
  have e7 : σ' 7 = σ 7 := hF.r 7 (fun j => xsc_row (by decide) (by decide) (by decide) (by decide) (by decide) (by decide) (by decide) j) (by decide)
  have e8 : σ' 8 = σ 8 := hF.r 8 (fun j => xsc_row (by decide) (by decide) (by decide) (by decide) (by decide) (by decide) (by decide) j) (by decide)
  have e0 : σ' 0 = σ 0 := hF.r 0 (fun j => xsc_row (by decide) (by decide) (by decide) (by decide) (by decide) (by decide) (by decide) j) (by decide)
  have eS : ss q σ' = ss q σ := hF.sh hq
  obtain ⟨c1, -, -⟩ := h.2.2.1.c
  have eq1 : ∀ (d : zS), dE 35 q σ' d q = σ' q := fun d => by rw [dE_q0 hd, ss_i (by decide) (by decide)]; rfl
  have eq1' : ∀ (d : zS), dE 35 q σ' d 0 = σ' 0 := fun d => by funext j; unfold dE; rw [if_neg (by omega), if_neg (by omega), if_neg (by omega), if_neg (by omega)]
  have eq11 : ∀ (d : zS), dE 35 q σ' d 1 = σ' 1 := fun d => by funext j; unfold dE; rw [if_neg (by omega), if_neg (by omega), if_neg (by omega), if_neg (by omega)]
  -- its WORTHS
  have lp : ∀ k i d, i + k = na → (∀ x, x ≠ 1 → d x = mPr 35 q σ' x) → (∀ j, j < i → d 1 j = ss q σ 2 (π j)) → ∃ d', zlp (fun w : Int32 × zS => FX7_costLaid_L17 0 (nI na) w.1 w.2) (nI i, dE 35 q σ' d) = FX7_costLaid_b60 0 (dE 35 q σ' d') ∧ (∀ x, x ≠ 1 → d' x = mPr 35 q σ' x) ∧ ∀ j, j < na → d' 1 j = ss q σ 2 (π j) := by
    intro k
    induction k with
    | zero =>
      intro i d hi h1 h2
      refine ⟨d, zlp_exit ?_, h1, fun j hj => h2 j (by omega)⟩
      show FX7_costLaid_L17 0 (nI na) (nI i) (dE 35 q σ' d) = _
      unfold FX7_costLaid_L17
      rw [if_pos (nI_le (by omega) (by omega))]
    | succ k ih =>
      intro i d hi h1 h2
      have hi2 : i < na := by omega
      have st : FX7_costLaid_L17 0 (nI na) (nI i) (dE 35 q σ' d) = some (.inl (nI (i + 1), dE 35 q σ' (zup d 1 i (ss q σ 2 (π i))))) := by
        unfold FX7_costLaid_L17
        have hp := hπ i hi2
        rw [if_neg (nI_ge hi2 (by omega)), eq1', e0, p1, nI_clamp (by omega : q < 2 ^ 31), kd_q hd, zgd_t, zlet_eq, show (0 + 1 : Nat) = 1 from rfl, fat', show ln 0 1 = 5 from rfl, rd_n (by omega : i < 5) (by decide), zbd_s, eq11, hr i hi2, show q + 1 + 1 = q + 2 from rfl, qa_2 hd, rd_n (by omega : π i < 10) (by decide), zbd_s, show (0 + 35 + 1 : Nat) = 35 + 1 from rfl, dp_1 hd, pt_n (by omega : i < 10) (by decide), zbd_s, zlet_eq, nI_1, eS]
      obtain ⟨d', g1, g2, g3⟩ := ih (i + 1) (zup d 1 i (ss q σ 2 (π i))) (by omega) (fun x hx => (zup_n hx).trans (h1 x hx)) (fun j hj => by
        rw [zup_at]
        by_cases c : j = i
        · rw [if_pos ⟨rfl, c⟩, c]
        · rw [if_neg (fun z => c z.2)]; exact h2 j (by omega))
      exact ⟨d', (zlp_step (f := fun w : Int32 × zS => FX7_costLaid_L17 0 (nI na) w.1 w.2) (a := (nI i, dE 35 q σ' d)) st).trans g1, g2, g3⟩
  obtain ⟨d', g1, g2, g3⟩ := lp na 0 (mPr 35 q σ') (Nat.zero_add na) (fun _ _ => rfl) (fun j hj => by omega)
  -- the day is told
  have d0 : ∀ j, d' 0 j = mPr 35 q σ' 0 j := fun j => by rw [g2 0 (by decide)]
  have dr : ∀ a, a < 10 → d' 2 a = σ 7 a ∧ d' 3 a = σ 8 a := fun a ha => by
    obtain ⟨m1, m2, m3⟩ := mPr_r (k0 := 35) (q := q) (σ := σ') a ha
    exact ⟨by rw [g2 2 (by decide), m2, e7], by rw [g2 3 (by decide), m3, e8]⟩
  obtain ⟨u, u1, u2, u3⟩ := gRdy h (Or.inr rfl : 35 = 24 ∨ 35 = 35)
  obtain ⟨⟨x1, x2, x3, x4, x5, x6⟩, x7, x8⟩ := u3
  have h10 := h.2.2.1.1.1.1
  have m0 := mPr_0 (k0 := 35) (q := q) (σ := σ)
  have m0' := mPr_0 (k0 := 35) (q := q) (σ := σ')
  have hLT : LT σ (ss q σ) (zrow u 22 (fun i => ss q σ 2 (π i))) na n := by
    have hz : ∀ j, zrow u 22 (fun i => ss q σ 2 (π i)) 0 j = u 0 j := fun j => by rw [zrow_n (by decide)]
    refine ⟨?_, ?_, ?_, ?_, fun p hp => ?_⟩
    · rw [hz, x1, m0]; rfl
    · rw [hz, x2, m0]; rfl
    · rw [hz, x3, m0]; rfl
    · rw [hz, x4, m0]; rfl
    · rw [hz, x6 p hp, m0]
      simp [b_0]
  have h22 : L22 (ss q σ) (zrow u 22 (fun i => ss q σ 2 (π i))) na π := fun i _ => by rw [zrow_s]
  have hS : rSh (zrow u 22 (fun i => ss q σ 2 (π i))) (ss q σ) na n nr := h.2.2.1.fr (fun k j hk => by
    rw [zrow_n (fun z => by subst z; cases hk)]; exact u2 k j hk)
  have hB1 : rB (zrow u 22 (fun i => ss q σ 2 (π i))) na n nr 99 (dC σ (ss q σ) na π) := rB_dC hLT h22 (fun a ha => by rw [zrow_n (by decide), u2 7 a rfl]; exact (w5 a ha).1) (fun a ha => by
      obtain ⟨z1, z2⟩ := x7 a ha
      have := (mPr_r (k0 := 35) (q := q) (σ := σ) a (by omega)).2.2
      obtain ⟨-, -, s, v3, v4⟩ := w5 a ha
      refine ⟨by rw [zrow_n (by decide), z1, this], s, v3, ?_⟩
      obtain ⟨-, v2, -⟩ := w5 a ha
      exact v4) w2
  have hB2 : rB (zrow u 22 (fun i => ss q σ 2 (π i))) na n nr 99 d' := by
    obtain ⟨⟨y1, y2, y3, y4, y5, y6⟩, y7, y8⟩ := hB1
    refine ⟨⟨?_, ?_, ?_, ?_, fun a ha => ⟨?_, ?_⟩, fun p hp => ?_⟩, fun a ha => ?_, ?_⟩
    · rw [y1, d0, m0', e6]; rfl
    · rw [y2, d0, m0', e6]; rfl
    · rw [y3, d0, m0', e6]; rfl
    · rw [y4, d0, m0', e6]; rfl
    · rw [zrow_s, g3 a ha]
    · rw [(y5 a ha).2, (dr a (by omega)).1]; rfl
    · rw [y6 p hp, d0, m0']; rfl
    · rw [(y7 a ha).1, (dr a (by omega)).2]
      exact ⟨rfl, (y7 a ha).2⟩
    · unfold cf0
      rw [d0, d0, m0', m0', e6]
      exact w2
  have ce := cs_eq hS hB2 hB1
  obtain ⟨-, c, k1, k2⟩ := cs_run hS hB1 (by decide) (fun a ha => by
    obtain ⟨w, v1, v2⟩ := h.2.2.1.2.2.2 (π a) (hπ a ha)
    refine ⟨w, v1, ?_⟩
    show (if a < na then ss q σ 2 (π a) else 0) = nI w
    rw [if_pos ha]; exact v2)
  have cc : cL σ (ss q σ) na n π = c := by unfold cL; rw [k2, nI_clamp (by omega)]
  have hSx : rSh (zrow u 22 (fun i => ss q σ 2 (π i))) (ss q σ') na n nr := by rw [eS]; exact hS
  obtain ⟨r1, -⟩ := gRun hd hSx hB2 (by decide)
  rw [eS, ce, k2] at r1
  refine ⟨dE 35 q σ' (mRu (ss q σ) na n d'), ?_, Fx_dE hq, ?_, by rw [cc]; exact k1⟩
  · rw [cc]
    unfold FX7_costLaid
    rw [e0, p1, nI_clamp (by omega : q < 2 ^ 31), kd_q hd, zgd_t, zlet_eq, show (0 + 35 : Nat) = 35 from rfl, show (0 + 6 : Nat) = 6 from rfl, fpr hd, zbd_s, zlet_eq]
    refine Eq.trans (show zlp (fun w : Int32 × zS => FX7_costLaid_L17 0 (nI na) w.1 w.2) (0, dE 35 q σ' (mPr 35 q σ')) = _ from g1) ?_
    unfold FX7_costLaid_b60
    rw [show (0 + 35 : Nat) = 35 from rfl, r1, zbd_s]
  · rw [eq11]
/-! the best order so far -/
def bst := Option (Nat × (Nat → Nat))
def stB (c : (Nat → Nat) → Nat) (B : Option (Nat × (Nat → Nat))) (π : Nat → Nat) : Option (Nat × (Nat → Nat)) := match B with
  | none => some (c π, π)
  | some (m, r) => if c π < m then some (c π, π) else some (m, r)
def bsT (t : zS) (na : Nat) (B : Option (Nat × (Nat → Nat))) : Prop := match B with
  | none => t 0 62 = 0
  | some (m, r) => t 0 62 = 1 ∧ t 0 61 = nI m ∧ m < 2 ^ 31 ∧ ∀ j, j < na → t 28 j = nI (r j)
def FM (t0 t : zS) : Prop := ∀ k j, msc k j = false → k ≠ 28 → t k j = t0 k j
theorem FM.tr {a b c : zS} (h : FM a b) (h2 : FM b c) : FM a c := fun k j hk h3 => (h2 k j hk h3).trans (h k j hk h3)
theorem FM.r {a b : zS} (h : FM a b) (k : Nat) (h0 : k ≠ 0) (h1 : k < 20 ∨ 27 < k) (h2 : k ≠ 33) (h3 : k ≠ 28) : b k = a k := funext fun j => h k j (msc_row h0 h1 h2 j) h3
theorem rSh.l {t t' S : zS} {na n nr : Nat} (h : rSh t S na n nr) (hf : FM t t') : rSh t' S na n nr := by
  unfold rSh rS rP rF rR at *
  rw [hf.r 3 (by decide) (by decide) (by decide) (by decide), hf.r 4 (by decide) (by decide) (by decide) (by decide), hf.r 6 (by decide) (by decide) (by decide) (by decide), hf.r 8 (by decide) (by decide) (by decide) (by decide), hf.r 9 (by decide) (by decide) (by decide) (by decide), hf.r 10 (by decide) (by decide) (by decide) (by decide), hf.r 11 (by decide) (by decide) (by decide) (by decide), hf.r 12 (by decide) (by decide) (by decide) (by decide), hf.r 13 (by decide) (by decide) (by decide) (by decide), hf.r 14 (by decide) (by decide) (by decide) (by decide), hf.r 15 (by decide) (by decide) (by decide) (by decide), hf.r 18 (by decide) (by decide) (by decide) (by decide)]
  exact h
/-- the row is kept -/
theorem gCop {G : zGr} {u : zS} {na : Nat} (h5 : na ≤ 5) (h3 : u 3 0 = nI na) : ∃ u', FX8_layOn_b103 G 0 u = some (0, u') ∧ (∀ k, k ≠ 28 → u' k = u k) ∧ ∀ j, j < na → u' 28 j = u 27 j := by
  have z3 : ∀ (β : Type) (r : Option β), zin (ln 1 (0 + 3)) 0 r = r := fun β r => zin_n (p := 0) r (by decide : 0 < 18) (by decide)
  have key : ∀ k i w, i + k = na → (∀ k, k ≠ 28 → w k = u k) → (∀ j, j < i → w 28 j = u 27 j) → ∃ u', zlp (fun q : Int32 × zS => FX8_layOn_L106 G 0 q.1 q.2) (nI i, w) = some (0, u') ∧ (∀ k, k ≠ 28 → u' k = u k) ∧ ∀ j, j < na → u' 28 j = u 27 j := by
    intro k
    induction k with
    | zero =>
      intro i w hi h1 h2
      refine ⟨w, zlp_end ?_, h1, fun j hj => h2 j (by omega)⟩
      show FX8_layOn_L106 G 0 (nI i) w = _
      unfold FX8_layOn_L106 FX8_layOn_b137
      rw [z3, show (0 + 3 : Nat) = 3 from rfl, show (0 : Int32).toNatClampNeg = 0 from rfl, h1 3 (by decide), h3, if_pos (nI_le (by omega) (by omega))]
      rfl
    | succ k ih =>
      intro i w hi h1 h2
      have st : FX8_layOn_L106 G 0 (nI i) w = some (.inl (nI (i + 1), zup w 28 i (u 27 i))) := by
        unfold FX8_layOn_L106
        rw [z3, show (0 + 3 : Nat) = 3 from rfl, show (0 : Int32).toNatClampNeg = 0 from rfl, h1 3 (by decide), h3, if_neg (nI_ge (by omega) (by omega)), show (0 + 27 : Nat) = 27 from rfl, show (0 + 28 : Nat) = 28 from rfl, show ln 1 27 = 10 from rfl, show ln 1 28 = 10 from rfl, zin_n _ (by omega : i < 10) (by decide), zin_n _ (by omega : i < 10) (by decide), zlet_eq, zlet_eq, nI_1, nI_clamp (by omega : i < 2 ^ 31), h1 27 (by decide)]
      obtain ⟨u', g1, g2, g3⟩ := ih (i + 1) (zup w 28 i (u 27 i)) (by omega) (fun k hk => (zup_n hk).trans (h1 k hk)) (fun j hj => by
        rw [zup_at]
        by_cases c : j = i
        · rw [if_pos ⟨rfl, c⟩, c]
        · rw [if_neg (fun z => c z.2)]; exact h2 j (by omega))
      exact ⟨u', (zlp_step (f := fun q : Int32 × zS => FX8_layOn_L106 G 0 q.1 q.2) (a := (nI i, w)) st).trans g1, g2, g3⟩
  unfold FX8_layOn_b103
  rw [zlet_eq]
  exact key na 0 u (Nat.zero_add na) (fun _ _ => rfl) (fun j hj => by omega)
/-- the reference asks for a whole order -/
theorem gLeaf {t0 t : zS} {X : Int32} {G : zGr} {π : Nat → Nat} {B : Option (Nat × (Nat → Nat))} (h : RQ σ t0 q na n nr) (h5 : na ≤ 5) (hF : FM t0 t) (hT : LT σ (ss q σ) t na n) (h22 : L22 (ss q σ) t na π) (h27 : ∀ i, i < na → t 27 i = nI (π i)) (hπ : ∀ j, j < na → π j < na) (hB : bsT t na B) : ∃ t', FX8_layOn G 0 (nI na) X t = some (0, t') ∧ FM t0 t' ∧ LT σ (ss q σ) t' na n ∧ L22 (ss q σ) t' na π ∧ (∀ i, i < na → t' 27 i = nI (π i)) ∧ bsT t' na (stB (cL σ (ss q σ) na n) B π) := by
  obtain ⟨⟨w1, w2, w3, -, w5⟩, -⟩ := h.2.2.2.1
  have h10 := h.2.2.1.1.1.1
  have t3 : t 3 0 = nI na := by rw [hF 3 0 rfl (by decide)]; exact h.2.2.1.1.1.2.2
  have z3 : ∀ (β : Type) (r : Option β), zin (ln 1 (0 + 3)) 0 r = r := fun β r => zin_n (p := 0) r (by decide : 0 < 18) (by decide)
  have hSh : rSh t (ss q σ) na n nr := h.2.2.1.l hF
  have hBd : ∀ t', (∀ k, k ≠ 23 → t' k = t k) → (∀ a, a < 10 → t' 23 a = t 5 a) → rB t' na n nr 99 (dC σ (ss q σ) na π) := by
    intro t' k1 k2
    obtain ⟨l1, l2, l3, l4, l5⟩ := hT
    refine rB_dC ⟨?_, ?_, ?_, ?_, fun p hp => ?_⟩ (fun i hi => by rw [k1 22 (by decide)]; exact h22 i hi) (fun a ha => ?_) (fun a ha => ?_) w2
    · rw [k1 0 (by decide)]; exact l1
    · rw [k1 0 (by decide)]; exact l2
    · rw [k1 0 (by decide)]; exact l3
    · rw [k1 0 (by decide)]; exact l4
    · rw [k1 0 (by decide)]; exact l5 p hp
    · rw [k1 7 (by decide), hF 7 a rfl (by decide)]; exact (w5 a ha).1
    · obtain ⟨-, v2, s, v3, v4⟩ := w5 a ha
      exact ⟨by rw [k2 a (by omega), hF 5 a rfl (by decide)]; exact v2.symm, s, v3, v4⟩
  have hw := hBd (zrow t 23 (t 5)) (fun k hk => zrow_n hk) (fun a _ => by rw [zrow_s])
  have hSw := hSh.fr (show Fr t (zrow t 23 (t 5)) from fun k j hk => by rw [zrow_n (fun z => by subst z; cases hk)])
  obtain ⟨e1, c, k1, k2⟩ := cs_run hSw hw (by decide) (fun a ha => by
    obtain ⟨w, v1, v2⟩ := h.2.2.1.2.2.2 (π a) (hπ a ha)
    refine ⟨w, v1, ?_⟩
    show (if a < na then ss q σ 2 (π a) else 0) = nI w
    rw [if_pos ha]; exact v2)
  have cc : cL σ (ss q σ) na n π = c := by unfold cL; rw [k2, nI_clamp (by omega)]
  obtain ⟨t1, a1, a2, a3, a4, a5, a6⟩ := gAsk (v := 0) hSh hBd
  rw [k2] at a5 a6
  have hm : FM t0 t1 := hF.tr (fun k j hk _ => ask_fm a2 k j hk)
  obtain ⟨b1, b2, b3, b4, b5, b6⟩ := a3
  have T1 : LT σ (ss q σ) t1 na n := by
    refine ⟨?_, ?_, ?_, ?_, fun p hp => ?_⟩
    · rw [b1, a4 1 (by decide) (by decide)]; rfl
    · rw [b2, a4 2 (by decide) (by decide)]; rfl
    · rw [b3, a4 3 (by decide) (by decide)]; rfl
    · rw [b4, a4 4 (by decide) (by decide)]; rfl
    · rw [b6 p hp, a4 5 (by decide) (by decide)]
      show (!bt 0 p) = true
      rw [b_0]; rfl
  have T22 : L22 (ss q σ) t1 na π := fun i hi => by
    rw [(b5 i hi).1, e1]
    show (if i < na then ss q σ 2 (π i) else 0) = _
    rw [if_pos hi]
  have T27 : ∀ i, i < na → t1 27 i = nI (π i) := fun i hi => by rw [a2 27 i rfl (by omega)]; exact h27 i hi
  have T28 : ∀ i, t1 28 i = t 28 i := fun i => a2 28 i rfl (by omega)
  obtain ⟨t2, g1, g2, g3⟩ := gCop (G := G) (u := t1) h5 (by rw [hm 3 0 rfl (by decide)]; exact h.2.2.1.1.1.2.2)
  have c2 : FM t0 t2 ∧ LT σ (ss q σ) t2 na n ∧ L22 (ss q σ) t2 na π ∧ (∀ i, i < na → t2 27 i = nI (π i)) := by
    refine ⟨hm.tr (fun k j hk h28 => by rw [g2 k h28]), ?_, fun i hi => by rw [g2 22 (by decide)]; exact T22 i hi, fun i hi => by rw [g2 27 (by decide)]; exact T27 i hi⟩
    unfold LT
    rw [g2 0 (by decide)]
    exact T1
  have st : FX8_layOn G 0 (nI na) X t = if t 0 62 = 0 then FX8_layOn_b103 G 0 t1 else if t1 0 61 = t 0 61 then some (0, t1) else FX8_layOn_b103 G 0 t1 := by
    unfold FX8_layOn
    rw [z3, show (0 + 3 : Nat) = 3 from rfl, show (0 : Int32).toNatClampNeg = 0 from rfl, t3, if_pos (nI_le (Nat.le_refl na) (by omega)), zlet_eq, zlet_eq, a1, zbd_s]
  cases B with
  | none =>
    have h62 : t 0 62 = 0 := hB
    obtain ⟨x1, x2, x3⟩ := a5 (Or.inl h62)
    rw [if_pos h62, g1] at st
    refine ⟨t2, st, c2.1, c2.2.1, c2.2.2.1, c2.2.2.2, ?_⟩
    show t2 0 62 = 1 ∧ t2 0 61 = nI (cL σ (ss q σ) na n π) ∧ cL σ (ss q σ) na n π < 2 ^ 31 ∧ ∀ j, j < na → t2 28 j = nI (π j)
    rw [g2 0 (by decide), cc]
    exact ⟨x1, x3, by omega, fun j hj => by rw [g3 j hj]; exact T27 j hj⟩
  | some B =>
    obtain ⟨m, r⟩ := B
    obtain ⟨h62, h61, hm31, h28⟩ : t 0 62 = 1 ∧ t 0 61 = nI m ∧ m < 2 ^ 31 ∧ ∀ j, j < na → t 28 j = nI (r j) := hB
    have n62 : ¬ t 0 62 = 0 := by rw [h62]; decide
    rw [if_neg n62, h61] at st
    unfold stB
    simp only [cc]
    by_cases lt : c < m
    · obtain ⟨x1, x2, x3⟩ := a5 (Or.inr (by rw [h61]; exact nI_lt lt hm31))
      rw [x3, if_neg (fun z => by have := (nI_eq (by omega) hm31).mp z; omega), g1] at st
      refine ⟨t2, st, c2.1, c2.2.1, c2.2.2.1, c2.2.2.2, ?_⟩
      rw [if_pos lt]
      show t2 0 62 = 1 ∧ t2 0 61 = nI c ∧ c < 2 ^ 31 ∧ ∀ j, j < na → t2 28 j = nI (π j)
      rw [g2 0 (by decide)]
      exact ⟨x1, x3, by omega, fun j hj => by rw [g3 j hj]; exact T27 j hj⟩
    · obtain ⟨x1, x2, x3⟩ := a6 (by
        rintro (z | z)
        · exact n62 z
        · rw [h61] at z; exact lt ((nI_ltI (by omega) hm31).mp z))
      rw [x3, h61, if_pos rfl] at st
      refine ⟨t1, st, hm, T1, T22, T27, ?_⟩
      rw [if_neg lt]
      exact ⟨x1.trans h62, x3.trans h61, hm31, fun j hj => by rw [T28]; exact h28 j hj⟩
/-- through all orders that begin so -/
theorem gLay {t0 : zS} (h : RQ σ t0 q na n nr) (h5 : na ≤ 5) : ∀ m a k π L X t B, a + m = na → (∀ b, b < 32 → b < na → bt X b = L b) → FM t0 t → LT σ (ss q σ) t na n → (∀ i, i < a → t 27 i = nI (π i) ∧ t 22 i = ss q σ 2 (π i) ∧ π i < na) → bsT t na B → m + 1 ≤ k → ∃ t', FGZ k 0 0 (nI a) X t = some (0, t') ∧ FM t0 t' ∧ LT σ (ss q σ) t' na n ∧ (∀ i, i < a → t' 27 i = nI (π i) ∧ t' 22 i = ss q σ 2 (π i)) ∧ bsT t' na ((ordF na m L π a).foldl (stB (cL σ (ss q σ) na n)) B) := by
  intro m
  induction m with
  | zero =>
    intro a k π L X t B ha hX hF hT hp hB hk
    obtain ⟨k, rfl⟩ : ∃ j, k = j + 1 := ⟨k - 1, by omega⟩
    have e : a = na := by omega
    subst e
    obtain ⟨t', g1, g2, g3, g4, g5, g6⟩ := gLeaf (X := X) (G := FGZ k) h h5 hF hT (fun i hi => (hp i hi).2.1) (fun i hi => (hp i hi).1) (fun i hi => (hp i hi).2.2) hB
    exact ⟨t', g1, g2, g3, fun i hi => ⟨g5 i hi, g4 i hi⟩, g6⟩
  | succ m ih =>
    intro a k π L X t B ha hX hF hT hp hB hk
    obtain ⟨k, rfl⟩ : ∃ j, k = j + 1 := ⟨k - 1, by omega⟩
    have z3 : ∀ (β : Type) (r : Option β), zin (ln 1 (0 + 3)) 0 r = r := fun β r => zin_n (p := 0) r (by decide : 0 < 18) (by decide)
    have han : a < na := by omega
    have h30 : ∀ {u : zS}, FM t0 u → u 3 0 = nI na := fun hu => by rw [hu 3 0 rfl (by decide)]; exact h.2.2.1.1.1.2.2
    let fB : Nat → List (Nat → Nat) := fun b => if L b = true then ordF na m (fun x => L x && !decide (x = b)) (fun j => if j = a then b else π j) (a + 1) else []
    have lp : ∀ j b u C, b + j = na → FM t0 u → LT σ (ss q σ) u na n → (∀ i, i < a → u 27 i = nI (π i) ∧ u 22 i = ss q σ 2 (π i) ∧ π i < na) → bsT u na C → ∃ u', zlp (fun w : Int32 × zS => FX8_layOn_L12 (FGZ k) 0 (nI a) X w.1 w.2) (nI b, u) = some (0, u') ∧ FM t0 u' ∧ LT σ (ss q σ) u' na n ∧ (∀ i, i < a → u' 27 i = nI (π i) ∧ u' 22 i = ss q σ 2 (π i)) ∧ bsT u' na (((List.range' b j).flatMap fB).foldl (stB (cL σ (ss q σ) na n)) C) := by
      intro j
      induction j with
      | zero =>
        intro b u C hb hF hT hp hC
        refine ⟨u, zlp_end ?_, hF, hT, fun i hi => ⟨(hp i hi).1, (hp i hi).2.1⟩, hC⟩
        show FX8_layOn_L12 (FGZ k) 0 (nI a) X (nI b) u = _
        unfold FX8_layOn_L12 FX8_layOn_b72
        rw [z3, show (0 + 3 : Nat) = 3 from rfl, show (0 : Int32).toNatClampNeg = 0 from rfl, h30 hF, if_pos (nI_le (by omega) (by omega))]
        rfl
      | succ j ihj =>
        intro b u C hb hF hT hp hC
        have hbn : b < na := by omega
        rw [List.range'_succ, List.flatMap_cons, List.foldl_append]
        have hXb := hX b (by omega) hbn
        cases hL : L b
        · rw [hL] at hXb
          have st : FX8_layOn_L12 (FGZ k) 0 (nI a) X (nI b) u = some (.inl (nI (b + 1), u)) := by
            unfold FX8_layOn_L12 FX8_layOn_b66
            rw [z3, show (0 + 3 : Nat) = 3 from rfl, show (0 : Int32).toNatClampNeg = 0 from rfl, h30 hF, if_neg (nI_ge hbn (by omega)), fisOf _ (by omega : b < 32), hXb, zbd_s, b01_f, if_pos rfl, zlet_eq, nI_1]
          have e0 : fB b = [] := by show (if L b = true then _ else []) = []; rw [hL, if_neg (by decide)]
          rw [e0]
          obtain ⟨u', g1, g2⟩ := ihj (b + 1) u C (by omega) hF hT hp hC
          exact ⟨u', (zlp_step (f := fun w : Int32 × zS => FX8_layOn_L12 (FGZ k) 0 (nI a) X w.1 w.2) (a := (nI b, u)) st).trans g1, g2⟩
        · rw [hL] at hXb
          have e0 : fB b = ordF na m (fun x => L x && !decide (x = b)) (fun j => if j = a then b else π j) (a + 1) := by show (if L b = true then _ else []) = _; rw [hL, if_pos rfl]
          rw [e0]
          have u4 : u 4 b = ss q σ 2 b := by rw [hF 4 b rfl (by decide)]; exact (h.2.2.1.1.2.2.2.2.1 b hbn).1
          obtain ⟨u2, y1, y2, y3, y4, y5⟩ := ih (a + 1) k (fun j => if j = a then b else π j) (fun x => L x && !decide (x = b)) (X &&& (sb b ^^^ (-1))) (zup (zup u 27 a (nI b)) 22 a (ss q σ 2 b)) C (by omega) (fun x hx hxn => by rw [bt_off (by omega) hx, hX x hx hxn]) (hF.tr (fun k' j' hk' _ => by
            rw [zup_at, if_neg (fun z => by rw [z.1] at hk'; cases hk'), zup_at, if_neg (fun z => by rw [z.1] at hk'; cases hk')])) (by
              obtain ⟨l1, l2, l3, l4, l5⟩ := hT
              exact ⟨by rw [zup_n (by decide), zup_n (by decide)]; exact l1, by rw [zup_n (by decide), zup_n (by decide)]; exact l2, by rw [zup_n (by decide), zup_n (by decide)]; exact l3, by rw [zup_n (by decide), zup_n (by decide)]; exact l4, fun p hp => by rw [zup_n (by decide), zup_n (by decide)]; exact l5 p hp⟩) (fun i hi => by
              rw [zup_n (by decide : 27 ≠ 22), zup_at, zup_at, zup_n (by decide : 22 ≠ 27)]
              by_cases c : i = a
              · rw [if_pos ⟨rfl, c⟩, if_pos c, if_pos ⟨rfl, c⟩]
                exact ⟨rfl, rfl, hbn⟩
              · rw [if_neg (fun z => c z.2), if_neg c, if_neg (fun z => c z.2)]
                exact hp i (by omega)) (by
              cases C with
              | none =>
                show zup (zup u 27 a (nI b)) 22 a (ss q σ 2 b) 0 62 = 0
                rw [zup_n (by decide), zup_n (by decide)]; exact hC
              | some C =>
                obtain ⟨m', r⟩ := C
                show zup (zup u 27 a (nI b)) 22 a (ss q σ 2 b) 0 62 = 1 ∧ zup (zup u 27 a (nI b)) 22 a (ss q σ 2 b) 0 61 = nI m' ∧ m' < 2 ^ 31 ∧ ∀ j, j < na → zup (zup u 27 a (nI b)) 22 a (ss q σ 2 b) 28 j = nI (r j)
                rw [zup_n (by decide), zup_n (by decide), zup_n (by decide), zup_n (by decide)]
                exact hC) (by omega)
          have st : FX8_layOn_L12 (FGZ k) 0 (nI a) X (nI b) u = some (.inl (nI (b + 1), u2)) := by
            unfold FX8_layOn_L12 FX8_layOn_b66
            have y1' : FGZ k 0 0 (nI (a + 1)) (X &&& ((1 : Int32) <<< (nI b &&& 31) ^^^ (-1))) (zup (zup u 27 a (nI b)) 22 a (ss q σ 2 b)) = some (0, u2) := y1
            rw [z3, show (0 + 3 : Nat) = 3 from rfl, show (0 : Int32).toNatClampNeg = 0 from rfl, h30 hF, if_neg (nI_ge hbn (by omega)), fisOf _ (by omega : b < 32), hXb, zbd_s, b01_t, if_neg (by decide), show (0 + 27 : Nat) = 27 from rfl, show (0 + 4 : Nat) = 4 from rfl, show (0 + 22 : Nat) = 22 from rfl, show ln 1 27 = 10 from rfl, show ln 1 4 = 20 from rfl, show ln 1 22 = 10 from rfl, zin_n _ (by omega : a < 10) (by decide), zlet_eq, zin_n _ (by omega : b < 20) (by decide), zin_n _ (by omega : a < 10) (by decide), zlet_eq, nI_1, nI_clamp (by omega : a < 2 ^ 31), nI_clamp (by omega : b < 2 ^ 31), zup_n (by decide : 4 ≠ 27), u4, y1', zbd_s, zlet_eq, nI_1]
          obtain ⟨u', g1, g2⟩ := ihj (b + 1) u2 _ (by omega) y2 y3 (fun i hi => by
            obtain ⟨q1, q2⟩ := y4 i (by omega)
            rw [if_neg (by omega)] at q1 q2
            exact ⟨q1, q2, (hp i hi).2.2⟩) y5
          exact ⟨u', (zlp_step (f := fun w : Int32 × zS => FX8_layOn_L12 (FGZ k) 0 (nI a) X w.1 w.2) (a := (nI b, u)) st).trans g1, g2⟩
    obtain ⟨u', g1, g2, g3, g4, g5⟩ := lp na 0 t B (Nat.zero_add na) hF hT hp hB
    refine ⟨u', ?_, g2, g3, g4, ?_⟩
    · show FX8_layOn (FGZ k) 0 (nI a) X t = _
      unfold FX8_layOn
      rw [z3, show (0 + 3 : Nat) = 3 from rfl, show (0 : Int32).toNatClampNeg = 0 from rfl, h30 hF, if_neg (nI_ge han (by omega)), zlet_eq]
      exact g1
    · have e : ordF na (m + 1) L π a = (List.range' 0 na).flatMap fB := by rw [← List.range_eq_range']; rfl
      rw [e]
      exact g5
end
