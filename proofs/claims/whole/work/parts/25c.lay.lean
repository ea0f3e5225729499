/-! lay: both sides -/
section
variable {σ t : zS} {q na n nr : Nat}
theorem stB_0 {c : (Nat → Nat) → Nat} {r : Nat → Nat} : ∀ l : List (Nat → Nat), l.foldl (stB c) (some (0, r)) = some (0, r) := by
  intro l
  induction l with
  | nil => rfl
  | cons π l ih =>
    rw [List.foldl_cons]
    have : stB c (some (0, r)) π = some (0, r) := by
      show (if c π < 0 then some (c π, π) else some (0, r)) = _
      rw [if_neg (by omega)]
    rw [this]
    exact ih
def bsC (s : zS) (na : Nat) (x2 : Int32) (B : Option (Nat × (Nat → Nat))) : Prop := match B with
  | none => x2 = -1
  | some (m, r) => x2 = nI m ∧ m ≤ 479520 ∧ ∀ j, j < na → s 2 j = nI (r j)
/-- the class goes through the orders -/
theorem fLay (h : RQ σ t q na n nr) (h5 : na ≤ 5) : ∀ k i s x2 B, i + k = (ordA na).length → (0 < i ∨ 0 < k) → FL σ s → (0 < k → rowG s na (ordN na i)) → bsC s na x2 B → ∃ s' x2', zlp (fun w : Int32 × Int32 × Int32 × zS => FX7_lay_L48 0 (nI na) w.1 w.2.1 w.2.2.1 w.2.2.2) (x2, (if k = 0 then 0 else 1), nI i, s) = FX7_lay_b110 0 x2' s' ∧ FL σ s' ∧ bsC s' na x2' (((ordA na).drop i).foldl (stB (cL σ (ss q σ) na n)) B) := by
  obtain ⟨o1, o2, -, -⟩ := ord_ok na h5
  intro k
  induction k with
  | zero =>
    intro i s x2 B hi h0 hF hr hB
    refine ⟨s, x2, zlp_exit ?_, hF, ?_⟩
    · show FX7_lay_L48 0 (nI na) x2 (if 0 = 0 then 0 else 1) (nI i) s = _
      unfold FX7_lay_L48
      rw [if_pos rfl, if_pos rfl]
      split <;> rfl
    · rw [List.drop_eq_nil_of_le (by omega)]
      exact hB
  | succ k ih =>
    intro i s x2 B hi h0 hF hr hB
    have hil : i < (ordA na).length := by omega
    obtain ⟨ok, hπ⟩ := ord_n h5 hil
    have hrow := hr (Nat.succ_pos k)
    have hd : (ordA na).drop i = ordN na i :: (ordA na).drop (i + 1) := by
      rw [List.drop_eq_getElem_cons hil]
      congr 1
      unfold ordN
      rw [List.getD_eq_getElem?_getD, List.getElem?_eq_getElem hil]
      rfl
    rw [if_neg (by omega : ¬ k + 1 = 0)]
    by_cases c0 : x2 = 0
    · -- nothing can be better
      refine ⟨s, x2, zlp_exit ?_, hF, ?_⟩
      · show FX7_lay_L48 0 (nI na) x2 1 (nI i) s = _
        unfold FX7_lay_L48
        rw [if_neg (show ¬ (1 : Int32) = 0 by decide), if_pos c0]
        split <;> rfl
      · cases B with
        | none => have hB : x2 = -1 := hB; rw [hB] at c0; exact absurd c0 (by decide)
        | some B =>
          obtain ⟨m, r⟩ := B
          obtain ⟨b1, b2, b3⟩ : x2 = nI m ∧ m ≤ 479520 ∧ ∀ j, j < na → s 2 j = nI (r j) := hB
          have m0 : m = 0 := by
            rw [b1] at c0
            exact (nI_eq (b := 0) (by omega) (by decide)).mp c0
          subst m0
          rw [stB_0]
          exact ⟨b1, b2, b3⟩
    obtain ⟨s1, e1, e2, e3, e4⟩ := fcL h h5 hF hπ hrow
    have hF1 : FL σ s1 := hF.tr e2.l
    have row1 : rowG s1 na (ordN na i) := fun j hj => by rw [e3]; exact hrow j hj
    -- the next order
    have nxt : ∀ s2 : zS, FL σ s2 → rowG s2 na (ordN na i) → ∃ s3, FX7_nextOrder 1 (nI na) s2 = some ((if k = 0 then 0 else 1), s3) ∧ FL σ s3 ∧ (0 < k → rowG s3 na (ordN na (i + 1))) ∧ s3 2 = s2 2 := by
      intro s2 hF2 hr2
      have hx := fnx h5 hr2 hπ
      unfold okN at ok
      cases hn : nxM (ordN na i) na with
      | none =>
        rw [hn] at hx ok
        have hk : k = 0 := by have := of_decide_eq_true ok; omega
        exact ⟨s2, by rw [if_pos hk]; exact hx, hF2, fun z => by omega, rfl⟩
      | some g =>
        rw [hn] at hx ok
        rw [Bool.and_eq_true, decide_eq_true_iff, List.all_eq_true] at ok
        obtain ⟨s3, y1, y2, y3⟩ := hx
        exact ⟨s3, by rw [if_neg (by omega)]; exact y1, hF2.tr y3.l, fun _ j hj => by rw [y2 j hj, of_decide_eq_true (ok.2 j (List.mem_range.mpr hj))], y3 2 (by decide)⟩
    have st : FX7_lay_L48 0 (nI na) x2 1 (nI i) s = if x2 = -1 then FX7_lay_b81 0 (nI na) (nI i) (nI (cL σ (ss q σ) na n (ordN na i))) s1 else if x2 ≤ nI (cL σ (ss q σ) na n (ordN na i)) then FX7_lay_b95 0 (nI na) x2 (nI i) s1 else FX7_lay_b81 0 (nI na) (nI i) (nI (cL σ (ss q σ) na n (ordN na i))) s1 := by
      unfold FX7_lay_L48
      rw [if_neg (show ¬ (120 : Int32) ≤ nI i from nI_ge (b := 120) (by omega) (by decide)), if_neg (show ¬ (1 : Int32) = 0 by decide), if_neg c0, e1, zbd_s, zlet_eq]
    have keep : ∃ s3, FX7_lay_b81 0 (nI na) (nI i) (nI (cL σ (ss q σ) na n (ordN na i))) s1 = some (.inl (nI (cL σ (ss q σ) na n (ordN na i)), (if k = 0 then 0 else 1), nI (i + 1), s3)) ∧ FL σ s3 ∧ (0 < k → rowG s3 na (ordN na (i + 1))) ∧ bsC s3 na (nI (cL σ (ss q σ) na n (ordN na i))) (some (cL σ (ss q σ) na n (ordN na i), ordN na i)) := by
      obtain ⟨s3, y1, y2, y3, y4⟩ := nxt (zrow s1 2 (va_cpy (s1 1) (s1 2) 0 0 5)) (hF1.tr (fun k' j' _ h2 => by rw [zrow_n h2])) (fun j hj => by rw [zrow_n (by decide)]; exact row1 j hj)
      refine ⟨s3, ?_, y2, y3, rfl, e4, fun j hj => ?_⟩
      · unfold FX7_lay_b81 FX7_lay_b95
        rw [zlet_eq, show (0 + 1 : Nat) = 1 from rfl, show (0 + 2 : Nat) = 2 from rfl, fcpy (show ln 0 1 = 5 from rfl) (show ln 0 2 = 5 from rfl) (by decide), zbd_s, y1, zbd_s, zlet_eq, zlet_eq, nI_1]
      · rw [y4, zrow_s, sb_cpy0 (by omega)]; exact row1 j hj
    rw [hd, List.foldl_cons]
    cases B with
    | none =>
      have hB : x2 = -1 := hB
      obtain ⟨s3, y1, y2, y3, y4⟩ := keep
      rw [if_pos hB, y1] at st
      obtain ⟨s', x2', g1, g2, g3⟩ := ih (i + 1) s3 _ _ (by omega) (Or.inl (Nat.succ_pos i)) y2 y3 y4
      exact ⟨s', x2', (zlp_step (f := fun w : Int32 × Int32 × Int32 × zS => FX7_lay_L48 0 (nI na) w.1 w.2.1 w.2.2.1 w.2.2.2) (a := (x2, 1, nI i, s)) st).trans g1, g2, g3⟩
    | some B =>
      obtain ⟨m, r⟩ := B
      obtain ⟨b1, b2, b3⟩ : x2 = nI m ∧ m ≤ 479520 ∧ ∀ j, j < na → s 2 j = nI (r j) := hB
      have nm : ¬ x2 = -1 := by rw [b1]; exact nI_m1 (by omega)
      rw [if_neg nm] at st
      have hstep : stB (cL σ (ss q σ) na n) (some (m, r)) (ordN na i) = if cL σ (ss q σ) na n (ordN na i) < m then some (cL σ (ss q σ) na n (ordN na i), ordN na i) else some (m, r) := rfl
      by_cases lt : cL σ (ss q σ) na n (ordN na i) < m
      · obtain ⟨s3, y1, y2, y3, y4⟩ := keep
        rw [b1, if_neg (nI_ge lt (by omega)), y1] at st
        rw [hstep, if_pos lt, b1]
        obtain ⟨s', x2', g1, g2, g3⟩ := ih (i + 1) s3 _ _ (by omega) (Or.inl (Nat.succ_pos i)) y2 y3 y4
        exact ⟨s', x2', (zlp_step (f := fun w : Int32 × Int32 × Int32 × zS => FX7_lay_L48 0 (nI na) w.1 w.2.1 w.2.2.1 w.2.2.2) (a := (nI m, 1, nI i, s)) st).trans g1, g2, g3⟩
      · obtain ⟨s3, y1, y2, y3, y4⟩ := nxt s1 hF1 row1
        have e2r : s1 2 = s 2 := e2.r 2 (by decide) (by decide) (by decide) (by decide) (by decide) (by decide) (by decide)
        unfold FX7_lay_b95 at st
        rw [b1, if_pos (nI_le (by omega) (by omega)), show (0 + 1 : Nat) = 1 from rfl, y1, zbd_s, zlet_eq, zlet_eq, nI_1] at st
        rw [hstep, if_neg lt, b1]
        obtain ⟨s', x2', g1, g2, g3⟩ := ih (i + 1) s3 (nI m) (some (m, r)) (by omega) (Or.inl (Nat.succ_pos i)) y2 y3 ⟨rfl, b2, fun j hj => by rw [y4, e2r]; exact b3 j hj⟩
        exact ⟨s', x2', (zlp_step (f := fun w : Int32 × Int32 × Int32 × zS => FX7_lay_L48 0 (nI na) w.1 w.2.1 w.2.2.1 w.2.2.2) (a := (nI m, 1, nI i, s)) st).trans g1, g2, g3⟩
/-- what is kept of an order, anew -/
theorem RQ.lay {s' t' : zS} (h : RQ σ t q na n nr) (f : ∀ k j, xsc k j = false → k ≠ 2 → ¬ (k = 0 ∧ j = 12) → s' k j = σ k j) (g : ∀ k j, msc k j = false → k ≠ 28 → ¬ (k = 0 ∧ j = 65) → t' k j = t k j) (hL : rLd s' t' na) : RQ s' t' q na n nr := by
  obtain ⟨h1, h2, h3, h4, h5, h6, h7⟩ := h
  have hq := h2.1
  have fr : ∀ k, k ≠ 0 → k ≠ 2 → (1 < k ∧ k ≠ 3 ∧ k < 35) → s' k = σ k := fun k k0 k2 hk => funext fun j => f k j (xsc_row (by omega) (by omega) (by omega) (by omega) (by omega) (by omega) (by omega) j) k2 (by omega)
  have f0 : ∀ j, j ≠ 12 → s' 0 j = σ 0 j := fun j hj => f 0 j (by unfold xsc; simp) (by decide) (by omega)
  have gr : ∀ k, k ≠ 0 → (k < 20 ∨ 27 < k) → k ≠ 33 → k ≠ 28 → t' k = t k := fun k k0 k1 k2 k3 => funext fun j => g k j (msc_row k0 k1 k2 j) k3 (by omega)
  have g0 : ∀ j, (3 ≤ j ∧ j ≤ 45) ∨ (72 ≤ j) → t' 0 j = t 0 j := fun j hj => g 0 j (by unfold msc; simp; omega) (by decide) (by omega)
  have fs : ss q s' = ss q σ := by
    funext i j
    unfold ss
    split
    · rfl
    · next c =>
      refine f _ _ ?_ (by omega) (by omega)
      unfold xsc
      simp
      omega
  refine ⟨?_, ?_, ?_, ?_, ?_, ?_, hL⟩
  · unfold rTp at *
    rw [f0 0 (by decide), f0 1 (by decide), fr 5 (by decide) (by decide) (by decide), g0 18 (by decide), g0 27 (by decide), gr 17 (by decide) (by decide) (by decide) (by decide)]
    exact h1
  · unfold rPt at *
    rw [f0 2 (by decide), fr 4 (by decide) (by decide) (by decide)]
    exact h2
  · rw [fs]
    unfold rSh rS rP rF rR at *
    rw [gr 3 (by decide) (by decide) (by decide) (by decide), gr 4 (by decide) (by decide) (by decide) (by decide), gr 6 (by decide) (by decide) (by decide) (by decide), gr 8 (by decide) (by decide) (by decide) (by decide), gr 9 (by decide) (by decide) (by decide) (by decide), gr 10 (by decide) (by decide) (by decide) (by decide), gr 11 (by decide) (by decide) (by decide) (by decide), gr 12 (by decide) (by decide) (by decide) (by decide), gr 13 (by decide) (by decide) (by decide) (by decide), gr 14 (by decide) (by decide) (by decide) (by decide), gr 15 (by decide) (by decide) (by decide) (by decide), gr 18 (by decide) (by decide) (by decide) (by decide)]
    exact h3
  · obtain ⟨k1, k2, k3, k4, k5⟩ := h4
    unfold rNw kR
    rw [fr 6 (by decide) (by decide) (by decide), fr (6 + 1) (by decide) (by decide) (by decide), fr (6 + 2) (by decide) (by decide) (by decide), fr (6 + 3) (by decide) (by decide) (by decide), fr (6 + 4) (by decide) (by decide) (by decide), fr (6 + 5) (by decide) (by decide) (by decide), fr (6 + 6) (by decide) (by decide) (by decide), fr (6 + 7) (by decide) (by decide) (by decide), fr (6 + 8) (by decide) (by decide) (by decide), g0 35 (by decide), g0 36 (by decide), g0 37 (by decide), gr 19 (by decide) (by decide) (by decide) (by decide), gr 29 (by decide) (by decide) (by decide) (by decide), gr 30 (by decide) (by decide) (by decide) (by decide), gr 31 (by decide) (by decide) (by decide) (by decide), gr 32 (by decide) (by decide) (by decide) (by decide), gr 16 (by decide) (by decide) (by decide) (by decide), gr 7 (by decide) (by decide) (by decide) (by decide), gr 5 (by decide) (by decide) (by decide) (by decide)]
    exact ⟨k1.c (fun _ _ => rfl) (fun _ _ => rfl) (fun _ _ => rfl) (fun i _ => g0 (29 + i) (by omega)) (fun _ _ => rfl) (fun _ _ => rfl), k2, k3, k4, k5⟩
  · unfold rPi at *
    rw [f0 6 (by decide), g0 72 (by decide), g0 73 (by decide), g0 74 (by decide), g0 75 (by decide), gr 34 (by decide) (by decide) (by decide) (by decide), gr 35 (by decide) (by decide) (by decide) (by decide), gr 36 (by decide) (by decide) (by decide) (by decide), gr 37 (by decide) (by decide) (by decide) (by decide), gr 38 (by decide) (by decide) (by decide) (by decide), gr 39 (by decide) (by decide) (by decide) (by decide), gr 40 (by decide) (by decide) (by decide) (by decide)]
    exact h5.imp id (fun ⟨a, b, c⟩ => ⟨a, b, c.x (fun i hi => fr _ (by omega) (by omega) (by omega))⟩)
  · exact h6.x hq (f0 9 (by decide)) fs (fun j _ => by rw [fr 6 (by decide) (by decide) (by decide)]) (fr 7 (by decide) (by decide) (by decide)) (fr 8 (by decide) (by decide) (by decide)) (fun k k1 k2 => fr _ (by omega) (by omega) (by omega))
end
theorem rel_lay {σ τ : zS} (h : RR σ τ) : relI (FX7_lay 0 σ) (FX8_lay 0 τ) := by
  obtain ⟨q, na, n, nr, h⟩ := h
  have h0 : RQ σ (zup τ 0 2 0) q na n nr := h.m (Fm.rf.up rfl)
  unfold FX8_lay
  rw [zlet_eq]
  generalize zup τ 0 2 0 = t at *
  have hR : RR σ t := ⟨q, na, n, nr, h0⟩
  have h10 := h0.2.2.1.1.1.1
  obtain ⟨c1, -, -⟩ := h0.2.2.1.c
  have kq := h0.2.1.q
  have e0 : t 3 0 = nI na := h0.2.2.1.1.1.2.2
  have z3 : ∀ (β : Type) (r : Option β), zin (ln 1 (0 + 3)) 0 r = r := fun β r => zin_n (p := 0) r (by decide : 0 < 18) (by decide)
  rw [z3, show (0 + 3 : Nat) = 3 from rfl, show (0 : Int32).toNatClampNeg = 0 from rfl, e0]
  unfold FX7_lay
  rw [kq.1, kq.2, zgd_t, zlet_eq, c1, zlet_eq]
  by_cases h5 : na ≤ 5
  rotate_left
  · rw [if_neg (show ¬ nI na ≤ 5 from nI_ge (a := 5) (by omega) (by omega)), if_neg (show ¬ nI na ≤ 5 from nI_ge (a := 5) (by omega) (by omega))]
    exact ⟨-2, σ, t, rfl, rfl, hR⟩
  rw [if_pos (show nI na ≤ 5 from nI_le (b := 5) h5 (by decide)), if_pos (show nI na ≤ 5 from nI_le (b := 5) h5 (by decide)), zlet_eq]
  obtain ⟨o1, o2, -, -⟩ := ord_ok na h5
  -- the class begins: each AISLE has its own
  have lp : ∀ k i s, i + k = na → FL σ s → (∀ j, j < i → s 1 j = nI j) → ∃ s', zlp (fun w : Int32 × zS => FX7_lay_L21 0 (nI na) w.1 w.2) (nI i, s) = FX7_lay_b41 0 (nI na) s' ∧ FL σ s' ∧ ∀ j, j < na → s' 1 j = nI j := by
    intro k
    induction k with
    | zero =>
      intro i s hi hF hr
      refine ⟨s, zlp_exit ?_, hF, fun j hj => hr j (by omega)⟩
      show FX7_lay_L21 0 (nI na) (nI i) s = _
      unfold FX7_lay_L21
      rw [if_pos (nI_le (by omega) (by omega))]
    | succ k ih =>
      intro i s hi hF hr
      have st : FX7_lay_L21 0 (nI na) (nI i) s = some (.inl (nI (i + 1), zup s 1 i (nI i))) := by
        unfold FX7_lay_L21
        rw [if_neg (nI_ge (by omega) (by omega)), show (0 + 1 : Nat) = 1 from rfl, fput', show ln 0 1 = 5 from rfl, pt_n (by omega : i < 5) (by decide), zbd_s, zlet_eq, nI_1]
      obtain ⟨s', g1, g2, g3⟩ := ih (i + 1) (zup s 1 i (nI i)) (by omega) (hF.tr (fun k' j' hk' _ => by rw [zup_at, if_neg (fun z => by rw [z.1] at hk'; cases hk')])) (fun j hj => by
        rw [zup_at]
        by_cases c : j = i
        · rw [if_pos ⟨rfl, c⟩, c]
        · rw [if_neg (fun z => c z.2)]; exact hr j (by omega))
      exact ⟨s', (zlp_step (f := fun w : Int32 × zS => FX7_lay_L21 0 (nI na) w.1 w.2) (a := (nI i, s)) st).trans g1, g2, g3⟩
  obtain ⟨s1, a1, a2, a3⟩ := lp na 0 σ (Nat.zero_add na) (fun _ _ _ _ => rfl) (fun j hj => by omega)
  rw [show zlp (fun w : Int32 × zS => FX7_lay_L21 0 (nI na) w.1 w.2) (0, σ) = _ from a1]
  unfold FX7_lay_b41
  rw [zlet_eq, zlet_eq, zlet_eq]
  obtain ⟨s2, x2, b1, b2, b3⟩ := fLay h0 h5 (ordA na).length 0 s1 (-1) none (Nat.zero_add _) (Or.inr (by omega)) a2 (fun _ j hj => by rw [a3 j hj, ord_0 h5 j hj]) rfl
  rw [if_neg (by omega)] at b1
  rw [List.drop_zero] at b3
  rw [show zlp (fun w : Int32 × Int32 × Int32 × zS => FX7_lay_L48 0 (nI na) w.1 w.2.1 w.2.2.1 w.2.2.2) (-1, 1, 0, s1) = _ from b1]
  -- the reference
  obtain ⟨u, u1, u2, u3⟩ := gRdy h0 (Or.inr rfl : 35 = 24 ∨ 35 = 35)
  obtain ⟨⟨x1', x2', x3', x4', x5', x6'⟩, -, -⟩ := u3
  have m0 := mPr_0 (k0 := 35) (q := q) (σ := σ)
  have hu : RQ σ (zup u 0 62 0) q na n nr := (h0.m u2.m).m (Fm.rf.up rfl)
  have e3 : zup u 0 62 0 3 0 = nI na := hu.2.2.1.1.1.2.2
  have hX : ∀ b, b < 32 → b < na → bt (((1 : Int32) <<< (nI na &&& 31)) - 1) b = (fun _ => true) b := fun b _ hb => bits_n na (by omega) b hb
  obtain ⟨t2, y1, y2, y3, y4, y5⟩ := gLay hu h5 na 0 zfuel (fun _ => 0) (fun _ => true) (((1 : Int32) <<< (nI na &&& 31)) - 1) (zup u 0 62 0) none (Nat.zero_add na) hX (fun _ _ _ _ => rfl) (by
    have hz : ∀ j, j ≠ 62 → zup u 0 62 0 0 j = u 0 j := fun j hj => by rw [zup_at, if_neg (by omega)]
    refine ⟨?_, ?_, ?_, ?_, fun p hp => ?_⟩
    · rw [hz 46 (by decide), x1', m0]; rfl
    · rw [hz 47 (by decide), x2', m0]; rfl
    · rw [hz 48 (by decide), x3', m0]; rfl
    · rw [hz 49 (by decide), x4', m0]; rfl
    · rw [hz 50 (by decide), x6' p hp, m0]
      simp [b_0]) (fun i hi => by omega) (by show zup u 0 62 0 0 62 = 0; rw [zup_at, if_pos ⟨rfl, rfl⟩]) (by show na + 1 ≤ 200; omega)
  have y1' : FGZ zfuel 0 0 0 (((1 : Int32) <<< (nI na &&& 31)) - 1) (zup u 0 62 0) = some (0, t2) := y1
  rw [u1, zbd_s, zlet_eq, show (zin (ln 1 3) 0 : Option (Int32 × zS) → _) = _ from funext (fun r => z3 _ r), e3, y1', zbd_s, zlet_eq]
  -- the best is the same
  have hfold : ∃ m r, (ordA na).foldl (stB (cL σ (ss q σ) na n)) none = some (m, r) := by
    have key : ∀ (l : List (Nat → Nat)) m r, ∃ m' r', l.foldl (stB (cL σ (ss q σ) na n)) (some (m, r)) = some (m', r') := by
      intro l
      induction l with
      | nil => exact fun m r => ⟨m, r, rfl⟩
      | cons π l ih =>
        intro m r
        rw [List.foldl_cons]
        have : ∃ m' r', stB (cL σ (ss q σ) na n) (some (m, r)) π = some (m', r') := by
          show ∃ m' r', (if cL σ (ss q σ) na n π < m then some (cL σ (ss q σ) na n π, π) else some (m, r)) = some (m', r')
          split
          · exact ⟨_, _, rfl⟩
          · exact ⟨_, _, rfl⟩
        obtain ⟨m', r', e⟩ := this
        rw [e]
        exact ih m' r'
    cases hl : ordA na with
    | nil => rw [hl] at o1; exact absurd o1 (by decide)
    | cons π l =>
      rw [List.foldl_cons]
      exact key l _ _
  obtain ⟨m, r, hf⟩ := hfold
  rw [hf] at b3
  have y5' : bsT t2 na ((ordA na).foldl (stB (cL σ (ss q σ) na n)) none) := y5
  rw [hf] at y5'
  obtain ⟨p1, p2, p3⟩ : x2 = nI m ∧ m ≤ 479520 ∧ ∀ j, j < na → s2 2 j = nI (r j) := b3
  obtain ⟨r1, r2, r3, r4⟩ : t2 0 62 = 1 ∧ t2 0 61 = nI m ∧ m < 2 ^ 31 ∧ ∀ j, j < na → t2 28 j = nI (r j) := y5'
  unfold FX7_lay_b110
  rw [zlet_eq]
  refine ⟨x2, zup s2 0 12 1, zup t2 0 65 1, rfl, ?_, q, na, n, nr, ?_⟩
  · rw [show zup t2 0 65 1 0 61 = x2 by rw [zup_at, if_neg (by omega), r2, p1]]
  · refine hu.lay (fun k j hk h2 h12 => ?_) (fun k j hk h28 h65 => ?_) (Or.inr ⟨?_, ?_, h5, fun a ha => ?_⟩)
    · rw [zup_at, if_neg h12]; exact b2 k j hk h2
    · rw [zup_at, if_neg h65]; exact y2 k j hk h28
    · rw [zup_at, if_pos ⟨rfl, rfl⟩]
    · rw [zup_at, if_pos ⟨rfl, rfl⟩]
    · rw [zup_n (by decide), zup_n (by decide), p3 a ha, r4 a ha]
