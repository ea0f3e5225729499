theorem RQ.nw {σ t σ2 t2 : zS} {q na n nr : Nat} (h : RQ σ t q na n nr) (h9 : σ 0 9 = 0) (hσ : ∀ k j, ¬ (k = 6 ∧ j < 6) → k ≠ 7 → k ≠ 8 → σ2 k j = σ k j) (hτ : ∀ k j, ¬ (k = 0 ∧ 29 ≤ j ∧ j ≤ 34) → k ≠ 7 → k ≠ 5 → t2 k j = t k j) (hw : nwR na n nr (σ2 6) (σ2 7) (σ2 8) (fun i => t2 0 (29 + i)) (t2 7) (t2 5)) : RQ σ2 t2 q na n nr := by
  have rr : ∀ k, k ≠ 6 → k ≠ 7 → k ≠ 8 → σ2 k = σ k := fun k k1 k2 k3 => funext fun j => hσ k j (by omega) k2 k3
  have tr : ∀ k, k ≠ 0 → k ≠ 7 → k ≠ 5 → t2 k = t k := fun k k1 k2 k3 => funext fun j => hτ k j (by omega) k2 k3
  refine h.now (fun k j hk h9 => hσ k j (by omega) (by omega) (by omega)) (fun k j hk h2 hm => hτ k j (by omega) (by omega) (by omega)) ⟨hw, ?_, ?_, ?_, ?_⟩ (rTd.z (by rw [rr 0 (by decide) (by decide) (by decide)]; exact h9))
  all_goals obtain ⟨k1, k2, k3, k4, k5⟩ := h.2.2.2.1
  · rw [rr (6 + 3) (by decide) (by decide) (by decide), hσ 6 8 (by decide) (by decide) (by decide), hτ 0 35 (by decide) (by decide) (by decide), tr 19 (by decide) (by decide) (by decide)]
    exact k2
  · rw [rr (6 + 4) (by decide) (by decide) (by decide), rr (6 + 5) (by decide) (by decide) (by decide), hσ 6 10 (by decide) (by decide) (by decide), hτ 0 36 (by decide) (by decide) (by decide), tr 29 (by decide) (by decide) (by decide), tr 30 (by decide) (by decide) (by decide)]
    exact k3
  · rw [rr (6 + 6) (by decide) (by decide) (by decide), rr (6 + 7) (by decide) (by decide) (by decide), hσ 6 13 (by decide) (by decide) (by decide), hτ 0 37 (by decide) (by decide) (by decide), tr 31 (by decide) (by decide) (by decide), tr 32 (by decide) (by decide) (by decide)]
    exact k4
  · rw [rr (6 + 8) (by decide) (by decide) (by decide), tr 16 (by decide) (by decide) (by decide)]
    exact k5
/-- a refused act -/
theorem rRef1 {σ t : zS} {q na n nr : Nat} (h : RQ σ t q na n nr) : FX6_refuse 6 1 σ = some (0, zup σ 14 1 (σ 14 1 + 1)) ∧ FX8_refuse 0 1 t = some (-1, zup t 16 1 (t 16 1 + 1)) ∧ RR (zup σ 14 1 (σ 14 1 + 1)) (zup t 16 1 (t 16 1 + 1)) := by
  obtain ⟨a, b, c⟩ := rRef h (by decide : 1 < 3)
  exact ⟨a, b, q, na, n, nr, c⟩
theorem rel_open {σ τ : zS} (h : RR σ τ) (x : Int32) : relI (FX7_open 0 x σ) (FX8_open 0 x τ) := by
  have h0 := h.code 0
  obtain ⟨q, na, n, nr, h⟩ := h0
  unfold FX7_open FX8_open
  simp only [zlet_eq, Nat.zero_add]
  generalize zup τ 0 2 0 = t at *
  obtain ⟨σ1, t1, b1, b2, b3, -, -, b9, s6, sk, m0, mk⟩ := rKeep h
  have w2 : σ 6 2 = t1 0 31 := by
    have := h.2.2.2.1.1.1 2 (by decide)
    rw [m0 31 (by decide)]
    exact this
  have key : ∀ r v : Int32, (r = 0 ∨ r = 1) → (v = 0 ∨ v = 1) → relI (FX7_open_b34 r 6 v σ1) (FX8_open_b33 r 0 v t1) := by
    intro r v hr hv
    have hz : ∀ (β : Type) (z : Option β), zgd (r == 0 || r == 1) z = z := fun β z => by rcases hr with e | e <;> rw [e] <;> rfl
    unfold FX7_open_b34 FX8_open_b33
    rw [zlet_eq, zlet_eq, hz, hz]
    refine ⟨r, _, _, rfl, rfl, q, na, n, nr, b3.nw b9 (fun k j k1 k2 k3 => by rw [zup_at, if_neg (by omega)]) (fun k j k1 k2 k3 => by rw [zup_at, if_neg (by omega)]) ?_⟩
    obtain ⟨⟨z1, z2, z3, z4, z5⟩, -⟩ := b3.2.2.2.1
    refine ⟨fun i hi => ?_, by simpa [zup_at] using z2, by simpa [zup_at] using hv, by simpa [zup_at] using z4, by simpa [zup_n] using z5⟩
    show zup σ1 6 2 v 6 i = zup t1 0 31 v 0 (29 + i)
    rw [zup_at, zup_at]
    by_cases c : i = 2
    · subst c; rfl
    · rw [if_neg (by omega), if_neg (by omega)]; exact z1 i hi
  unfold FX7_open_b16 FX8_open_b22
  simp only [zlet_eq, b1, b2, zbd_s, Nat.zero_add, w2]
  by_cases c1 : t1 0 31 = 1 <;> by_cases c2 : x = 0
  · rw [if_pos c1, if_pos c2, if_pos c1, if_pos c2]; exact key 1 0 (Or.inr rfl) (Or.inl rfl)
  · rw [if_pos c1, if_neg c2, if_pos c1, if_neg c2]; exact key 1 1 (Or.inr rfl) (Or.inr rfl)
  · rw [if_neg c1, if_pos c2, if_neg c1, if_pos c2]; exact key 0 0 (Or.inl rfl) (Or.inl rfl)
  · rw [if_neg c1, if_neg c2, if_neg c1, if_neg c2]; exact key 0 1 (Or.inl rfl) (Or.inr rfl)
theorem isn_le {x : Int32} {n : Nat} (hn' : n + 1 < 2 ^ 31) : (¬ x < 0 ∧ x ≤ nI n) ↔ isn x (n + 1) = true := by
  have hn : n < 2 ^ 31 := by omega
  unfold isn
  simp only [Bool.and_eq_true, Bool.not_eq_true', decide_eq_false_iff_not]
  constructor
  · intro ⟨h1, h2⟩
    refine ⟨h1, ?_⟩
    obtain ⟨j, hj, rfl⟩ := nI_of h1
    rw [nI_leI hj hn] at h2
    intro z
    rw [fa_le] at z
    rw [nI_toInt hj] at z
    have e : (nI (n + 1)).toInt ≤ (j : Int) := z
    rw [nI_toInt hn'] at e
    omega
  · intro ⟨h1, h2⟩
    refine ⟨h1, ?_⟩
    obtain ⟨j, hj, rfl⟩ := nI_of h1
    rw [nI_leI hj hn]
    rcases Nat.lt_or_ge n j with z | z
    · exfalso
      apply h2
      exact nI_le (by omega) hj
    · exact z
theorem rel_stops {σ τ : zS} (h : RR σ τ) (x : Int32) : relI (FX7_stops 0 x σ) (FX8_stops 0 x τ) := by
  have h0 := h.code 0
  obtain ⟨q, na, n, nr, h⟩ := h0
  unfold FX7_stops FX7_stops_b9 FX8_stops
  simp only [zlet_eq, Nat.zero_add, gIn4 (by decide : 3 < 2 ^ 31) (show (2 : Int64) = Int32.toInt64 (nI 3 - 1) from by decide), zbd_s, b01_eq0]
  generalize zup τ 0 2 0 = t at *
  obtain ⟨r1, r2, r3⟩ := rRef1 h
  cases hx : isn x 3
  · have : ¬ (¬ x < 0 ∧ x ≤ 2) := fun z => by rw [(isn_le (n := 2) (by decide)).mp z] at hx; cases hx
    rw [if_pos rfl, r1, r2]
    by_cases c1 : x < 0
    · rw [if_pos c1]; exact ⟨-1, _, _, rfl, rfl, r3⟩
    · rw [if_neg c1, if_neg (fun z => this ⟨c1, z⟩)]; exact ⟨-1, _, _, rfl, rfl, r3⟩
  · obtain ⟨c1, c2⟩ := (isn_le (n := 2) (by decide)).mpr hx
    have c2 : x ≤ 2 := c2
    obtain ⟨σ1, t1, b1, b2, b3, -, -, b9, s6, sk, m0, mk⟩ := rKeep h
    have w3 : σ 6 3 = t1 0 32 := by
      have := h.2.2.2.1.1.1 3 (by decide)
      rw [m0 32 (by decide)]
      exact this
    rw [if_neg c1, if_pos c2, if_neg (by decide), b1, b2, zbd_s, zbd_s, w3]
    refine ⟨_, _, _, rfl, rfl, q, na, n, nr, b3.nw b9 (fun k j k1 k2 k3 => by rw [zup_at, if_neg (by omega)]) (fun k j k1 k2 k3 => by rw [zup_at, if_neg (by omega)]) ?_⟩
    obtain ⟨⟨z1, z2, z3, z4, z5⟩, -⟩ := b3.2.2.2.1
    refine ⟨fun i hi => ?_, by simpa [zup_at] using z2, by simpa [zup_at] using z3, by simpa [zup_at] using z4, by simpa [zup_n] using z5⟩
    show zup σ1 6 3 x 6 i = zup t1 0 32 x 0 (29 + i)
    rw [zup_at, zup_at]
    by_cases c : i = 3
    · subst c; rfl
    · rw [if_neg (by omega), if_neg (by omega)]; exact z1 i hi
theorem rel_stock {σ τ : zS} (h : RR σ τ) (x y : Int32) : relX (FX7_stock 0 x y σ) (FX8_stock 0 x y τ) := by
  have h0 := h.code 0
  have hcode : zup τ 0 2 0 0 2 = 0 := by rw [zup_at, if_pos ⟨rfl, rfl⟩]
  obtain ⟨q, na, n, nr, h⟩ := h0
  obtain ⟨c1, c2, c3⟩ := h.2.2.1.c
  have h10 := h.2.2.1.1.1.1
  have e30 := h.2.2.1.1.1.2.2
  unfold FX7_stock FX7_stock_b15 FX8_stock
  simp only [fna h.2.1 c1, gIa (by omega : na < 2 ^ 31) e30, zlet_eq, Nat.zero_add, gIn4 (by decide : 100 < 2 ^ 31) (show (99 : Int64) = Int32.toInt64 (nI 100 - 1) from by decide), zbd_s, b01_eq0]
  generalize zup τ 0 2 0 = t at *
  cases hx : isn x na
  · exact relX_1 ⟨q, na, n, nr, h⟩
  obtain ⟨a, ha, rfl⟩ := (isn_t (by omega)).mp hx
  have ha10 : a < 10 := by omega
  simp only [if_true, zbx_0, Bool.true_eq_false, if_false]
  obtain ⟨r1, r2, r3⟩ := rRef1 h
  cases hy : isn y 100
  · have : ¬ (¬ y < 0 ∧ y ≤ 99) := fun z => by rw [(isn_le (n := 99) (by decide)).mp z] at hy; cases hy
    rw [if_pos rfl, r1, r2]
    have hc2 : zup t 16 1 (t 16 1 + 1) 0 2 = 0 := by rw [zup_n (by decide)]; exact hcode
    by_cases c1 : y < 0
    · rw [if_pos c1]; exact relX_0 r3 hc2
    · rw [if_neg c1, if_neg (fun z => this ⟨c1, z⟩)]; exact relX_0 r3 hc2
  · obtain ⟨d1, d2⟩ := (isn_le (n := 99) (by decide)).mpr hy
    have d2 : y ≤ 99 := d2
    obtain ⟨s, hs, rfl⟩ := (isn_t (by decide)).mp hy
    obtain ⟨σ1, t1, b1, b2, b3, -, -, b9, s6, sk, m0, mk⟩ := rKeep h
    have w5 : σ 8 a = t1 5 a := by
      have := (h.2.2.2.1.1.2.2.2.2 a ha).2.1
      rw [mk 5 (by decide) (by decide)]
      exact this
    rw [if_neg d1, if_pos d2, if_neg (by decide), b2, zbd_s, show (6 + 2 : Nat) = 8 from rfl, fat', show ln 0 8 = 10 from rfl, rd_n ha10 (by decide), zbd_s, b1, zbd_s, fput', show ln 0 8 = 10 from rfl, pt_n ha10 (by decide), zbd_s, rn_5, zin_n _ (by omega : a < 20) (by decide : 20 < 2 ^ 31), zin_n _ (by omega : a < 20) (by decide : 20 < 2 ^ 31), nI_clamp (by omega : a < 2 ^ 31), w5]
    refine relX_0 ⟨q, na, n, nr, b3.nw b9 (fun k j k1 k2 k3 => by rw [zup_n k3]) (fun k j k1 k2 k3 => by rw [zup_n k3]) ?_⟩ (by rw [zup_n (by decide), m0 2 (by decide)]; exact hcode)
    obtain ⟨⟨z1, z2, z3, z4, z5⟩, -⟩ := b3.2.2.2.1
    refine ⟨fun i hi => by rw [zup_n (by decide)]; show σ1 6 i = zup t1 5 a (nI s) 0 (29 + i); rw [zup_n (by decide)]; exact z1 i hi, by simpa [zup_n] using z2, by simpa [zup_n] using z3, by simpa [zup_n] using z4, fun b hb => ?_⟩
    obtain ⟨y1, y2, y3⟩ := z5 b hb
    refine ⟨by rw [zup_n (by decide), zup_n (by decide)]; exact y1, ?_⟩
    rw [zup_at, zup_at]
    by_cases c : b = a
    · subst c
      rw [if_pos ⟨rfl, rfl⟩, if_pos ⟨rfl, rfl⟩]
      exact ⟨rfl, s, by omega, rfl⟩
    · rw [if_neg (fun z => c z.2), if_neg (fun z => c z.2)]
      exact ⟨y2, y3⟩
theorem rel_mirror {σ τ : zS} (h : RR σ τ) (x y : Int32) : relI (FX7_mirror 0 x y σ) (FX8_mirror 0 x y τ) := by
  have h0 := h.code 0
  obtain ⟨q, na, n, nr, h⟩ := h0
  obtain ⟨c1, c2, c3⟩ := h.2.2.1.c
  have h10 := h.2.2.1.1.1.1
  have e30 := h.2.2.1.1.1.2.2
  have hd := h.2.1.d (Or.inl rfl : 24 = 24 ∨ 24 = 35)
  unfold FX7_mirror FX7_mirror_b21 FX7_canHang FX7_canHang_b55 FX7_canHang_b56 FX8_mirror FX8_mirror_b48
  simp only [zlet_eq, Nat.zero_add, Nat.reduceAdd, h.2.1.q.2, kd_q hd, zgd_t, fha c1, gIa (by omega : na < 2 ^ 31) e30, zbd_s, b01_eq0, zgd_00, zgd_11]
  generalize zup τ 0 2 0 = t at *
  obtain ⟨r1, r2, r3⟩ := rRef1 h
  obtain ⟨m, m6, m4⟩ := h.2.2.2.1.1.2.2.2.1
  have e33 : t 0 33 = nI m := by
    have : σ 6 4 = t 0 33 := h.2.2.2.1.1.1 4 (by decide)
    rw [← this, m4]
  have ref : relI (zbd (FX6_refuse 6 1 σ) (fun _ s => some ((-1 : Int32), s))) (zbd (FX8_refuse 0 1 t) (fun r s => some (r, s))) := by
    rw [r1, r2]; exact ⟨-1, _, _, rfl, rfl, r3⟩
  rw [m4, e33]
  by_cases hm : m = 6
  · subst hm
    rw [if_pos (by decide), if_pos (show nI 6 = 6 from rfl)]
    exact ref
  rw [if_neg (show ¬ (6 : Int32) ≤ nI m from nI_ge (b := 6) (by omega) (by decide)), if_neg (show ¬ nI m = 6 from fun z => hm ((nI_eq (b := 6) (by omega) (by decide)).mp z))]
  cases hx : isn x na
  · simp only [if_true, zbd_s, show (0 : Int32) = 0 from rfl]; exact ref
  cases hy : isn y na
  · simp only [if_true, zbd_s, Bool.true_eq_false, if_false]; exact ref
  obtain ⟨a, ha, rfl⟩ := (isn_t (by omega)).mp hx
  obtain ⟨b, hb, rfl⟩ := (isn_t (by omega)).mp hy
  have ha10 : a < 10 := by omega
  have hb32 : b < 32 := by omega
  simp only [Bool.true_eq_false, if_false, nI_eq (by omega : a < 2 ^ 31) (by omega : b < 2 ^ 31)]
  by_cases hab : a = b
  · rw [if_pos hab, if_pos hab, zbd_s, if_pos rfl]; exact ref
  have w7 : σ 7 a = t 7 a := (h.2.2.2.1.1.2.2.2.2 a ha).1
  rw [if_neg hab, if_neg hab, fat', show ln 0 7 = 10 from rfl, rd_n ha10 (by decide), zbd_s, fholds _ hb32, zbd_s, w7, rn_7, zin_n _ (by omega : a < 20) (by decide : 20 < 2 ^ 31), nI_clamp (by omega : a < 2 ^ 31), fisOf _ hb32, zbd_s]
  cases hbt : bt (t 7 a) b
  · obtain ⟨σ1, t1, b1, b2, b3, -, -, b9, s6, sk, m0, mk⟩ := rKeep h
    have v7 : σ1 7 a = t1 7 a := (b3.2.2.2.1.1.2.2.2.2 a ha).1
    have v4 : σ1 6 4 = nI m := by rw [s6 4 (by decide), m4]
    have v33 : t1 0 33 = nI m := by rw [m0 33 (by decide), e33]
    simp only [b01_f, if_true, zbd_s, show ¬ (1 : Int32) = 0 from by decide, if_false, b1, b2, fat', fput', show ln 0 7 = 10 from rfl, rd_n ha10 (by decide : 10 < 2 ^ 31), pt_n ha10 (by decide : 10 < 2 ^ 31), fbit, zin_n _ (by omega : a < 20) (by decide : 20 < 2 ^ 31), v7, rn_7, nI_clamp (by omega : a < 2 ^ 31)]
    have e1 : zup σ1 7 a (t1 7 a ||| sb b) 6 4 = nI m := by rw [zup_n (by decide), v4]
    have e2 : zup t1 7 a (t1 7 a ||| sb b) 0 33 = nI m := by rw [zup_n (by decide), v33]
    show relI (some (zup (zup σ1 7 a (t1 7 a ||| sb b)) 6 4 (zup σ1 7 a (t1 7 a ||| sb b) 6 4 + 1) 6 4, _)) (some (zup (zup t1 7 a (t1 7 a ||| sb b)) 0 33 (zup t1 7 a (t1 7 a ||| sb b) 0 33 + 1) 0 33, zup (zup t1 7 a (t1 7 a ||| sb b)) 0 33 (zup t1 7 a (t1 7 a ||| sb b) 0 33 + 1)))
    rw [e1, e2, nI_1]
    refine ⟨nI (m + 1), _, _, by rw [zup_at, if_pos ⟨rfl, rfl⟩], by rw [zup_at, if_pos ⟨rfl, rfl⟩], q, na, n, nr, b3.nw b9 (fun k j k1 k2 k3 => by rw [zup_at, if_neg (by omega), zup_n k2]) (fun k j k1 k2 k3 => by rw [zup_at, if_neg (by omega), zup_n k2]) ?_⟩
    obtain ⟨⟨z1, z2, z3, z4, z5⟩, -⟩ := b3.2.2.2.1
    refine ⟨fun i hi => ?_, by simpa [zup_at] using z2, by simpa [zup_at] using z3, ⟨m + 1, by omega, by rw [zup_at, if_pos ⟨rfl, rfl⟩]⟩, fun c hc => ?_⟩
    · show zup (zup σ1 7 a _) 6 4 _ 6 i = zup (zup t1 7 a _) 0 33 _ 0 (29 + i)
      rw [zup_at (k := 6), zup_at (k := 0)]
      by_cases c : i = 4
      · subst c; rfl
      · rw [if_neg (by omega), if_neg (by omega), zup_n (by decide : 6 ≠ 7), zup_n (by decide : 0 ≠ 7)]; exact z1 i hi
    · obtain ⟨y1, y2, y3⟩ := z5 c hc
      refine ⟨?_, by rw [zup_n (by decide), zup_n (by decide), zup_n (by decide), zup_n (by decide)]; exact y2, by rw [zup_n (by decide), zup_n (by decide)]; exact y3⟩
      rw [zup_n (by decide : 7 ≠ 6), zup_n (by decide : 7 ≠ 0), zup_at, zup_at]
      by_cases cc : c = a
      · rw [if_pos ⟨rfl, cc⟩, if_pos ⟨rfl, cc⟩]
      · rw [if_neg (fun z => cc z.2), if_neg (fun z => cc z.2)]; exact y1
  · simp only [b01_t, show ¬ (1 : Int32) = 0 from by decide, if_false, zbd_s, if_true]; exact ref
