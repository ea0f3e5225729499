/-! somebody is told on both sides -/
theorem tR.p {qt : Nat} {s t s' t' : zS} {v : Nat → Nat} {ns c k l : Nat} (h : tR qt s t v ns) (h8 : v 3 < 8) (hp : tP1 qt s t (v 0) (v 3) c k l) (so : ∀ i j, ¬ (i = 7 ∧ j = 0) → s' (qt + i) j = s (qt + i) j) (s1 : s' (qt + 7) 0 = nI (v 3 + 1)) (to : ∀ k j, 3 ≤ k → ¬ (k = 3 ∧ j = 12) → t' k j = t k j) (t1 : t' 3 12 = nI (v 3 + 1)) : tR qt s' t' (vset v 3 (v 3 + 1)) ns := by
  obtain ⟨⟨b1, ⟨c1, c2, c3, c4, c5, c6⟩, d1, d2, d3, d4, d5, d6⟩, ⟨g1, g2, g3, g4, g5⟩, ⟨a1, a2⟩, hP, ⟨q1, q2⟩, l1, l2⟩ := h
  have v3 : vset v 3 (v 3 + 1) 3 = v 3 + 1 := if_pos rfl
  have vo : ∀ i, i ≠ 3 → vset v 3 (v 3 + 1) i = v i := fun i hi => if_neg hi
  unfold tR tN
  rw [v3, vo 0 (by decide), vo 1 (by decide), vo 2 (by decide), vo 4 (by decide), vo 5 (by decide)]
  refine ⟨⟨⟨b1.1, b1.2.1, b1.2.2.1, by omega, b1.2.2.2.2⟩, ⟨?_, ?_, ?_, s1, ?_, ?_⟩, ?_, ?_, ?_, t1, ?_, ?_⟩, ⟨?_, ?_, ?_, ?_, ?_⟩, ⟨fun a ha => ?_, fun a ha ha2 => ?_⟩, fun p hp2 => ?_, ⟨fun i hi => ?_, fun r hr => ?_⟩, l1, fun h0 => ?_⟩
  · rw [so 1 0 (by omega)]; exact c1
  · rw [so 1 1 (by omega)]; exact c2
  · rw [so 1 2 (by omega)]; exact c3
  · rw [so 14 0 (by omega)]; exact c5
  · rw [so 14 1 (by omega)]; exact c6
  · rw [to 3 9 (by omega) (by omega)]; exact d1
  · rw [to 3 10 (by omega) (by omega)]; exact d2
  · rw [to 3 11 (by omega) (by omega)]; exact d3
  · rw [to 3 13 (by omega) (by omega)]; exact d5
  · rw [to 3 17 (by omega) (by omega)]; exact d6
  · rw [show s' qt 3 = s qt 3 from so 0 3 (by omega)]; exact g1
  · rw [show s' qt 3 = s qt 3 from so 0 3 (by omega), to 3 14 (by omega) (by omega)]; exact g2
  · rw [show s' qt 4 = s qt 4 from so 0 4 (by omega)]; exact g3
  · rw [show s' qt 4 = s qt 4 from so 0 4 (by omega), to 3 15 (by omega) (by omega)]; exact g4
  · rw [show s' qt 5 = s qt 5 from so 0 5 (by omega), to 3 16 (by omega) (by omega)]; exact g5
  · rw [so 2 a (by omega), so 3 a (by omega), so 4 a (by omega), so 5 a (by omega), to 4 _ (by omega) (by omega), to 5 _ (by omega) (by omega), to 6 _ (by omega) (by omega), to 7 _ (by omega) (by omega)]
    exact a1 a ha
  · rw [so 4 a (by omega), so 5 a (by omega)]
    exact a2 a ha ha2
  · have hh : ∃ c k l, tP1 qt s t (v 0) p c k l := by
      by_cases e : p = v 3
      · subst e; exact ⟨c, k, l, hp⟩
      · exact hP p (by omega)
    obtain ⟨c, k, l, h⟩ := hh
    exact ⟨c, k, l, h.c (Nat.le_refl _) (fun i h1 h2 => so i p (by omega)) (fun i hi => so 13 _ (by omega)) (fun i h1 h2 => to i _ (by omega) (by omega)) (fun i hi => to 13 _ (by omega) (by omega))⟩
  · rw [so 16 i (by omega), to 15 _ (by omega) (by omega)]; exact q1 i hi
  · obtain ⟨a, b, h⟩ := q2 r hr
    exact ⟨a, b, h.c (fun j hj => so 15 j (by omega)) (fun j hj => so 16 j (by omega)) (fun j hj => to 14 _ (by omega) (by omega))⟩
  · rw [so 15 _ (by omega), to 14 _ (by omega) (by omega)]; exact l2 h0
section
variable {f : Nat → Int32} {n qt : Nat} {s0 t0 : zS} {v : Nat → Nat} {d : Int32} {p ns : Nat} {s t : zS}
theorem e_Person (he : en f n qt s0 t0) (h : sA f n qt s0 t0 v d p ns s t) (hk : tK f n p ≠ 0) (x : Int32) : ∃ r s' b t', FX3_readPerson 4 x s = some (r, s') ∧ FX8_readPerson 0 x t = some (b, t') ∧ lP f n qt s0 t0 v d p ns s' t' := by
  obtain ⟨n7, hq, -⟩ := id he
  obtain ⟨⟨v10, v16, v26, v38, -⟩, ⟨-, -, -, c4, -⟩, ⟨-, -, -, m4, -⟩⟩ := h.2.2.2.2.2.1.1
  have hp := h.1.2.2.2.1
  have hE2 := (tEB (f := f) hp).2 hk
  have l8 : ∀ i, 8 ≤ i → i ≤ 12 → ln 0 (qt + i) = 8 := by
    intro i h1 h2
    have : i = 8 ∨ i = 9 ∨ i = 10 ∨ i = 11 ∨ i = 12 := by omega
    rcases hq with rfl | rfl <;> rcases this with rfl | rfl | rfl | rfl | rfl <;> rfl
  have k121 : kFl f n qt s0 (fun s => FX3_readPerson_b121 4 (qt + 7) s) := by
    simp only [FX3_readPerson_b121, FX3_readPerson_b138]
    exact kFl.if0 kFl.sm
  have kEnd : ∀ x4 x5 : Int32, kFl f n qt s0 (fun s => if x5 = 0 then zbd (FX3_fail 4 1 s) (fun _ σ_28 => FX3_readPerson_b121 4 (qt + 7) σ_28) else if x4 ≤ x5 then FX3_readPerson_b121 4 (qt + 7) s else zbd (FX3_fail 4 6 s) (fun _ σ_26 => FX3_readPerson_b121 4 (qt + 7) σ_26)) := fun x4 x5 => kFl.iff (kFl.bd k_fail (fun _ => k121)) (kFl.iff k121 (kFl.bd k_fail (fun _ => k121)))
  unfold FX3_readPerson FX8_readPerson
  rw [h.1.ptr hq, c4, zlet_eq]
  rcases h.first he hk (i := 3) (M := 8) (by decide) (by decide) v38 m4 with ⟨va, s1, t1, g1, g2, A1, g4, g5⟩ | ⟨s1, t1, g1, g2, B1⟩
  rotate_left
  · rw [show FX3_readFirst 4 (nI (v 3)) 8 s = _ from g1, zbd_s, show FX8_another 0 3 8 t = _ from g2, zbd_s, if_pos rfl]
    clear g1
    revert s1
    refine sB.finA ?_ rfl (fun s' B => B)
    exact kFl.bd (k_put hq (by omega)) (fun _ => kFl.bd (k_num he) (fun _ => kFl.bd (k_put hq (by omega)) (fun _ => kFl.bd (k_num he) (fun _ => kFl.lt (fun _ => kFl.bd (k_put hq (by omega)) (fun _ => kFl.bd (k_num he) (fun _ => kFl.bd (k_put hq (by omega)) (fun _ => kFl.bd (k_route _) (fun _ => kFl.lt (fun _ => kFl.bd (k_put hq (by omega)) (fun _ => kEnd _ _)))))))))))
  rw [show FX3_readFirst 4 (nI (v 3)) 8 s = _ from g1, zbd_s, show FX8_another 0 3 8 t = _ from g2, zbd_s, if_neg (by decide)]
  have t312 : t1 3 12 = nI (v 3) := by rw [g5 3 12 (by omega)]; exact m4
  have zX : ∀ (k : Nat), 8 ≤ k → k ≤ 12 → ∀ (β : Type) (r : Option β), zin (ln 1 (0 + k)) (nI (8 + v 3)) r = r := by
    intro k h1 h2 β r
    have : ln 1 (0 + k) = 16 := by
      have : k = 8 ∨ k = 9 ∨ k = 10 ∨ k = 11 ∨ k = 12 := by omega
      rcases this with rfl | rfl | rfl | rfl | rfl <;> rfl
    rw [this]; exact zin_n r (by omega : 8 + v 3 < 16) (by decide)
  have z12 : ∀ (β : Type) (r : Option β), zin (ln 1 (0 + 3)) 12 r = r := fun β r => zin_n (p := 12) r (by decide : 12 < 18) (by decide)
  rw [z12, zlet_eq, show (12 : Int32).toNatClampNeg = 12 from rfl, show (0 + 3 : Nat) = 3 from rfl, t312, show (8 : Int32) + nI (v 3) = nI (8 + v 3) from nI_add 8 (v 3), nI_clamp (by omega : 8 + v 3 < 2 ^ 31), zX 8 (by decide) (by decide), zlet_eq]
  have cP : ∀ (i : Nat) (y : Int32) (s : zS), 8 ≤ i → i ≤ 12 → FX7_put (qt + i) (nI (v 3)) y s = some (0, zup s (qt + i) (v 3) y) := fun i y s h1 h2 => by rw [fput', l8 i h1 h2, pt_n va (by decide)]
  have mf : ∀ k, 8 ≤ k → k ≤ 12 → mfr k (8 + v 3) = true := fun k h1 h2 => by unfold mfr; simp; omega
  have nt : ∀ k, 8 ≤ k → k ≤ 12 → ¬ trc v ns k (8 + v 3) := fun k h1 h2 => by unfold trc; omega
  have nc : ∀ i, 8 ≤ i → i ≤ 12 → ¬ tsc v ns i (v 3) := fun i h1 h2 => by unfold tsc; omega
  -- the reference's end, behind a FAULT
  have mEnd : ∀ (y : Nat) (t : zS), ¬ t 0 25 = 0 → FX8_readPerson_b220 0 (nI (8 + v 3)) (nI y) t = some (0, zup (zup t 12 (8 + v 3) (nI y)) 3 12 (zup t 12 (8 + v 3) (nI y) 3 12 + 1)) := by
    intro y t ht
    unfold FX8_readPerson_b220 FX8_readPerson_b243
    rw [if_neg ht, zX 12 (by decide) (by decide), zlet_eq, z12, z12, zlet_eq, nI_clamp (by omega : 8 + v 3 < 2 ^ 31)]
    rfl
  have mLp : ∀ (t : zS), ¬ t 0 25 = 0 → zlp (fun q : Int32 × zS => FX8_readPerson_L90 0 (nI (8 + v 3)) q.1 q.2) (0, t) = some (0, zup (zup t 12 (8 + v 3) 0) 3 12 (zup t 12 (8 + v 3) 0 3 12 + 1)) := by
    intro t ht
    refine (zlp_exit (x := FX8_readPerson_b220 0 (nI (8 + v 3)) 0 t) ?_).trans (mEnd 0 t ht)
    show FX8_readPerson_L90 0 (nI (8 + v 3)) 0 t = _
    unfold FX8_readPerson_L90
    rw [if_neg ht]
  have bmu : ∀ (s' t : zS) (y z : Int32), sB f n qt s0 t0 s' t → sB f n qt s0 t0 s' (zup (zup t 12 (8 + v 3) y) 3 12 z) := fun s' t y z B => (B.mu (mf 12 (by decide) (by decide)) (by decide)).mu rfl (by decide)
  have A1' := (A1.fc (i := 8) (j := v 3) (x := x) he (by decide) (nc 8 (by decide) (by decide))).fm (k := 8) (j := 8 + v 3) (x := x) (by decide) (mf 8 (by decide) (by decide)) (nt 8 (by decide) (by decide))
  rw [show qt + 7 + 1 = qt + 8 from rfl, cP 8 _ _ (by decide) (by decide), zbd_s]
  rcases A1'.num he (lo := 1) (hi := 60) (by decide) (by decide) with ⟨c, s2, t2, cl, ch, u1, u2, k2, A2, fs2, ft2⟩ | ⟨c, s2, t2, u1, u2, B2⟩
  rotate_left
  · rw [show FX3_readNumber 4 1 60 _ = _ from u1, zbd_s, show FX8_readNumber 0 1 60 _ = _ from u2, zbd_s, zX 9 (by decide) (by decide), zlet_eq, gRn0 (by rw [zup_n (by decide)]; exact B2.b), zbd_s, zX 10 (by decide) (by decide), zlet_eq, gRn0 (by rw [zup_n (by decide), zup_n (by decide)]; exact B2.b), zbd_s, zX 11 (by decide) (by decide), zlet_eq, zlet_eq, if_neg (by rw [zup_n (by decide), zup_n (by decide), zup_n (by decide)]; exact B2.b), mLp _ (by rw [zup_n (by decide), zup_n (by decide), zup_n (by decide)]; exact B2.b)]
    clear u1
    revert s2
    refine sB.finA ?_ rfl (fun s' B => bmu _ _ _ _ (((B.mu (mf 9 (by decide) (by decide)) (by decide)).mu (mf 10 (by decide) (by decide)) (by decide)).mu (mf 11 (by decide) (by decide)) (by decide)))
    exact kFl.bd (k_put hq (by omega)) (fun _ => kFl.bd (k_num he) (fun _ => kFl.lt (fun _ => kFl.bd (k_put hq (by omega)) (fun _ => kFl.bd (k_num he) (fun _ => kFl.bd (k_put hq (by omega)) (fun _ => kFl.bd (k_route _) (fun _ => kFl.lt (fun _ => kFl.bd (k_put hq (by omega)) (fun _ => kEnd _ _)))))))))
  rw [show FX3_readNumber 4 1 60 _ = _ from u1, zbd_s, show FX8_readNumber 0 1 60 _ = _ from u2, zbd_s, zX 9 (by decide) (by decide), zlet_eq, show qt + 7 + 2 = qt + 9 from rfl, cP 9 _ _ (by decide) (by decide), zbd_s]
  have A2' := (A2.fc (i := 9) (j := v 3) (x := nI c) he (by decide) (nc 9 (by decide) (by decide))).fm (k := 9) (j := 8 + v 3) (x := nI c) (by decide) (mf 9 (by decide) (by decide)) (nt 9 (by decide) (by decide))
  rcases A2'.num he (lo := 0) (hi := 12) (by decide) (by decide) with ⟨k, s3, t3, -, kh, w1, w2, k3, A3, fs3, ft3⟩ | ⟨k, s3, t3, w1, w2, B3⟩
  rotate_left
  · rw [show FX3_readNumber 4 0 12 _ = _ from w1, zbd_s, show FX8_readNumber 0 0 12 _ = _ from w2, zbd_s, zX 10 (by decide) (by decide), zlet_eq, zlet_eq, gRn0 (by rw [zup_n (by decide)]; exact B3.b), zbd_s, zX 11 (by decide) (by decide), zlet_eq, zlet_eq, if_neg (by rw [zup_n (by decide), zup_n (by decide)]; exact B3.b), mLp _ (by rw [zup_n (by decide), zup_n (by decide)]; exact B3.b)]
    clear w1
    revert s3
    refine sB.finA ?_ rfl (fun s' B => bmu _ _ _ _ ((B.mu (mf 10 (by decide) (by decide)) (by decide)).mu (mf 11 (by decide) (by decide)) (by decide)))
    exact kFl.bd (k_put hq (by omega)) (fun _ => kFl.bd (k_num he) (fun _ => kFl.bd (k_put hq (by omega)) (fun _ => kFl.bd (k_route _) (fun _ => kFl.lt (fun _ => kFl.bd (k_put hq (by omega)) (fun _ => kEnd _ _))))))
  rw [show FX3_readNumber 4 0 12 _ = _ from w1, zbd_s, show FX8_readNumber 0 0 12 _ = _ from w2, zbd_s, zX 10 (by decide) (by decide), zlet_eq, zlet_eq, show qt + 7 + 3 = qt + 10 from rfl, cP 10 _ _ (by decide) (by decide), zbd_s]
  have A3' := (A3.fc (i := 10) (j := v 3) (x := nI k) he (by decide) (nc 10 (by decide) (by decide))).fm (k := 10) (j := 8 + v 3) (x := nI k) (by decide) (mf 10 (by decide) (by decide)) (nt 10 (by decide) (by decide))
  rcases A3'.num he (lo := 0) (hi := 9) (by decide) (by decide) with ⟨o, s4, t4, -, oh, y1, y2, k4, A4, fs4, ft4⟩ | ⟨o, s4, t4, y1, y2, B4⟩
  rotate_left
  · rw [show FX3_readNumber 4 0 9 _ = _ from y1, zbd_s, show FX8_readNumber 0 0 9 _ = _ from y2, zbd_s, zX 11 (by decide) (by decide), zlet_eq, zlet_eq, if_neg (by rw [zup_n (by decide)]; exact B4.b), mLp _ (by rw [zup_n (by decide)]; exact B4.b)]
    clear y1
    revert s4
    refine sB.finA ?_ rfl (fun s' B => bmu _ _ _ _ (B.mu (mf 11 (by decide) (by decide)) (by decide)))
    exact kFl.bd (k_put hq (by omega)) (fun _ => kFl.bd (k_route _) (fun _ => kFl.lt (fun _ => kFl.bd (k_put hq (by omega)) (fun _ => kEnd _ _))))
  rw [show FX3_readNumber 4 0 9 _ = _ from y1, zbd_s, show FX8_readNumber 0 0 9 _ = _ from y2, zbd_s, zX 11 (by decide) (by decide), zlet_eq, zlet_eq, show qt + 7 + 4 = qt + 11 from rfl, cP 11 _ _ (by decide) (by decide), zbd_s]
  have A4' := (A4.fc (i := 11) (j := v 3) (x := nI o) he (by decide) (nc 11 (by decide) (by decide))).fm (k := 11) (j := 8 + v 3) (x := nI o) (by decide) (mf 11 (by decide) (by decide)) (nt 11 (by decide) (by decide))
  have b4 : zup t4 (0 + 11) (8 + v 3) (nI o) 0 25 = 0 := A4'.2.2.2.1
  rw [if_pos b4]
  generalize hT4 : zup t4 (0 + 11) (8 + v 3) (nI o) = t4' at *
  generalize hS4 : zup s4 (qt + 11) (v 3) (nI o) = s4' at *
  have hE1 := tEB (f := f) A1.1.2.2.2.1
  have hE3 := tEB (f := f) A2.1.2.2.2.1
  have hE4 := tEB (f := f) A3.1.2.2.2.1
  by_cases e2 : tK f n (tE f n (tE f n (tE f n (tE f n p)))) = 2
  rotate_left
  · -- no ROUTE
    obtain ⟨s5, t5, q1, q2, B5⟩ := (A4'.fc (i := 12) (j := v 3) (x := 0) he (by decide) (nc 12 (by decide) (by decide))).fail (k := 1) (by decide)
    have cR : FX3_readRoute 4 (nI (v 3)) s4' = some (0, s4') := by
      unfold FX3_readRoute
      rw [zlet_eq, zlet_eq, zlet_eq]
      refine zlp_end ?_
      show FX3_readRoute_L7 4 (nI (v 3)) 0 0 0 s4' = _
      unfold FX3_readRoute_L7 FX3_readRoute_b135
      rw [if_neg (by decide), if_pos A4'.2.2.1, if_neg (show ¬ s4' 4 3 = 2 from fun z => e2 ((A4'.k3 2 (by decide)).mp z))]
      rfl
    rw [cR, zbd_s, zlet_eq, show qt + 7 + 5 = qt + 12 from rfl, cP 12 _ _ (by decide) (by decide), zbd_s, if_pos rfl, q1, zbd_s, if_neg (show ¬ t4' 0 21 = 2 from fun z => e2 (tJ_2.mp ((A4'.m3 2 (by decide)).mp z))), q2, zbd_s, mLp t5 B5.b]
    exact B5.fin k121 rfl (fun s' B => bmu _ _ _ _ B)
  · rw [if_pos (show t4' 0 21 = 2 from (A4'.m3 2 (by decide)).mpr (tJ_2.mpr e2))]
    obtain ⟨l, s5, t5, r1, r2, r3, r4⟩ := e_Route he va 12 0 _ s4' t4' 0 rfl A4' (fun j hj => by omega) (fun _ => rfl) (fun z => by omega)
    have cR : FX3_readRoute 4 (nI (v 3)) s4' = some (nI l, s5) := by
      unfold FX3_readRoute
      rw [zlet_eq, zlet_eq, zlet_eq]
      exact r1
    rw [cR, zbd_s, zlet_eq, show zlp (fun q : Int32 × zS => FX8_readPerson_L90 0 (nI (8 + v 3)) q.1 q.2) (0, t4') = _ from r2, show qt + 7 + 5 = qt + 12 from rfl, cP 12 _ _ (by decide) (by decide), zbd_s]
    rcases r4 with ⟨p5, A5, q1, -, q2, q3, q4, q5⟩ | B5
    rotate_left
    · rw [mEnd l t5 B5.b]
      obtain ⟨⟨p6, C6⟩, B6⟩ := id B5
      have B7 : sB f n qt s0 t0 (zup s5 (qt + 12) (v 3) (nI l)) t5 := ⟨⟨p6, C6.up hq (by omega)⟩, by rw [zup_n (by omega)]; exact B6⟩
      exact B7.fin (kEnd _ _) rfl (fun s' B => bmu _ _ _ _ B)
    · have l1 := q2 e2
      have A5' := A5.fc (i := 12) (j := v 3) (x := nI l) he (by decide) (nc 12 (by decide) (by decide))
      -- what has been told of him
      have S8 : s5 (qt + 8) (v 3) = x := by
        rw [q4 8 _ (by decide), ← hS4, zup_n (by omega), fs4 (qt + 8) _ (by omega), zup_n (by omega), fs3 (qt + 8) _ (by omega), zup_n (by omega), fs2 (qt + 8) _ (by omega), zup_at, if_pos ⟨rfl, rfl⟩]
      have S9 : s5 (qt + 9) (v 3) = nI c := by
        rw [q4 9 _ (by decide), ← hS4, zup_n (by omega), fs4 (qt + 9) _ (by omega), zup_n (by omega), fs3 (qt + 9) _ (by omega), zup_at, if_pos ⟨rfl, rfl⟩]
      have S10 : s5 (qt + 10) (v 3) = nI k := by
        rw [q4 10 _ (by decide), ← hS4, zup_n (by omega), fs4 (qt + 10) _ (by omega), zup_at, if_pos ⟨rfl, rfl⟩]
      have S11 : s5 (qt + 11) (v 3) = nI o := by
        rw [q4 11 _ (by decide), ← hS4, zup_at, if_pos ⟨rfl, rfl⟩]
      have T8 : t5 8 (8 + v 3) = x := by
        rw [q5 8 _ (by decide) (by decide), ← hT4, zup_n (by decide), ft4 8 _ (by omega), zup_n (by decide), ft3 8 _ (by omega), zup_n (by decide), ft2 8 _ (by omega), zup_at, if_pos ⟨rfl, rfl⟩]
      have T9 : t5 9 (8 + v 3) = nI c := by
        rw [q5 9 _ (by decide) (by decide), ← hT4, zup_n (by decide), ft4 9 _ (by omega), zup_n (by decide), ft3 9 _ (by omega), zup_at, if_pos ⟨rfl, rfl⟩]
      have T10 : t5 10 (8 + v 3) = nI k := by
        rw [q5 10 _ (by decide) (by decide), ← hT4, zup_n (by decide), ft4 10 _ (by omega), zup_at, if_pos ⟨rfl, rfl⟩]
      have T11 : t5 11 (8 + v 3) = nI o := by
        rw [q5 11 _ (by decide) (by decide), ← hT4, zup_at, if_pos ⟨rfl, rfl⟩]
      unfold FX8_readPerson_b220
      rw [if_pos A5.2.2.2.1, zX 10 (by decide) (by decide), show (0 + 10 : Nat) = 10 from rfl, nI_clamp (by omega : 8 + v 3 < 2 ^ 31), T10, if_neg (nI_ne0 (by omega) (by omega))]
      by_cases ck : k ≤ l
      rotate_left
      · obtain ⟨s6, t6, w3, w4, B6⟩ := A5'.fail (k := 6) (by decide)
        rw [if_neg (nI_ge (by omega) (by omega)), if_neg (nI_ge (by omega) (by omega)), w3, zbd_s, w4, zbd_s]
        have hb := mEnd l t6 B6.b
        unfold FX8_readPerson_b220 at hb
        rw [if_neg B6.b] at hb
        exact B6.fin k121 hb (fun s' B => bmu _ _ _ _ B)
      · rw [if_pos (nI_le ck (by omega)), if_pos (nI_le ck (by omega))]
        unfold FX3_readPerson_b121 FX3_readPerson_b138 FX8_readPerson_b243
        have e7 : zup s5 (qt + 12) (v 3) (nI l) (qt + 7) 0 = nI (v 3) := A5'.2.2.2.2.2.1.1.2.1.2.2.2.1
        have f7 : t5 3 12 = nI (v 3) := A5'.2.2.2.2.2.1.1.2.2.2.2.2.1
        rw [if_pos A5'.2.2.1, zlet_eq, e7, nI_1, zX 12 (by decide) (by decide), zlet_eq, z12, z12, zlet_eq, nI_clamp (by omega : 8 + v 3 < 2 ^ 31), show (0 + 12 : Nat) = 12 from rfl, show (0 + 3 : Nat) = 3 from rfl, show (12 : Int32).toNatClampNeg = 12 from rfl, zup_n (by decide : 3 ≠ 12), f7, nI_1]
        have A6 := A5'.fm (k := 12) (j := 8 + v 3) (x := nI l) (by decide) (mf 12 (by decide) (by decide)) (nt 12 (by decide) (by decide))
        obtain ⟨a1, a2, a3, a4, a5, a6, a7⟩ := A6
        have tp : tP1 qt (zup s5 (qt + 12) (v 3) (nI l)) (zup t5 12 (8 + v 3) (nI l)) (v 0) (v 3) c k l := by
          refine ⟨⟨?_, ?_, ?_, ?_, ?_⟩, ⟨?_, ?_, ?_⟩, ⟨cl, ch, by omega, r3, ck⟩, fun i hi => ?_⟩
          · rw [zup_n (by omega), zup_n (by decide), S8, T8]
          · rw [zup_n (by omega), zup_n (by decide), S9, T9]
          · rw [zup_n (by omega), zup_n (by decide), S10, T10]
          · rw [zup_n (by omega), zup_n (by decide), S11, T11]
          · rw [zup_at, if_pos ⟨rfl, rfl⟩, zup_at, if_pos ⟨rfl, rfl⟩]
          · rw [zup_n (by omega), S9]
          · rw [zup_n (by omega), S10]
          · rw [zup_at, if_pos ⟨rfl, rfl⟩]
          · rw [zup_n (by decide), zup_n (by omega)]; exact q3 i hi
        refine ⟨_, _, _, _, rfl, rfl, Or.inl ⟨vset v 3 (v 3 + 1), p5, ns, ⟨a1.up hq (by omega), a2.up (by decide) rfl, ?_, ?_, ?_, ?_, a7⟩, by omega, fun z => z⟩⟩
        · rw [zup_n (by omega)]; exact a3
        · rw [zup_n (by decide)]; exact a4
        · rw [zup_n (by omega)]; exact a5
        · refine a6.p va tp (fun i j hij => ?_) ?_ (fun a b h1 h2 => ?_) ?_
          · rw [zup_at, if_neg (by omega)]
          · rw [zup_at, if_pos ⟨rfl, rfl⟩]
          · rw [zup_at, if_neg h2]
          · rw [zup_at, if_pos ⟨rfl, rfl⟩]
end
