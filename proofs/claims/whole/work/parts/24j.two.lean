/-! AISLES, WAYS, MIRRORS are told on both sides -/
def vset (v : Nat → Nat) (i x : Nat) : Nat → Nat := fun j => if j = i then x else v j
/-- which cells tell, in the class's shop, in the reference's upper halves -/
def tsc (v : Nat → Nat) (ns i j : Nat) : Prop := (i = 0 ∧ 3 ≤ j ∧ j ≤ 5) ∨ (i = 1 ∧ j ≤ 2) ∨ ((i = 2 ∨ i = 3) ∧ j < v 0) ∨ ((i = 4 ∨ i = 5) ∧ j < 10) ∨ (i = 7 ∧ j = 0) ∨ (8 ≤ i ∧ i ≤ 12 ∧ j < v 3) ∨ (i = 13 ∧ j < 12 * v 3) ∨ (i = 14 ∧ j ≤ 1) ∨ (i = 15 ∧ j < v 4) ∨ (i = 16 ∧ j < ns)
def trc (v : Nat → Nat) (ns k j : Nat) : Prop := (k = 3 ∧ 9 ≤ j) ∨ (4 ≤ k ∧ k ≤ 7 ∧ 10 ≤ j ∧ j < 10 + v 0) ∨ (8 ≤ k ∧ k ≤ 12 ∧ 8 ≤ j ∧ j < 8 + v 3) ∨ (k = 13 ∧ 96 ≤ j ∧ j < 96 + 12 * v 3) ∨ (k = 14 ∧ 4 ≤ j ∧ j < 4 + v 4) ∨ (k = 15 ∧ 700 ≤ j ∧ j < 700 + ns)
theorem tP1.c {qt : Nat} {s t s' t' : zS} {na na' p c k l : Nat} (h : tP1 qt s t na p c k l) (hna : na ≤ na') (hs : ∀ i, 8 ≤ i → i ≤ 12 → s' (qt + i) p = s (qt + i) p) (hs2 : ∀ i, i < 12 → s' (qt + 13) (12 * p + i) = s (qt + 13) (12 * p + i)) (ht : ∀ i, 8 ≤ i → i ≤ 12 → t' i (8 + p) = t i (8 + p)) (ht2 : ∀ i, i < 12 → t' 13 (96 + (12 * p + i)) = t 13 (96 + (12 * p + i))) : tP1 qt s' t' na' p c k l := by
  obtain ⟨⟨h1, h2, h3, h4, h5⟩, ⟨h6, h7, h8⟩, h9, h10⟩ := h
  refine ⟨⟨?_, ?_, ?_, ?_, ?_⟩, ⟨?_, ?_, ?_⟩, h9, fun i hi => ?_⟩
  · rw [hs 8 (by decide) (by decide), ht 8 (by decide) (by decide)]; exact h1
  · rw [hs 9 (by decide) (by decide), ht 9 (by decide) (by decide)]; exact h2
  · rw [hs 10 (by decide) (by decide), ht 10 (by decide) (by decide)]; exact h3
  · rw [hs 11 (by decide) (by decide), ht 11 (by decide) (by decide)]; exact h4
  · rw [hs 12 (by decide) (by decide), ht 12 (by decide) (by decide)]; exact h5
  · rw [hs 9 (by decide) (by decide)]; exact h6
  · rw [hs 10 (by decide) (by decide)]; exact h7
  · rw [hs 12 (by decide) (by decide)]; exact h8
  · obtain ⟨a1, a, a2, a3⟩ := h10 i hi
    have : i < 12 := by omega
    exact ⟨by rw [hs2 i this, ht2 i this]; exact a1, a, by omega, by rw [hs2 i this]; exact a3⟩
theorem tQ1.c {qt : Nat} {s t s' t' : zS} {ns r a b : Nat} (h : tQ1 qt s t ns r a b) (hs : ∀ j, j ≤ r → s' (qt + 15) j = s (qt + 15) j) (hs2 : ∀ j, j < ns → s' (qt + 16) j = s (qt + 16) j) (ht : ∀ j, j ≤ r → t' 14 (4 + j) = t 14 (4 + j)) : tQ1 qt s' t' ns r a b := by
  obtain ⟨h1, h2, h3, h4, h5, h6, hh, h7⟩ := h
  exact ⟨h1, h2, h3, fun h0 => by rw [hs _ (by omega), ht _ (by omega)]; exact h4 h0, by rw [hs _ (by omega)]; exact h5, by rw [ht _ (by omega)]; exact h6, hh, h7.cg (fun i hi => (hs2 _ (by omega)).symm)⟩
theorem tR.ext {qt : Nat} {s t s' t' : zS} {v : Nat → Nat} {ns : Nat} (h : tR qt s t v ns) (hs : ∀ i j, tsc v ns i j → s' (qt + i) j = s (qt + i) j) (ht : ∀ k j, trc v ns k j → t' k j = t k j) : tR qt s' t' v ns := by
  obtain ⟨⟨b1, ⟨c1, c2, c3, c4, c5, c6⟩, d1, d2, d3, d4, d5, d6⟩, ⟨g1, g2, g3, g4, g5⟩, ⟨a1, a2⟩, hP, ⟨q1, q2⟩, l1, l2⟩ := h
  refine ⟨⟨b1, ⟨?_, ?_, ?_, ?_, ?_, ?_⟩, ?_, ?_, ?_, ?_, ?_, ?_⟩, ⟨?_, ?_, ?_, ?_, ?_⟩, ⟨fun a ha => ?_, fun a ha ha2 => ?_⟩, fun p hp => ?_, ⟨fun i hi => ?_, fun r hr => ?_⟩, l1, fun h0 => ?_⟩
  · rw [hs 1 0 (by unfold tsc; omega)]; exact c1
  · rw [hs 1 1 (by unfold tsc; omega)]; exact c2
  · rw [hs 1 2 (by unfold tsc; omega)]; exact c3
  · rw [hs 7 0 (by unfold tsc; omega)]; exact c4
  · rw [hs 14 0 (by unfold tsc; omega)]; exact c5
  · rw [hs 14 1 (by unfold tsc; omega)]; exact c6
  · rw [ht 3 9 (by unfold trc; omega)]; exact d1
  · rw [ht 3 10 (by unfold trc; omega)]; exact d2
  · rw [ht 3 11 (by unfold trc; omega)]; exact d3
  · rw [ht 3 12 (by unfold trc; omega)]; exact d4
  · rw [ht 3 13 (by unfold trc; omega)]; exact d5
  · rw [ht 3 17 (by unfold trc; omega)]; exact d6
  · rw [show s' qt 3 = s qt 3 from hs 0 3 (by unfold tsc; omega)]; exact g1
  · rw [show s' qt 3 = s qt 3 from hs 0 3 (by unfold tsc; omega), ht 3 14 (by unfold trc; omega)]; exact g2
  · rw [show s' qt 4 = s qt 4 from hs 0 4 (by unfold tsc; omega)]; exact g3
  · rw [show s' qt 4 = s qt 4 from hs 0 4 (by unfold tsc; omega), ht 3 15 (by unfold trc; omega)]; exact g4
  · rw [show s' qt 5 = s qt 5 from hs 0 5 (by unfold tsc; omega), ht 3 16 (by unfold trc; omega)]; exact g5
  · obtain ⟨b10, -⟩ := b1
    rw [hs 2 a (by unfold tsc; omega), hs 3 a (by unfold tsc; omega), hs 4 a (by unfold tsc; omega), hs 5 a (by unfold tsc; omega), ht 4 (10 + a) (by unfold trc; omega), ht 5 (10 + a) (by unfold trc; omega), ht 6 (10 + a) (by unfold trc; omega), ht 7 (10 + a) (by unfold trc; omega)]
    exact a1 a ha
  · rw [hs 4 a (by unfold tsc; omega), hs 5 a (by unfold tsc; omega)]
    exact a2 a ha ha2
  · obtain ⟨c, k, l, h⟩ := hP p hp
    exact ⟨c, k, l, h.c (Nat.le_refl _) (fun i h1 h2 => hs i p (by unfold tsc; omega)) (fun i hi => hs 13 _ (by unfold tsc; omega)) (fun i h1 h2 => ht i _ (by unfold trc; omega)) (fun i hi => ht 13 _ (by unfold trc; omega))⟩
  · rw [hs 16 i (by unfold tsc; omega), ht 15 (700 + i) (by unfold trc; omega)]; exact q1 i hi
  · obtain ⟨a, b, h⟩ := q2 r hr
    exact ⟨a, b, h.c (fun j hj => hs 15 j (by unfold tsc; omega)) (fun j hj => hs 16 j (by unfold tsc; omega)) (fun j hj => ht 14 _ (by unfold trc; omega))⟩
  · rw [hs 15 _ (by unfold tsc; omega), ht 14 _ (by unfold trc; omega)]; exact l2 h0
section
variable {f : Nat → Int32} {n qt : Nat} {s0 t0 : zS} {v : Nat → Nat} {d : Int32} {p ns : Nat} {s t : zS}
theorem cS.pt (h : cS f n qt s0 p s) (hq : qt = 46 ∨ qt = 64) : (s 4 1).toNatClampNeg = qt := by rw [h.2.1, nI_clamp (by omega)]
theorem kdq (hq : qt = 46 ∨ qt = 64) : (kd 0 qt == 5) = true := by rcases hq with rfl | rfl <;> rfl
theorem mS.up {k j : Nat} {x : Int32} (h : mS f n t0 p t) (hk : k ≠ 0) (hm : mfr k j = true) : mS f n t0 p (zup t k j x) := by
  refine ⟨h.1.up hm, ?_⟩
  rw [zup_n (fun z => hk z.symm)]
  exact h.2
/-- a cell that tells nothing yet -/
theorem sA.fm {k j : Nat} {x : Int32} (h : sA f n qt s0 t0 v d p ns s t) (hk : k ≠ 0) (hm : mfr k j = true) (hj : ¬ trc v ns k j) : sA f n qt s0 t0 v d p ns s (zup t k j x) := by
  obtain ⟨h1, h2, h3, h4, h5, h6, h7⟩ := h
  exact ⟨h1, h2.up hk hm, h3, by rw [zup_n (fun z => hk z.symm)]; exact h4, h5, h6.ext (fun _ _ _ => rfl) (fun a b hab => by rw [zup_at, if_neg (fun z => hj (by rw [← z.1, ← z.2]; exact hab))]), h7⟩
theorem sA.fc {i j : Nat} {x : Int32} (he : en f n qt s0 t0) (h : sA f n qt s0 t0 v d p ns s t) (hi : i < 18) (hj : ¬ tsc v ns i j) : sA f n qt s0 t0 v d p ns (zup s (qt + i) j x) t := by
  obtain ⟨-, hq, -⟩ := he
  obtain ⟨h1, h2, h3, h4, h5, h6, h7⟩ := h
  have e4 : ∀ y, zup s (qt + i) j x 4 y = s 4 y := fun y => by rw [zup_n (by omega)]
  exact ⟨h1.up hq (by omega), h2, by rw [e4]; exact h3, h4, by rw [e4]; exact h5, h6.ext (fun a b hab => by rw [zup_at, if_neg (fun z => hj (by rw [← (show a = i by omega), ← z.2]; exact hab))]) (fun _ _ _ => rfl), h7⟩
/-- one more of a kind: behind the line's first word -/
theorem sA.first (he : en f n qt s0 t0) (h : sA f n qt s0 t0 v d p ns s t) (hk : tK f n p ≠ 0) {i M : Nat} (hi : i ≤ 4) (hM : M < 100) (hv : v i ≤ M) (hm : t 3 (9 + i) = nI (v i)) : (v i < M ∧ ∃ s' t', FX3_readFirst 4 (nI (v i)) (nI M) s = some (0, s') ∧ FX8_another 0 (nI i) (nI M) t = some (1, t') ∧ sA f n qt s0 t0 v d (tE f n p) ns s' t' ∧ (∀ x j, ¬ (x = 4 ∧ 3 ≤ j ∧ j ≤ 6) → s' x j = s x j) ∧ ∀ x j, ¬ (x = 0 ∧ (j = 19 ∨ (21 ≤ j ∧ j ≤ 24))) → t' x j = t x j) ∨ ∃ s' t', FX3_readFirst 4 (nI (v i)) (nI M) s = some (0, s') ∧ FX8_another 0 (nI i) (nI M) t = some (0, t') ∧ sB f n qt s0 t0 s' t' := by
  unfold FX3_readFirst FX3_readFirst_b17 FX8_another FX8_another_b18
  rw [show (0 + 3 : Nat) = 3 from rfl, show (9 : Int32) + nI i = nI (9 + i) from nI_add 9 i, show ln 1 3 = 18 from rfl, zin_n _ (by omega : 9 + i < 18) (by decide), nI_clamp (by omega : 9 + i < 2 ^ 31), hm, if_pos h.2.2.2.1]
  by_cases c : v i < M
  · left
    obtain ⟨s', t', g1, g2, g3, g4, g5⟩ := h.tok he
    refine ⟨c, s', t', ?_, ?_, g3, g4, g5⟩
    · rw [if_pos (nI_lt c (by omega)), g1, zbd_s]
    · rw [if_neg (fun z => by have := (nI_eq (by omega) (by omega)).mp z; omega), g2, zbd_s, zgd_n1]
  · right
    obtain ⟨s', t', g1, g2, g3⟩ := h.fail (k := 2) (by decide)
    refine ⟨s', t', ?_, ?_, g3⟩
    · rw [if_neg (nI_nlt (by omega) (by omega)), g1, zbd_s]
    · rw [if_pos (by rw [show v i = M by omega]), g2, zbd_s, if_neg g3.b, zgd_n0]
/-- one line has been told, or there is a FAULT -/
def lP (f : Nat → Int32) (n qt : Nat) (s0 t0 : zS) (v : Nat → Nat) (d : Int32) (p ns : Nat) (s' t' : zS) : Prop := (∃ v' p' ns', sA f n qt s0 t0 v' d p' ns' s' t' ∧ tB f n p < tB f n p' ∧ (v 5 = ns → v' 5 = ns')) ∨ sB f n qt s0 t0 s' t'
theorem e_Aisle (he : en f n qt s0 t0) (h : sA f n qt s0 t0 v d p ns s t) (hk : tK f n p ≠ 0) : ∃ r s' b t', FX3_readAisle 4 s = some (r, s') ∧ FX8_readAisle 0 t = some (b, t') ∧ lP f n qt s0 t0 v d p ns s' t' := by
  obtain ⟨n7, hq, -⟩ := id he
  obtain ⟨⟨v10, -⟩, ⟨c1, -⟩, ⟨m1, -⟩⟩ := h.2.2.2.2.2.1.1
  have hp := h.1.2.2.2.1
  have hE2 := (tEB (f := f) hp).2 hk
  have l2 : ln 0 (qt + 2) = 10 := by rcases hq with rfl | rfl <;> rfl
  have l3 : ln 0 (qt + 3) = 10 := by rcases hq with rfl | rfl <;> rfl
  have tl : kFl f n qt s0 (fun s => zbd (FX3_readNumber 4 0 999 s) fun r_5 σ_4 => zlet r_5 fun x1_6 => zbd (FX3_readNumber 4 0 99 σ_4) fun r_8 σ_7 => zlet r_8 fun x2_9 => if σ_7 4 8 = 0 then zgd (kd 0 (σ_7 4 1).toNatClampNeg == 5) (zlet (σ_7 4 1).toNatClampNeg fun q_10 => zbd (FX1_addAisle (q_10 + 1) x1_6 x2_9 σ_7) fun _ σ_11 => FX3_readAisle_b52 σ_11) else FX3_readAisle_b52 σ_7) := by
    simp only [FX3_readAisle_b52]
    exact kFl.bd (k_num he) (fun _ => kFl.lt (fun _ => kFl.bd (k_num he) (fun _ => kFl.lt (fun _ => kFl.if0 kFl.sm))))
  have tl2 : ∀ w, kFl f n qt s0 (fun s => zbd (FX3_readNumber 4 0 99 s) fun r_8 σ_7 => zlet r_8 fun x2_9 => if σ_7 4 8 = 0 then zgd (kd 0 (σ_7 4 1).toNatClampNeg == 5) (zlet (σ_7 4 1).toNatClampNeg fun q_10 => zbd (FX1_addAisle (q_10 + 1) w x2_9 σ_7) fun _ σ_11 => FX3_readAisle_b52 σ_11) else FX3_readAisle_b52 σ_7) := by
    intro w
    simp only [FX3_readAisle_b52]
    exact kFl.bd (k_num he) (fun _ => kFl.lt (fun _ => kFl.if0 kFl.sm))
  unfold FX3_readAisle FX8_readAisle
  rw [h.1.ptr hq, c1]
  rcases h.first he hk (i := 0) (M := 10) (by decide) (by decide) v10 m1 with ⟨va, s1, t1, g1, g2, A1, g4, g5⟩ | ⟨s1, t1, g1, g2, B1⟩
  rotate_left
  · obtain ⟨r, s', e, B⟩ := B1.go tl
    rw [show FX3_readFirst 4 (nI (v 0)) 10 s = _ from g1, zbd_s, show FX8_another 0 0 10 t = _ from g2, zbd_s, if_pos rfl]
    exact ⟨r, s', 0, t1, e, rfl, Or.inr B⟩
  rw [show FX3_readFirst 4 (nI (v 0)) 10 s = _ from g1, zbd_s, show FX8_another 0 0 10 t = _ from g2, zbd_s, if_neg (by decide)]
  have z9 : ∀ {β : Type} (r : Option β), zin (ln 1 (0 + 3)) 9 r = r := fun r => zin_n (p := 9) r (by decide : 9 < 18) (by decide)
  have z9' : ∀ (β : Type) (r : Option β), zin (ln 1 3) 9 r = r := fun β r => z9 r
  have zA : ∀ {β : Type} (k : Nat) (r : Option β), ln 1 k = 20 → zin (ln 1 k) (nI (10 + v 0)) r = r := fun k r hl => by rw [hl]; exact zin_n r (by omega : 10 + v 0 < 20) (by decide)
  have t39 : t1 3 9 = nI (v 0) := by rw [g5 3 9 (by omega)]; exact m1
  rw [z9, zlet_eq, show (0 + 3 : Nat) = 3 from rfl, show (9 : Int32).toNatClampNeg = 9 from rfl, t39, show (10 : Int32) + nI (v 0) = nI (10 + v 0) from nI_add 10 (v 0), nI_clamp (by omega : 10 + v 0 < 2 ^ 31)]
  simp only [zA (0 + 4) _ rfl, zA (0 + 5) _ rfl, zA (0 + 6) _ rfl, zA (0 + 7) _ rfl, z9', zlet_eq, Nat.zero_add]
  have mf : ∀ k, 4 ≤ k → k ≤ 7 → mfr k (10 + v 0) = true := fun k h1 h2 => by unfold mfr; simp; omega
  have nt : ∀ k, 4 ≤ k → k ≤ 7 → ¬ trc v ns k (10 + v 0) := fun k h1 h2 => by unfold trc; omega
  have m9 : mfr 3 9 = true := rfl
  rcases A1.num he (lo := 0) (hi := 999) (by decide) (by decide) with ⟨w, s2, t2, -, hw, c2, d2, k2, A2, fs2, ft2⟩ | ⟨w, s2, t2, c2, d2, B2⟩
  rotate_left
  · obtain ⟨r, s', e, B⟩ := B2.go (tl2 w)
    rw [show FX3_readNumber 4 0 999 s1 = _ from c2, zbd_s, show FX8_readNumber 0 0 999 t1 = _ from d2, zbd_s, gRn0 (by rw [zup_n (by decide)]; exact B2.b), zbd_s]
    exact ⟨r, s', _, _, e, rfl, Or.inr (((((B.mu (mf 4 (by decide) (by decide)) (by decide)).mu (mf 5 (by decide) (by decide)) (by decide)).mu (mf 6 (by decide) (by decide)) (by decide)).mu (mf 7 (by decide) (by decide)) (by decide)).mu m9 (by decide))⟩
  rw [show FX3_readNumber 4 0 999 s1 = _ from c2, zbd_s, show FX8_readNumber 0 0 999 t1 = _ from d2, zbd_s]
  have A2' := A2.fm (x := nI w) (k := 4) (j := 10 + v 0) (by decide) (mf 4 (by decide) (by decide)) (nt 4 (by decide) (by decide))
  rcases A2'.num he (lo := 0) (hi := 99) (by decide) (by decide) with ⟨u, s3, t3, -, hu, c3, d3, k3, A3, fs3, ft3⟩ | ⟨u, s3, t3, c3, d3, B3⟩
  rotate_left
  · rw [show FX3_readNumber 4 0 99 s2 = _ from c3, zbd_s, show FX8_readNumber 0 0 99 _ = _ from d3, zbd_s, if_neg B3.2.2.1]
    unfold FX3_readAisle_b52
    exact ⟨0, s3, _, _, rfl, rfl, Or.inr ((((B3.mu (mf 5 (by decide) (by decide)) (by decide)).mu (mf 6 (by decide) (by decide)) (by decide)).mu (mf 7 (by decide) (by decide)) (by decide)).mu m9 (by decide))⟩
  rw [show FX3_readNumber 4 0 99 s2 = _ from c3, zbd_s, show FX8_readNumber 0 0 99 _ = _ from d3, zbd_s, if_pos A3.2.2.1, A3.1.pt hq, kdq hq, zgd_t]
  unfold FX3_readAisle_b52 FX1_addAisle
  obtain ⟨a1, a2, a3, a4, a5, a6, a7⟩ := id A3
  obtain ⟨hN, hG, hA, hP, hQ, hL⟩ := id a6
  obtain ⟨b1, ⟨e1, e2, e3, e4, e5, e6⟩, f1, f2, f3, f4, f5, f6⟩ := id hN
  have s31 : s3 (qt + 1) 0 = nI (v 0) := e1
  have hE3 := tEB (f := f) A1.1.2.2.2.1
  have hE4 := tEB (f := f) A2.1.2.2.2.1
  rw [s31, show qt + 1 + 1 = qt + 2 from rfl, show qt + 1 + 2 = qt + 3 from rfl, fput', l2, pt_n va (by decide), zbd_s, zup_n (by omega : qt + 1 ≠ qt + 2), s31, fput', l3, pt_n va (by decide), zbd_s, zlet_eq, zup_n (by omega : qt + 1 ≠ qt + 3), zup_n (by omega : qt + 1 ≠ qt + 2), s31, nI_1, zbd_s]
  have t3o : ∀ (t : zS), zup (zup (zup t 5 (10 + v 0) (nI u)) 6 (10 + v 0) 0) 7 (10 + v 0) 0 3 9 = t 3 9 := fun t => by rw [zup_n (by decide), zup_n (by decide), zup_n (by decide)]
  refine ⟨_, _, _, _, rfl, rfl, Or.inl ⟨vset v 0 (v 0 + 1), _, ns, ⟨((a1.up hq (by omega)).up hq (by omega)).up hq (by omega), (((a2.up (by decide) (mf 5 (by decide) (by decide))).up (by decide) (mf 6 (by decide) (by decide))).up (by decide) (mf 7 (by decide) (by decide))).up (by decide) m9, ?_, ?_, ?_, ?_, a7⟩, by omega, fun z => z⟩⟩
  · rw [zup_n (by omega), zup_n (by omega), zup_n (by omega)]; exact a3
  · rw [zup_n (by decide), zup_n (by decide), zup_n (by decide), zup_n (by decide)]; exact a4
  · rw [zup_n (by omega), zup_n (by omega), zup_n (by omega)]; exact a5
  · rw [t3o, f1, nI_1]
    have v0 : vset v 0 (v 0 + 1) 0 = v 0 + 1 := rfl
    have vo : ∀ i, i ≠ 0 → vset v 0 (v 0 + 1) i = v i := fun i hi => if_neg hi
    have so : ∀ i j, ¬ (i = 1 ∧ j = 0) → ¬ ((i = 2 ∨ i = 3) ∧ j = v 0) → zup (zup (zup s3 (qt + 2) (v 0) (nI w)) (qt + 3) (v 0) (nI u)) (qt + 1) 0 (nI (v 0 + 1)) (qt + i) j = s3 (qt + i) j := fun i j h1 h2 => by
      rw [zup_at, if_neg (by omega), zup_at, if_neg (by omega), zup_at, if_neg (by omega)]
    have to : ∀ k j, ¬ (k = 3 ∧ j = 9) → ¬ (5 ≤ k ∧ k ≤ 7 ∧ j = 10 + v 0) → zup (zup (zup (zup t3 5 (10 + v 0) (nI u)) 6 (10 + v 0) 0) 7 (10 + v 0) 0) 3 9 (nI (v 0 + 1)) k j = t3 k j := fun k j h1 h2 => by
      rw [zup_at, if_neg (by omega), zup_at, if_neg (by omega), zup_at, if_neg (by omega), zup_at, if_neg (by omega)]
    have t4 : t3 4 (10 + v 0) = nI w := by rw [ft3 4 _ (by omega), zup_at, if_pos ⟨rfl, rfl⟩]
    have w2 : zup (zup (zup s3 (qt + 2) (v 0) (nI w)) (qt + 3) (v 0) (nI u)) (qt + 1) 0 (nI (v 0 + 1)) (qt + 2) (v 0) = nI w := by
      rw [zup_n (by omega), zup_n (by omega), zup_at, if_pos ⟨rfl, rfl⟩]
    have w3 : zup (zup (zup s3 (qt + 2) (v 0) (nI w)) (qt + 3) (v 0) (nI u)) (qt + 1) 0 (nI (v 0 + 1)) (qt + 3) (v 0) = nI u := by
      rw [zup_n (by omega), zup_at, if_pos ⟨rfl, rfl⟩]
    have w1 : zup (zup (zup s3 (qt + 2) (v 0) (nI w)) (qt + 3) (v 0) (nI u)) (qt + 1) 0 (nI (v 0 + 1)) (qt + 1) 0 = nI (v 0 + 1) := by
      rw [zup_at, if_pos ⟨rfl, rfl⟩]
    have y9 : zup (zup (zup (zup t3 5 (10 + v 0) (nI u)) 6 (10 + v 0) 0) 7 (10 + v 0) 0) 3 9 (nI (v 0 + 1)) 3 9 = nI (v 0 + 1) := by rw [zup_at, if_pos ⟨rfl, rfl⟩]
    have y5 : zup (zup (zup (zup t3 5 (10 + v 0) (nI u)) 6 (10 + v 0) 0) 7 (10 + v 0) 0) 3 9 (nI (v 0 + 1)) 5 (10 + v 0) = nI u := by rw [zup_n (by decide), zup_n (by decide), zup_n (by decide), zup_at, if_pos ⟨rfl, rfl⟩]
    have y6 : zup (zup (zup (zup t3 5 (10 + v 0) (nI u)) 6 (10 + v 0) 0) 7 (10 + v 0) 0) 3 9 (nI (v 0 + 1)) 6 (10 + v 0) = 0 := by rw [zup_n (by decide), zup_n (by decide), zup_at, if_pos ⟨rfl, rfl⟩]
    have y7 : zup (zup (zup (zup t3 5 (10 + v 0) (nI u)) 6 (10 + v 0) 0) 7 (10 + v 0) 0) 3 9 (nI (v 0 + 1)) 7 (10 + v 0) = 0 := by rw [zup_n (by decide), zup_at, if_pos ⟨rfl, rfl⟩]
    generalize zup (zup (zup s3 (qt + 2) (v 0) (nI w)) (qt + 3) (v 0) (nI u)) (qt + 1) 0 (nI (v 0 + 1)) = S at *
    generalize zup (zup (zup (zup t3 5 (10 + v 0) (nI u)) 6 (10 + v 0) 0) 7 (10 + v 0) 0) 3 9 (nI (v 0 + 1)) = T at *
    obtain ⟨g1', g2', g3', g4', g5'⟩ := hG
    obtain ⟨k1', k2'⟩ := hA
    refine ⟨⟨⟨by rw [v0]; omega, by rw [vo 1 (by decide)]; exact b1.2.1, by rw [vo 2 (by decide)]; exact b1.2.2.1, by rw [vo 3 (by decide)]; exact b1.2.2.2.1, by rw [vo 4 (by decide)]; exact b1.2.2.2.2⟩, ⟨?_, ?_, ?_, ?_, ?_, ?_⟩, ?_, ?_, ?_, ?_, ?_, ?_⟩, ⟨?_, ?_, ?_, ?_, ?_⟩, ⟨fun a ha => ?_, fun a ha ha2 => ?_⟩, fun q hq2 => ?_, ⟨fun i hi => ?_, fun r hr => ?_⟩, ?_, fun h0 => ?_⟩
    · rw [v0]; exact w1
    · rw [vo 1 (by decide), so 1 1 (by omega) (by omega)]; exact e2
    · rw [vo 2 (by decide), so 1 2 (by omega) (by omega)]; exact e3
    · rw [vo 3 (by decide), so 7 0 (by omega) (by omega)]; exact e4
    · rw [vo 4 (by decide), so 14 0 (by omega) (by omega)]; exact e5
    · rw [so 14 1 (by omega) (by omega)]; exact e6
    · rw [v0]; exact y9
    · rw [vo 1 (by decide), to 3 10 (by omega) (by omega)]; exact f2
    · rw [vo 2 (by decide), to 3 11 (by omega) (by omega)]; exact f3
    · rw [vo 3 (by decide), to 3 12 (by omega) (by omega)]; exact f4
    · rw [vo 4 (by decide), to 3 13 (by omega) (by omega)]; exact f5
    · rw [to 3 17 (by omega) (by omega)]; exact f6
    · rw [show S qt 3 = s3 qt 3 from so 0 3 (by omega) (by omega)]; exact g1'
    · rw [show S qt 3 = s3 qt 3 from so 0 3 (by omega) (by omega), to 3 14 (by omega) (by omega)]; exact g2'
    · rw [show S qt 4 = s3 qt 4 from so 0 4 (by omega) (by omega)]; exact g3'
    · rw [show S qt 4 = s3 qt 4 from so 0 4 (by omega) (by omega), to 3 15 (by omega) (by omega)]; exact g4'
    · rw [show S qt 5 = s3 qt 5 from so 0 5 (by omega) (by omega), to 3 16 (by omega) (by omega)]; exact g5'
    · rw [v0] at ha
      by_cases ea : a = v 0
      · subst ea
        obtain ⟨z1, z2⟩ := k2' (v 0) (Nat.le_refl _) va
        rw [w2, w3, so 4 _ (by omega) (by omega), so 5 _ (by omega) (by omega), z1, z2, to 4 _ (by omega) (by omega), t4, y5, y6, y7]
        exact ⟨rfl, ⟨w, hw, rfl⟩, rfl, ⟨u, hu, rfl⟩, rfl, rfl⟩
      · rw [so 2 a (by omega) (by omega), so 3 a (by omega) (by omega), so 4 a (by omega) (by omega), so 5 a (by omega) (by omega), to 4 _ (by omega) (by omega), to 5 _ (by omega) (by omega), to 6 _ (by omega) (by omega), to 7 _ (by omega) (by omega)]
        exact k1' a (by omega)
    · rw [v0] at ha
      rw [so 4 a (by omega) (by omega), so 5 a (by omega) (by omega)]
      exact k2' a (by omega) ha2
    · rw [vo 3 (by decide)] at hq2
      obtain ⟨c, k, l, hh⟩ := hP q hq2
      exact ⟨c, k, l, hh.c (by rw [v0]; omega) (fun i h1 h2 => so i q (by omega) (by omega)) (fun i hi => so 13 _ (by omega) (by omega)) (fun i h1 h2 => to i _ (by omega) (by omega)) (fun i hi => to 13 _ (by omega) (by omega))⟩
    · rw [so 16 i (by omega) (by omega), to 15 _ (by omega) (by omega)]; exact hQ.1 i hi
    · rw [vo 4 (by decide)] at hr
      obtain ⟨a, b, hh⟩ := hQ.2 r hr
      exact ⟨a, b, hh.c (fun j hj => so 15 j (by omega) (by omega)) (fun j hj => so 16 j (by omega) (by omega)) (fun j hj => to 14 _ (by omega) (by omega))⟩
    · rw [vo 4 (by decide), vo 5 (by decide)]; exact hL.1
    · rw [vo 4 (by decide)] at h0
      rw [vo 4 (by decide), vo 5 (by decide), so 15 _ (by omega) (by omega), to 14 _ (by omega) (by omega)]
      exact hL.2 h0
end
