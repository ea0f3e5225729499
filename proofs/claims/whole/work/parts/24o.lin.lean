/-! a LINE on both sides -/
theorem zb_u : ∀ k, k < 21 → ∀ j, j < 21 → zByt.getD k [] = zByt.getD j [] → k = j := by decide +kernel
theorem list_ge {a b : List Int32} (hl : a.length = b.length) (h : ∀ i, i < a.length → a.getD i 0 = b.getD i 0) : a = b := by
  refine List.ext_getElem hl (fun i h1 h2 => ?_)
  have := h i h1
  rw [List.getD_eq_getElem?_getD, List.getD_eq_getElem?_getD, List.getElem?_eq_getElem h1, List.getElem?_eq_getElem h2] at this
  exact this
/-- a TOKEN is one word at most -/
theorem tW_u {f : Nat → Int32} {n p k j : Nat} (hk : k < 21) (hj : j < 21) (h1 : tW f n p k = true) (h2 : tW f n p j = true) : k = j := by
  unfold tW at h1 h2
  rw [Bool.and_eq_true, Bool.and_eq_true, decide_eq_true_iff, decide_eq_true_iff, List.all_eq_true] at h1 h2
  obtain ⟨-, a1, a2⟩ := h1
  obtain ⟨-, b1, b2⟩ := h2
  have l1 := (zlen_ok k hk).2.1
  have l2 := (zlen_ok j hj).2.1
  refine zb_u k hk j hj (list_ge (by omega) (fun i hi => ?_))
  have x1 := of_decide_eq_true (a2 i (List.mem_range.mpr (by omega)))
  have x2 := of_decide_eq_true (b2 i (List.mem_range.mpr (by omega)))
  rw [← x1, ← x2]
theorem tW_o {f : Nat → Int32} {n p k : Nat} (hk : k < 21) (h : tW f n p k = true) (j : Nat) (hj : j < 21) (hn : j ≠ k) : tW f n p j = false := Bool.eq_false_iff.mpr (fun z => hn (tW_u hj hk z h))
theorem tSo_v {f : Nat → Int32} {n p : Nat} : (tSo f n p = -1 ∧ ∀ j, 7 ≤ j → j ≤ 10 → tW f n p j = false) ∨ ∃ j, j < 4 ∧ tW f n p (7 + j) = true ∧ tSo f n p = nI j := by
  rcases fstI_v (w := fun j => tW f n p (7 + j)) 4 0 with h | ⟨j, h1, h2, h3, h4⟩
  · left
    refine ⟨h, fun j h1 h2 => ?_⟩
    refine Bool.eq_false_iff.mpr (fun z => ?_)
    have hj : j = 7 ∨ j = 8 ∨ j = 9 ∨ j = 10 := by omega
    unfold fstI fstI fstI fstI fstI at h
    have n0 : ¬ nI 0 = -1 := by decide
    have n1 : ¬ nI (0 + 1) = -1 := by decide
    have n2 : ¬ nI (0 + 1 + 1) = -1 := by decide
    have n3 : ¬ nI (0 + 1 + 1 + 1) = -1 := by decide
    by_cases c0 : tW f n p (7 + 0) = true
    · rw [if_pos c0] at h; exact n0 h
    rw [if_neg c0] at h
    by_cases c1 : tW f n p (7 + (0 + 1)) = true
    · rw [if_pos c1] at h; exact n1 h
    rw [if_neg c1] at h
    by_cases c2 : tW f n p (7 + (0 + 1 + 1)) = true
    · rw [if_pos c2] at h; exact n2 h
    rw [if_neg c2] at h
    by_cases c3 : tW f n p (7 + (0 + 1 + 1 + 1)) = true
    · rw [if_pos c3] at h; exact n3 h
    rcases hj with rfl | rfl | rfl | rfl
    · exact c0 z
    · exact c1 z
    · exact c2 z
    · exact c3 z
  · exact Or.inr ⟨j, by omega, h3, h4⟩
theorem tR.g {qt : Nat} {s t s' t' : zS} {v : Nat → Nat} {ns c x : Nat} (h : tR qt s t v ns) (hc : c = 3 ∨ c = 4 ∨ c = 5) (h3 : c = 3 → 1 ≤ x ∧ x ≤ 9) (h4 : c = 4 → x ≤ 999) (so : ∀ i j, ¬ (i = 0 ∧ j = c) → s' (qt + i) j = s (qt + i) j) (s1 : s' qt c = nI x) (to : ∀ k j, 3 ≤ k → ¬ (k = 3 ∧ j = 11 + c) → t' k j = t k j) (t1 : t' 3 (11 + c) = nI x) : tR qt s' t' v ns := by
  obtain ⟨⟨b1, ⟨c1, c2, c3, c4, c5, c6⟩, d1, d2, d3, d4, d5, d6⟩, ⟨g1, g2, g3, g4, g5⟩, ⟨a1, a2⟩, hP, ⟨q1, q2⟩, l1, l2⟩ := h
  refine ⟨⟨b1, ⟨?_, ?_, ?_, ?_, ?_, ?_⟩, ?_, ?_, ?_, ?_, ?_, ?_⟩, ?_, ⟨fun a ha => ?_, fun a ha ha2 => ?_⟩, fun p hp => ?_, ⟨fun i hi => ?_, fun r hr => ?_⟩, l1, fun h0 => ?_⟩
  · rw [so 1 0 (by omega)]; exact c1
  · rw [so 1 1 (by omega)]; exact c2
  · rw [so 1 2 (by omega)]; exact c3
  · rw [so 7 0 (by omega)]; exact c4
  · rw [so 14 0 (by omega)]; exact c5
  · rw [so 14 1 (by omega)]; exact c6
  · rw [to 3 9 (by omega) (by omega)]; exact d1
  · rw [to 3 10 (by omega) (by omega)]; exact d2
  · rw [to 3 11 (by omega) (by omega)]; exact d3
  · rw [to 3 12 (by omega) (by omega)]; exact d4
  · rw [to 3 13 (by omega) (by omega)]; exact d5
  · rw [to 3 17 (by omega) (by omega)]; exact d6
  · unfold tG
    rcases hc with rfl | rfl | rfl
    · rw [show s' qt 4 = s qt 4 from so 0 4 (by omega), show s' qt 5 = s qt 5 from so 0 5 (by omega), to 3 15 (by omega) (by omega), to 3 16 (by omega) (by omega), s1, show t' 3 14 = nI x from t1]
      have := h3 rfl
      exact ⟨show (0 : Int32) < nI x from nI_lt (a := 0) (by omega) (by omega), rfl, g3, g4, g5⟩
    · rw [show s' qt 3 = s qt 3 from so 0 3 (by omega), show s' qt 5 = s qt 5 from so 0 5 (by omega), to 3 14 (by omega) (by omega), to 3 16 (by omega) (by omega), s1, show t' 3 15 = nI x from t1]
      exact ⟨g1, g2, ⟨x, h4 rfl, rfl⟩, rfl, g5⟩
    · rw [show s' qt 3 = s qt 3 from so 0 3 (by omega), show s' qt 4 = s qt 4 from so 0 4 (by omega), to 3 14 (by omega) (by omega), to 3 15 (by omega) (by omega), s1, show t' 3 16 = nI x from t1]
      exact ⟨g1, g2, g3, g4, rfl⟩
  · rw [so 2 a (by omega), so 3 a (by omega), so 4 a (by omega), so 5 a (by omega), to 4 _ (by omega) (by omega), to 5 _ (by omega) (by omega), to 6 _ (by omega) (by omega), to 7 _ (by omega) (by omega)]
    exact a1 a ha
  · rw [so 4 a (by omega), so 5 a (by omega)]
    exact a2 a ha ha2
  · obtain ⟨c, k, l, h⟩ := hP p hp
    exact ⟨c, k, l, h.c (Nat.le_refl _) (fun i h1 h2 => so i p (by omega)) (fun i hi => so 13 _ (by omega)) (fun i h1 h2 => to i _ (by omega) (by omega)) (fun i hi => to 13 _ (by omega) (by omega))⟩
  · rw [so 16 i (by omega), to 15 _ (by omega) (by omega)]; exact q1 i hi
  · obtain ⟨a, b, h⟩ := q2 r hr
    exact ⟨a, b, h.c (fun j hj => so 15 j (by omega)) (fun j hj => so 16 j (by omega)) (fun j hj => to 14 _ (by omega) (by omega))⟩
  · rw [so 15 _ (by omega), to 14 _ (by omega) (by omega)]; exact l2 h0
section
variable {f : Nat → Int32} {n qt : Nat} {s0 t0 : zS} {v : Nat → Nat} {d : Int32} {p ns : Nat} {s t : zS}
theorem sA.d7 {x : Int32} (h : sA f n qt s0 t0 v d p ns s t) (hq : qt = 46 ∨ qt = 64) : sA f n qt s0 t0 v x p ns (zup s 4 7 x) t := by
  obtain ⟨h1, h2, h3, h4, h5, h6, h7⟩ := h
  exact ⟨h1.up4 (by decide), h2, by rw [zup_at, if_neg (by omega)]; exact h3, h4, by rw [zup_at, if_pos ⟨rfl, rfl⟩], h6.c (fun k k1 k2 => zup_n (by omega)) (fun _ _ _ => rfl), h7⟩
/-- a line's last sign -/
theorem lP.fin (he : en f n qt s0 t0) {s' t' : zS} (h : lP f n qt s0 t0 v d p ns s' t') : ∃ r s2 t2, FX3_readSign 4 59 s' = some (r, s2) ∧ FX8_mark 0 59 t' = some (0, t2) ∧ lP f n qt s0 t0 v d p ns s2 t2 := by
  rcases h with ⟨v', p', ns', A, q1, q2⟩ | B
  · unfold FX3_readSign FX3_readSign_b20 FX8_mark FX8_mark_b20 FX8_mark_b31
    rw [fSg A.1, zbd_s, if_pos A.2.2.2.1, gSg he A.2.1 A.2.2.2.1 (by decide), zbd_s]
    cases e : tS f n p' 59
    · obtain ⟨s2, t2, g1, g2, B⟩ := A.fail (k := 1) (by decide)
      rw [b01_f, if_pos rfl, if_pos rfl, g1, zbd_s, g2, zbd_s, if_neg B.b]
      exact ⟨0, s2, t2, rfl, rfl, Or.inr B⟩
    · obtain ⟨s2, t2, g1, g2, A2, g4, g5⟩ := A.tok he
      have hE := tEB (f := f) A.1.2.2.2.1
      rw [b01_t, if_neg (by decide), if_neg (by decide), if_pos A.2.2.2.1, g1, zbd_s, g2, zbd_s]
      exact ⟨0, s2, t2, rfl, rfl, Or.inl ⟨v', _, ns', A2, by omega, q2⟩⟩
  · obtain ⟨r, s2, e, B2⟩ := B.go (k_rsig he (c := 59))
    exact ⟨r, s2, t', e, gMk0 B.b, Or.inr B2⟩
theorem e_Notice (he : en f n qt s0 t0) (h : sA f n qt s0 t0 v d p ns s t) (hk : tK f n p ≠ 0) (x3 : Int32) : ∃ r s1 s' t1 t' d', FX3_readSetting 4 1 1 9 s = some (r, s1) ∧ FX3_readSign 4 59 (zup s1 qt 3 r) = some t1 ∧ t1.2 = s' ∧ (if (1 : Int32) &&& d = 0 then FX8_readLine_b64 0 d 1 x3 t else zbd (FX8_wrong 0 5 t) (fun _ σ_38 => FX8_readLine_b64 0 d 1 x3 σ_38)) = some (d', t') ∧ lP f n qt s0 t0 v d' p ns s' t' := by
  obtain ⟨n7, hq, -⟩ := id he
  have hp := h.1.2.2.2.1
  have hE2 := (tEB (f := f) hp).2 hk
  have e7 : s 4 7 = d := h.2.2.2.2.1
  have m228 : ∀ t, FX8_readLine_b228 0 d 1 t = zbd (FX8_mark 0 59 t) (fun _ σ_1 => some ((d ||| 1), σ_1)) := fun t => rfl
  have z14 : ∀ (β : Type) (r : Option β), zin (ln 1 (0 + 3)) 14 r = r := fun β r => zin_n (p := 14) r (by decide : 14 < 18) (by decide)
  have b79 : ∀ t, FX8_readLine_b79 0 d 1 t = zbd (FX8_readNumber 0 1 9 t) (fun r_10 σ_9 => FX8_readLine_b228 0 d 1 (zup σ_9 3 14 r_10)) := by
    intro t
    unfold FX8_readLine_b79
    rw [if_pos rfl]
    refine congrArg _ (funext fun r => funext fun σ => ?_)
    rw [z14, zlet_eq]
    rfl
  have b64 : ∀ t, FX8_readLine_b64 0 d 1 x3 t = if t 0 25 = 0 then zbd (FX8_stepOn 0 t) (fun _ σ_32 => FX8_readLine_b79 0 d 1 σ_32) else FX8_readLine_b79 0 d 1 t := by
    intro t
    unfold FX8_readLine_b64
    rw [if_neg (by decide)]
  unfold FX3_readSetting FX3_readSetting_b14
  rw [e7]
  by_cases c : (1 : Int32) &&& d = 0
  rotate_left
  · -- told before
    obtain ⟨s1, t1, g1, g2, B1⟩ := h.fail (k := 5) (by decide)
    rw [if_neg c, if_neg (fun z => c (by rw [Int32.and_comm]; exact z)), g1, zbd_s, g2, zbd_s, b64, if_neg B1.b, b79, gRn0 B1.b, zbd_s, m228, gMk0 (by rw [zup_n (by decide)]; exact B1.b), zbd_s]
    obtain ⟨r, s2, e1, B2⟩ := B1.go (c := fun s => zlet (zup s 4 7 (s 4 7 ||| 1)) fun σ_1 => zbd (FX3_readToken 4 σ_1) fun _ σ_2 => zbd (FX3_readNumber 4 1 9 σ_2) fun r_5 σ_4 => some (r_5, σ_4)) (kFl.up7 (kFl.bd (k_tok he) (fun _ => kFl.bd (k_num he) (fun _ => kFl.sm))))
    have B3 : sB f n qt s0 t0 (zup s2 qt 3 r) t1 := by
      obtain ⟨⟨p6, C6⟩, B6⟩ := id B2
      exact ⟨⟨p6, C6.up hq (by omega)⟩, by rw [zup_n (by omega)]; exact B6⟩
    obtain ⟨r2, s3, e2, B4⟩ := B3.go (k_rsig he (c := 59))
    exact ⟨r, s2, s3, (r2, s3), _, _, e1, e2, rfl, rfl, Or.inr (B4.mu rfl (by decide))⟩
  · have A1 := h.d7 (x := d ||| 1) hq
    obtain ⟨s1, t1, g1, g2, A2, g4, g5⟩ := A1.tok he
    rw [if_pos c, if_pos (show d &&& 1 = 0 by rw [Int32.and_comm]; exact c), zlet_eq, g1, zbd_s, b64, if_pos h.2.2.2.1, g2, zbd_s, b79]
    rcases A2.num he (lo := 1) (hi := 9) (by decide) (by decide) with ⟨x, s2, t2, xl, xh, u1, u2, k2, A3, fs2, ft2⟩ | ⟨x, s2, t2, u1, u2, B2⟩
    rotate_left
    · rw [show FX3_readNumber 4 1 9 s1 = _ from u1, zbd_s, show FX8_readNumber 0 1 9 t1 = _ from u2, zbd_s, m228, gMk0 (by rw [zup_n (by decide)]; exact B2.b), zbd_s]
      have B3 : sB f n qt s0 t0 (zup s2 qt 3 x) t2 := by
        obtain ⟨⟨p6, C6⟩, B6⟩ := id B2
        exact ⟨⟨p6, C6.up hq (by omega)⟩, by rw [zup_n (by omega)]; exact B6⟩
      obtain ⟨r2, s3, e2, B4⟩ := B3.go (k_rsig he (c := 59))
      exact ⟨x, s2, s3, (r2, s3), _, _, rfl, e2, rfl, rfl, Or.inr (B4.mu rfl (by decide))⟩
    · rw [show FX3_readNumber 4 1 9 s1 = _ from u1, zbd_s, show FX8_readNumber 0 1 9 t1 = _ from u2, zbd_s, m228]
      have hE3 := tEB (f := f) A2.1.2.2.2.1
      obtain ⟨a1, a2, a3, a4, a5, a6, a7⟩ := A3
      have L : lP f n qt s0 t0 v (d ||| 1) p ns (zup s2 qt 3 (nI x)) (zup t2 3 14 (nI x)) := Or.inl ⟨v, _, ns, ⟨a1.up hq (by omega), a2.up (by decide) rfl, by rw [zup_n (by omega)]; exact a3, by rw [zup_n (by decide)]; exact a4, by rw [zup_n (by omega)]; exact a5, a6.g (c := 3) (x := x) (Or.inl rfl) (fun _ => ⟨xl, xh⟩) (fun z => absurd z (by decide)) (fun i j hij => by rw [zup_at, if_neg (by omega)]) (by rw [zup_at, if_pos ⟨rfl, rfl⟩]) (fun k j h1 h2 => by rw [zup_at, if_neg (by omega)]) (by show zup t2 3 14 (nI x) 3 14 = nI x; rw [zup_at, if_pos ⟨rfl, rfl⟩]), a7⟩, by omega, fun z => z⟩
      obtain ⟨r3, s3, t3, y1, y2, y3⟩ := L.fin he
      rw [y2, zbd_s]
      exact ⟨nI x, s2, s3, (r3, s3), t3, _, rfl, y1, rfl, rfl, y3⟩
theorem e_False (he : en f n qt s0 t0) (h : sA f n qt s0 t0 v d p ns s t) (hk : tK f n p ≠ 0) (x3 : Int32) : ∃ r s1 s' t1 t' d', FX3_readSetting 4 2 0 999 s = some (r, s1) ∧ FX3_readSign 4 59 (zup s1 qt 4 r) = some t1 ∧ t1.2 = s' ∧ (if (2 : Int32) &&& d = 0 then FX8_readLine_b64 0 d 2 x3 t else zbd (FX8_wrong 0 5 t) (fun _ σ_38 => FX8_readLine_b64 0 d 2 x3 σ_38)) = some (d', t') ∧ lP f n qt s0 t0 v d' p ns s' t' := by
  obtain ⟨n7, hq, -⟩ := id he
  have hp := h.1.2.2.2.1
  have hE2 := (tEB (f := f) hp).2 hk
  have e7 : s 4 7 = d := h.2.2.2.2.1
  have m228 : ∀ t, FX8_readLine_b228 0 d 2 t = zbd (FX8_mark 0 59 t) (fun _ σ_1 => some ((d ||| 2), σ_1)) := fun t => rfl
  have z15 : ∀ (β : Type) (r : Option β), zin (ln 1 (0 + 3)) 15 r = r := fun β r => zin_n (p := 15) r (by decide : 15 < 18) (by decide)
  have b79 : ∀ t, FX8_readLine_b79 0 d 2 t = zbd (FX8_readNumber 0 0 999 t) (fun r_10 σ_9 => FX8_readLine_b228 0 d 2 (zup σ_9 3 15 r_10)) := by
    intro t
    unfold FX8_readLine_b79
    rw [if_neg (by decide), if_pos rfl]
    refine congrArg _ (funext fun r => funext fun σ => ?_)
    rw [z15, zlet_eq]
    rfl
  have b64 : ∀ t, FX8_readLine_b64 0 d 2 x3 t = if t 0 25 = 0 then zbd (FX8_stepOn 0 t) (fun _ σ_32 => FX8_readLine_b79 0 d 2 σ_32) else FX8_readLine_b79 0 d 2 t := by
    intro t
    unfold FX8_readLine_b64
    rw [if_neg (by decide)]
  unfold FX3_readSetting FX3_readSetting_b14
  rw [e7]
  by_cases c : (2 : Int32) &&& d = 0
  rotate_left
  · -- told before
    obtain ⟨s1, t1, g1, g2, B1⟩ := h.fail (k := 5) (by decide)
    rw [if_neg c, if_neg (fun z => c (by rw [Int32.and_comm]; exact z)), g1, zbd_s, g2, zbd_s, b64, if_neg B1.b, b79, gRn0 B1.b, zbd_s, m228, gMk0 (by rw [zup_n (by decide)]; exact B1.b), zbd_s]
    obtain ⟨r, s2, e1, B2⟩ := B1.go (c := fun s => zlet (zup s 4 7 (s 4 7 ||| 2)) fun σ_1 => zbd (FX3_readToken 4 σ_1) fun _ σ_2 => zbd (FX3_readNumber 4 0 999 σ_2) fun r_5 σ_4 => some (r_5, σ_4)) (kFl.up7 (kFl.bd (k_tok he) (fun _ => kFl.bd (k_num he) (fun _ => kFl.sm))))
    have B3 : sB f n qt s0 t0 (zup s2 qt 4 r) t1 := by
      obtain ⟨⟨p6, C6⟩, B6⟩ := id B2
      exact ⟨⟨p6, C6.up hq (by omega)⟩, by rw [zup_n (by omega)]; exact B6⟩
    obtain ⟨r2, s3, e2, B4⟩ := B3.go (k_rsig he (c := 59))
    exact ⟨r, s2, s3, (r2, s3), _, _, e1, e2, rfl, rfl, Or.inr (B4.mu rfl (by decide))⟩
  · have A1 := h.d7 (x := d ||| 2) hq
    obtain ⟨s1, t1, g1, g2, A2, g4, g5⟩ := A1.tok he
    rw [if_pos c, if_pos (show d &&& 2 = 0 by rw [Int32.and_comm]; exact c), zlet_eq, g1, zbd_s, b64, if_pos h.2.2.2.1, g2, zbd_s, b79]
    rcases A2.num he (lo := 0) (hi := 999) (by decide) (by decide) with ⟨x, s2, t2, xl, xh, u1, u2, k2, A3, fs2, ft2⟩ | ⟨x, s2, t2, u1, u2, B2⟩
    rotate_left
    · rw [show FX3_readNumber 4 0 999 s1 = _ from u1, zbd_s, show FX8_readNumber 0 0 999 t1 = _ from u2, zbd_s, m228, gMk0 (by rw [zup_n (by decide)]; exact B2.b), zbd_s]
      have B3 : sB f n qt s0 t0 (zup s2 qt 4 x) t2 := by
        obtain ⟨⟨p6, C6⟩, B6⟩ := id B2
        exact ⟨⟨p6, C6.up hq (by omega)⟩, by rw [zup_n (by omega)]; exact B6⟩
      obtain ⟨r2, s3, e2, B4⟩ := B3.go (k_rsig he (c := 59))
      exact ⟨x, s2, s3, (r2, s3), _, _, rfl, e2, rfl, rfl, Or.inr (B4.mu rfl (by decide))⟩
    · rw [show FX3_readNumber 4 0 999 s1 = _ from u1, zbd_s, show FX8_readNumber 0 0 999 t1 = _ from u2, zbd_s, m228]
      have hE3 := tEB (f := f) A2.1.2.2.2.1
      obtain ⟨a1, a2, a3, a4, a5, a6, a7⟩ := A3
      have L : lP f n qt s0 t0 v (d ||| 2) p ns (zup s2 qt 4 (nI x)) (zup t2 3 15 (nI x)) := Or.inl ⟨v, _, ns, ⟨a1.up hq (by omega), a2.up (by decide) rfl, by rw [zup_n (by omega)]; exact a3, by rw [zup_n (by decide)]; exact a4, by rw [zup_n (by omega)]; exact a5, a6.g (c := 4) (x := x) (Or.inr (Or.inl rfl)) (fun z => absurd z (by decide)) (fun _ => xh) (fun i j hij => by rw [zup_at, if_neg (by omega)]) (by rw [zup_at, if_pos ⟨rfl, rfl⟩]) (fun k j h1 h2 => by rw [zup_at, if_neg (by omega)]) (by show zup t2 3 15 (nI x) 3 15 = nI x; rw [zup_at, if_pos ⟨rfl, rfl⟩]), a7⟩, by omega, fun z => z⟩
      obtain ⟨r3, s3, t3, y1, y2, y3⟩ := L.fin he
      rw [y2, zbd_s]
      exact ⟨nI x, s2, s3, (r3, s3), t3, _, rfl, y1, rfl, rfl, y3⟩
theorem e_Stops (he : en f n qt s0 t0) (h : sA f n qt s0 t0 v d p ns s t) (hk : tK f n p ≠ 0) (x3 : Int32) : ∃ r s1 s' t1 t' d', FX3_readSetting 4 4 0 2 s = some (r, s1) ∧ FX3_readSign 4 59 (zup s1 qt 5 r) = some t1 ∧ t1.2 = s' ∧ (if (4 : Int32) &&& d = 0 then FX8_readLine_b64 0 d 4 x3 t else zbd (FX8_wrong 0 5 t) (fun _ σ_38 => FX8_readLine_b64 0 d 4 x3 σ_38)) = some (d', t') ∧ lP f n qt s0 t0 v d' p ns s' t' := by
  obtain ⟨n7, hq, -⟩ := id he
  have hp := h.1.2.2.2.1
  have hE2 := (tEB (f := f) hp).2 hk
  have e7 : s 4 7 = d := h.2.2.2.2.1
  have m228 : ∀ t, FX8_readLine_b228 0 d 4 t = zbd (FX8_mark 0 59 t) (fun _ σ_1 => some ((d ||| 4), σ_1)) := fun t => rfl
  have z16 : ∀ (β : Type) (r : Option β), zin (ln 1 (0 + 3)) 16 r = r := fun β r => zin_n (p := 16) r (by decide : 16 < 18) (by decide)
  have b79 : ∀ t, FX8_readLine_b79 0 d 4 t = zbd (FX8_readNumber 0 0 2 t) (fun r_10 σ_9 => FX8_readLine_b228 0 d 4 (zup σ_9 3 16 r_10)) := by
    intro t
    unfold FX8_readLine_b79
    rw [if_neg (by decide), if_neg (by decide)]
    refine congrArg _ (funext fun r => funext fun σ => ?_)
    rw [z16, zlet_eq]
    rfl
  have b64 : ∀ t, FX8_readLine_b64 0 d 4 x3 t = if t 0 25 = 0 then zbd (FX8_stepOn 0 t) (fun _ σ_32 => FX8_readLine_b79 0 d 4 σ_32) else FX8_readLine_b79 0 d 4 t := by
    intro t
    unfold FX8_readLine_b64
    rw [if_neg (by decide)]
  unfold FX3_readSetting FX3_readSetting_b14
  rw [e7]
  by_cases c : (4 : Int32) &&& d = 0
  rotate_left
  · -- told before
    obtain ⟨s1, t1, g1, g2, B1⟩ := h.fail (k := 5) (by decide)
    rw [if_neg c, if_neg (fun z => c (by rw [Int32.and_comm]; exact z)), g1, zbd_s, g2, zbd_s, b64, if_neg B1.b, b79, gRn0 B1.b, zbd_s, m228, gMk0 (by rw [zup_n (by decide)]; exact B1.b), zbd_s]
    obtain ⟨r, s2, e1, B2⟩ := B1.go (c := fun s => zlet (zup s 4 7 (s 4 7 ||| 4)) fun σ_1 => zbd (FX3_readToken 4 σ_1) fun _ σ_2 => zbd (FX3_readNumber 4 0 2 σ_2) fun r_5 σ_4 => some (r_5, σ_4)) (kFl.up7 (kFl.bd (k_tok he) (fun _ => kFl.bd (k_num he) (fun _ => kFl.sm))))
    have B3 : sB f n qt s0 t0 (zup s2 qt 5 r) t1 := by
      obtain ⟨⟨p6, C6⟩, B6⟩ := id B2
      exact ⟨⟨p6, C6.up hq (by omega)⟩, by rw [zup_n (by omega)]; exact B6⟩
    obtain ⟨r2, s3, e2, B4⟩ := B3.go (k_rsig he (c := 59))
    exact ⟨r, s2, s3, (r2, s3), _, _, e1, e2, rfl, rfl, Or.inr (B4.mu rfl (by decide))⟩
  · have A1 := h.d7 (x := d ||| 4) hq
    obtain ⟨s1, t1, g1, g2, A2, g4, g5⟩ := A1.tok he
    rw [if_pos c, if_pos (show d &&& 4 = 0 by rw [Int32.and_comm]; exact c), zlet_eq, g1, zbd_s, b64, if_pos h.2.2.2.1, g2, zbd_s, b79]
    rcases A2.num he (lo := 0) (hi := 2) (by decide) (by decide) with ⟨x, s2, t2, xl, xh, u1, u2, k2, A3, fs2, ft2⟩ | ⟨x, s2, t2, u1, u2, B2⟩
    rotate_left
    · rw [show FX3_readNumber 4 0 2 s1 = _ from u1, zbd_s, show FX8_readNumber 0 0 2 t1 = _ from u2, zbd_s, m228, gMk0 (by rw [zup_n (by decide)]; exact B2.b), zbd_s]
      have B3 : sB f n qt s0 t0 (zup s2 qt 5 x) t2 := by
        obtain ⟨⟨p6, C6⟩, B6⟩ := id B2
        exact ⟨⟨p6, C6.up hq (by omega)⟩, by rw [zup_n (by omega)]; exact B6⟩
      obtain ⟨r2, s3, e2, B4⟩ := B3.go (k_rsig he (c := 59))
      exact ⟨x, s2, s3, (r2, s3), _, _, rfl, e2, rfl, rfl, Or.inr (B4.mu rfl (by decide))⟩
    · rw [show FX3_readNumber 4 0 2 s1 = _ from u1, zbd_s, show FX8_readNumber 0 0 2 t1 = _ from u2, zbd_s, m228]
      have hE3 := tEB (f := f) A2.1.2.2.2.1
      obtain ⟨a1, a2, a3, a4, a5, a6, a7⟩ := A3
      have L : lP f n qt s0 t0 v (d ||| 4) p ns (zup s2 qt 5 (nI x)) (zup t2 3 16 (nI x)) := Or.inl ⟨v, _, ns, ⟨a1.up hq (by omega), a2.up (by decide) rfl, by rw [zup_n (by omega)]; exact a3, by rw [zup_n (by decide)]; exact a4, by rw [zup_n (by omega)]; exact a5, a6.g (c := 5) (x := x) (Or.inr (Or.inr rfl)) (fun z => absurd z (by decide)) (fun z => absurd z (by decide)) (fun i j hij => by rw [zup_at, if_neg (by omega)]) (by rw [zup_at, if_pos ⟨rfl, rfl⟩]) (fun k j h1 h2 => by rw [zup_at, if_neg (by omega)]) (by show zup t2 3 16 (nI x) 3 16 = nI x; rw [zup_at, if_pos ⟨rfl, rfl⟩]), a7⟩, by omega, fun z => z⟩
      obtain ⟨r3, s3, t3, y1, y2, y3⟩ := L.fin he
      rw [y2, zbd_s]
      exact ⟨nI x, s2, s3, (r3, s3), t3, _, rfl, y1, rfl, rfl, y3⟩
theorem e_Line (he : en f n qt s0 t0) (h : sA f n qt s0 t0 v d p ns s t) (hk : tK f n p ≠ 0) (h5 : v 5 = ns) : ∃ r s' d' t', FX3_readLine 4 s = some (r, s') ∧ FX8_readLine 0 d t = some (d', t') ∧ lP f n qt s0 t0 v d' p ns s' t' := by
  obtain ⟨n7, hq, -⟩ := id he
  have W := fun k (hk : k < 21) => fWd he h.1 hk
  have V := fun k (hk : k < 21) => gWd he h.2.1 h.2.2.2.1 hk
  have b228 : ∀ t, FX8_readLine_b228 0 d 0 t = zbd (FX8_mark 0 59 t) (fun _ σ_1 => some (d, σ_1)) := by
    intro t
    unfold FX8_readLine_b228
    rw [Int32.or_zero]
  -- a line that is no setting
  have fin : ∀ (c m : Option (Int32 × zS)), (∃ r s' b t', c = some (r, s') ∧ m = some (b, t') ∧ lP f n qt s0 t0 v d p ns s' t') → ∃ r s' d' t', zbd c (fun _ σ => FX3_readLine_b168 4 σ) = some (r, s') ∧ zbd m (fun _ σ => FX8_readLine_b228 0 d 0 σ) = some (d', t') ∧ lP f n qt s0 t0 v d' p ns s' t' := by
    rintro c m ⟨r, s1, b, t1, e1, e2, L⟩
    obtain ⟨r2, s2, t2, g1, g2, L2⟩ := L.fin he
    refine ⟨0, s2, d, t2, ?_, ?_, L2⟩
    · unfold FX3_readLine_b168
      rw [e1, zbd_s, g1, zbd_s]
    · rw [e2, zbd_s, b228, g2, zbd_s]
  have m0 : tW f n p 4 = false → tW f n p 5 = false → tW f n p 6 = false → FX8_readLine 0 d t = FX8_readLine_b64 0 d 0 (tSo f n p) t := by
    intro h4 h5 h6
    unfold FX8_readLine FX8_readLine_b43
    rw [V 4 (by decide), zbd_s, h4, b01_f, if_pos rfl, V 5 (by decide), zbd_s, h5, b01_f, if_pos rfl, V 6 (by decide), zbd_s, h6, b01_f, if_pos rfl, zlet_eq, gSo he h.2.1 h.2.2.2.1, zbd_s, zlet_eq, if_pos (Int32.zero_and)]
  rcases tSo_v (f := f) (n := n) (p := p) with ⟨hs, hs2⟩ | ⟨j, hj, hs2, hs⟩
  rotate_left
  · -- somebody
    have o := tW_o (by omega) hs2
    have nj : ¬ nI j = -1 := nI_m1 (by omega)
    rw [m0 (o 4 (by decide) (by omega)) (o 5 (by decide) (by omega)) (o 6 (by decide) (by omega))]
    unfold FX3_readLine FX8_readLine_b64
    rw [fSo he h.1, zbd_s, zlet_eq, hs, if_neg nj, if_pos (by decide), if_neg nj]
    exact fin _ _ (e_Person he h hk _)
  -- the words, in the class's order
  have cl : FX3_readLine 4 s = if tW f n p 0 = true then zbd (FX3_readAisle 4 s) (fun _ σ => FX3_readLine_b168 4 σ) else if tW f n p 1 = true then zbd (FX3_readWay 4 s) (fun _ σ => FX3_readLine_b168 4 σ) else if tW f n p 2 = true then zbd (FX3_readMirror 4 s) (fun _ σ => FX3_readLine_b168 4 σ) else if tW f n p 3 = true then zbd (FX3_readRule 4 s) (fun _ σ => FX3_readLine_b168 4 σ) else if tW f n p 4 = true then zbd (FX3_readSetting 4 1 1 9 s) (fun r σ => FX3_readLine_b168 4 (zup σ qt 3 r)) else if tW f n p 5 = true then zbd (FX3_readSetting 4 2 0 999 s) (fun r σ => FX3_readLine_b168 4 (zup σ qt 4 r)) else if tW f n p 6 = true then zbd (FX3_readSetting 4 4 0 2 s) (fun r σ => FX3_readLine_b168 4 (zup σ qt 5 r)) else zbd (FX3_fail 4 1 s) (fun _ σ => FX3_readLine_b168 4 σ) := by
    unfold FX3_readLine
    rw [fSo he h.1, zbd_s, zlet_eq, hs, if_pos rfl]
    simp only [W 0 (by decide), W 1 (by decide), W 2 (by decide), W 3 (by decide), W 4 (by decide), W 5 (by decide), W 6 (by decide), zbd_s, zlet_eq, h.1.pt hq, kdq hq, zgd_t]
    cases tW f n p 0
    · cases tW f n p 1
      · cases tW f n p 2
        · cases tW f n p 3
          · cases tW f n p 4
            · cases tW f n p 5
              · cases tW f n p 6 <;> simp only [b01_f, b01_t, if_true, if_false, li_1_0, Bool.false_eq_true]
              · simp only [b01_f, b01_t, if_true, if_false, li_1_0, Bool.false_eq_true]
            · simp only [b01_f, b01_t, if_true, if_false, li_1_0, Bool.false_eq_true]
          · simp only [b01_f, b01_t, if_true, if_false, li_1_0, Bool.false_eq_true]
        · simp only [b01_f, b01_t, if_true, if_false, li_1_0, Bool.false_eq_true]
      · simp only [b01_f, b01_t, if_true, if_false, li_1_0, Bool.false_eq_true]
    · simp only [b01_t, if_true, if_false, li_1_0]
  have ml : FX8_readLine_b64 0 d 0 (-1) t = if tW f n p 0 = true then zbd (FX8_readAisle 0 t) (fun _ σ => FX8_readLine_b228 0 d 0 σ) else if tW f n p 1 = true then zbd (FX8_readTwo 0 1 t) (fun _ σ => FX8_readLine_b228 0 d 0 σ) else if tW f n p 2 = true then zbd (FX8_readTwo 0 2 t) (fun _ σ => FX8_readLine_b228 0 d 0 σ) else if tW f n p 3 = true then zbd (FX8_readRule 0 t) (fun _ σ => FX8_readLine_b228 0 d 0 σ) else zbd (FX8_wrong 0 1 t) (fun _ σ => FX8_readLine_b228 0 d 0 σ) := by
    unfold FX8_readLine_b64
    rw [if_pos (by decide), if_pos rfl]
    simp only [V 0 (by decide), V 1 (by decide), V 2 (by decide), V 3 (by decide), zbd_s]
    cases tW f n p 0
    · cases tW f n p 1
      · cases tW f n p 2
        · cases tW f n p 3 <;> simp only [b01_f, b01_t, if_true, if_false, li_1_0, Bool.false_eq_true]
        · simp only [b01_f, b01_t, if_true, if_false, li_1_0, Bool.false_eq_true]
      · simp only [b01_f, b01_t, if_true, if_false, li_1_0, Bool.false_eq_true]
    · simp only [b01_t, if_true, if_false, li_1_0]
  rw [cl]
  by_cases k0 : tW f n p 0 = true
  · have o := tW_o (by decide) k0
    rw [m0 (o 4 (by decide) (by decide)) (o 5 (by decide) (by decide)) (o 6 (by decide) (by decide)), hs, ml, if_pos k0, if_pos k0]
    exact fin _ _ (e_Aisle he h hk)
  rw [if_neg k0]
  by_cases k1 : tW f n p 1 = true
  · have o := tW_o (by decide) k1
    rw [m0 (o 4 (by decide) (by decide)) (o 5 (by decide) (by decide)) (o 6 (by decide) (by decide)), hs, ml, if_neg k0, if_pos k1, if_pos k1]
    exact fin _ _ (e_Way he h hk)
  rw [if_neg k1]
  by_cases k2 : tW f n p 2 = true
  · have o := tW_o (by decide) k2
    rw [m0 (o 4 (by decide) (by decide)) (o 5 (by decide) (by decide)) (o 6 (by decide) (by decide)), hs, ml, if_neg k0, if_neg k1, if_pos k2, if_pos k2]
    exact fin _ _ (e_Mirror he h hk)
  rw [if_neg k2]
  by_cases k3 : tW f n p 3 = true
  · have o := tW_o (by decide) k3
    rw [m0 (o 4 (by decide) (by decide)) (o 5 (by decide) (by decide)) (o 6 (by decide) (by decide)), hs, ml, if_neg k0, if_neg k1, if_neg k2, if_pos k3, if_pos k3]
    exact fin _ _ (e_Rule he h hk h5)
  rw [if_neg k3]
  have stt : ∀ (w : Int32) (c : Nat) (cs : Option (Int32 × zS)), (∃ r s1 s' t1 t' d', cs = some (r, s1) ∧ FX3_readSign 4 59 (zup s1 qt c r) = some t1 ∧ t1.2 = s' ∧ FX8_readLine 0 d t = some (d', t') ∧ lP f n qt s0 t0 v d' p ns s' t') → ∃ r s' d' t', zbd cs (fun r σ => FX3_readLine_b168 4 (zup σ qt c r)) = some (r, s') ∧ FX8_readLine 0 d t = some (d', t') ∧ lP f n qt s0 t0 v d' p ns s' t' := by
    rintro w c cs ⟨r, s1, s', t1, t', d', e1, e2, rfl, e3, L⟩
    refine ⟨0, t1.2, d', t', ?_, e3, L⟩
    unfold FX3_readLine_b168
    rw [e1, zbd_s, e2]
    rfl
  by_cases k4 : tW f n p 4 = true
  · have ms : FX8_readLine 0 d t = if (1 : Int32) &&& d = 0 then FX8_readLine_b64 0 d 1 (tSo f n p) t else zbd (FX8_wrong 0 5 t) (fun _ σ_38 => FX8_readLine_b64 0 d 1 (tSo f n p) σ_38) := by
      unfold FX8_readLine FX8_readLine_b43
      rw [V 4 (by decide), zbd_s, k4, b01_t, if_neg (by decide), zlet_eq, gSo he h.2.1 h.2.2.2.1, zbd_s, zlet_eq]
    rw [if_pos k4]
    refine stt 1 3 _ ?_
    rw [ms]
    exact e_Notice he h hk _
  rw [if_neg k4]
  by_cases k5 : tW f n p 5 = true
  · have ms : FX8_readLine 0 d t = if (2 : Int32) &&& d = 0 then FX8_readLine_b64 0 d 2 (tSo f n p) t else zbd (FX8_wrong 0 5 t) (fun _ σ_38 => FX8_readLine_b64 0 d 2 (tSo f n p) σ_38) := by
      unfold FX8_readLine FX8_readLine_b43
      rw [V 4 (by decide), zbd_s, Bool.eq_false_iff.mpr k4, b01_f, if_pos rfl, V 5 (by decide), zbd_s, k5, b01_t, if_neg (by decide), zlet_eq, gSo he h.2.1 h.2.2.2.1, zbd_s, zlet_eq]
    rw [if_pos k5]
    refine stt 2 4 _ ?_
    rw [ms]
    exact e_False he h hk _
  rw [if_neg k5]
  by_cases k6 : tW f n p 6 = true
  · have ms : FX8_readLine 0 d t = if (4 : Int32) &&& d = 0 then FX8_readLine_b64 0 d 4 (tSo f n p) t else zbd (FX8_wrong 0 5 t) (fun _ σ_38 => FX8_readLine_b64 0 d 4 (tSo f n p) σ_38) := by
      unfold FX8_readLine FX8_readLine_b43
      rw [V 4 (by decide), zbd_s, Bool.eq_false_iff.mpr k4, b01_f, if_pos rfl, V 5 (by decide), zbd_s, Bool.eq_false_iff.mpr k5, b01_f, if_pos rfl, V 6 (by decide), zbd_s, k6, b01_t, if_neg (by decide), zlet_eq, gSo he h.2.1 h.2.2.2.1, zbd_s, zlet_eq]
    rw [if_pos k6]
    refine stt 4 5 _ ?_
    rw [ms]
    exact e_Stops he h hk _
  rw [if_neg k6, m0 (Bool.eq_false_iff.mpr k4) (Bool.eq_false_iff.mpr k5) (Bool.eq_false_iff.mpr k6), hs, ml, if_neg k0, if_neg k1, if_neg k2, if_neg k3]
  obtain ⟨s1, t1, g1, g2, B1⟩ := h.fail (k := 1) (by decide)
  exact fin _ _ ⟨0, s1, 0, t1, g1, g2, Or.inr B1⟩
/-- all lines -/
theorem e_Lines (he : en f n qt s0 t0) : ∀ k v d p ns s t i, n ≤ k + tB f n p → sA f n qt s0 t0 v d p ns s t → v 5 = ns → i ≤ tB f n p → ∃ s' t', zlp (fun q : Int32 × zS => FX3_read_L38 4 (nI n) q.1 q.2) (nI i, s) = FX3_read_b67 4 s' ∧ zlp (fun q : Int32 × zS => FX8_shop_L109 0 q.1 q.2) (d, t) = FX8_shop_b132 0 t' ∧ ((∃ v' d' p' ns', sA f n qt s0 t0 v' d' p' ns' s' t' ∧ v' 5 = ns') ∨ sB f n qt s0 t0 s' t') := by
  obtain ⟨n7, hq, -⟩ := id he
  intro k
  have stopB : ∀ (i : Int32) (d : Int32) (s t : zS), sB f n qt s0 t0 s t → zlp (fun q : Int32 × zS => FX3_read_L38 4 (nI n) q.1 q.2) (i, s) = FX3_read_b67 4 s ∧ zlp (fun q : Int32 × zS => FX8_shop_L109 0 q.1 q.2) (d, t) = FX8_shop_b132 0 t := by
    intro i d s t B
    refine ⟨zlp_exit ?_, zlp_exit ?_⟩
    · show FX3_read_L38 4 (nI n) i s = _
      unfold FX3_read_L38
      rw [if_neg B.2.2.1]
      split <;> rfl
    · show FX8_shop_L109 0 d t = _
      unfold FX8_shop_L109
      rw [if_neg B.b]
  have step : ∀ v d p ns s t i, sA f n qt s0 t0 v d p ns s t → v 5 = ns → i ≤ tB f n p → (∀ v' d' p' ns' s' t', sA f n qt s0 t0 v' d' p' ns' s' t' → v' 5 = ns' → tB f n p < tB f n p' → ∃ s'' t'', zlp (fun q : Int32 × zS => FX3_read_L38 4 (nI n) q.1 q.2) (nI (i + 1), s') = FX3_read_b67 4 s'' ∧ zlp (fun q : Int32 × zS => FX8_shop_L109 0 q.1 q.2) (d', t') = FX8_shop_b132 0 t'' ∧ ((∃ v' d' p' ns', sA f n qt s0 t0 v' d' p' ns' s'' t'' ∧ v' 5 = ns') ∨ sB f n qt s0 t0 s'' t'')) → ∃ s' t', zlp (fun q : Int32 × zS => FX3_read_L38 4 (nI n) q.1 q.2) (nI i, s) = FX3_read_b67 4 s' ∧ zlp (fun q : Int32 × zS => FX8_shop_L109 0 q.1 q.2) (d, t) = FX8_shop_b132 0 t' ∧ ((∃ v' d' p' ns', sA f n qt s0 t0 v' d' p' ns' s' t' ∧ v' 5 = ns') ∨ sB f n qt s0 t0 s' t') := by
    intro v d p ns s t i h h5 hi next
    have hb := tB_b (f := f) h.1.2.2.2.1
    have cL : FX3_read_L38 4 (nI n) (nI i) s = if tK f n p = 0 then zinr (FX3_read_b67 4 s) else zbd (FX3_readLine 4 s) (fun _ σ_4 => some (.inl (nI (i + 1), σ_4))) := by
      unfold FX3_read_L38
      rw [if_neg (nI_nlt (by omega) (by omega)), if_pos h.2.2.1]
      by_cases c : tK f n p = 0
      · rw [if_pos c, if_pos (show s 4 3 = 0 from (h.k3 0 (by decide)).mpr c)]
      · rw [if_neg c, if_neg (show ¬ s 4 3 = 0 from fun z => c ((h.k3 0 (by decide)).mp z))]
        refine congrArg _ (funext fun r => funext fun σ => ?_)
        rw [zlet_eq, nI_1]
    have mL : FX8_shop_L109 0 d t = if tK f n p = 0 then zinr (FX8_shop_b132 0 t) else zbd (FX8_readLine 0 d t) (fun r σ => some (.inl (r, σ))) := by
      unfold FX8_shop_L109
      rw [if_pos h.2.2.2.1]
      by_cases c : tK f n p = 0
      · rw [if_pos c, if_pos (show t 0 21 = 0 from (h.m3 0 (by decide)).mpr (tJ_0.mpr c))]
      · rw [if_neg c, if_neg (show ¬ t 0 21 = 0 from fun z => c (tJ_0.mp ((h.m3 0 (by decide)).mp z)))]
        rfl
    by_cases c : tK f n p = 0
    · rw [if_pos c] at cL mL
      exact ⟨s, t, zlp_exit cL, zlp_exit mL, Or.inl ⟨v, d, p, ns, h, h5⟩⟩
    · obtain ⟨r, s1, d1, t1, e1, e2, L⟩ := e_Line he h c h5
      rw [if_neg c, e1, zbd_s] at cL
      rw [if_neg c, e2, zbd_s] at mL
      have z1 := zlp_step (f := fun q : Int32 × zS => FX3_read_L38 4 (nI n) q.1 q.2) (a := (nI i, s)) (a' := (nI (i + 1), s1)) cL
      have z2 := zlp_step (f := fun q : Int32 × zS => FX8_shop_L109 0 q.1 q.2) (a := (d, t)) (a' := (d1, t1)) mL
      rcases L with ⟨v', p', ns', A, q1, q2⟩ | B
      · obtain ⟨s2, t2, y1, y2, y3⟩ := next v' d1 p' ns' s1 t1 A (q2 h5) q1
        exact ⟨s2, t2, z1.trans y1, z2.trans y2, y3⟩
      · obtain ⟨y1, y2⟩ := stopB (nI (i + 1)) d1 s1 t1 B
        exact ⟨s1, t1, z1.trans y1, z2.trans y2, Or.inr B⟩
  induction k with
  | zero =>
    intro v d p ns s t i hk h h5 hi
    refine step v d p ns s t i h h5 hi (fun v' d' p' ns' s' t' A _ q => ?_)
    have := tB_b (f := f) A.1.2.2.2.1
    omega
  | succ k ih =>
    intro v d p ns s t i hk h h5 hi
    exact step v d p ns s t i h h5 hi (fun v' d' p' ns' s' t' A h5' q => ih v' d' p' ns' s' t' (i + 1) (by omega) A h5' (by omega))
end
