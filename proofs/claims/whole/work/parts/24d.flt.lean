/-! behind a FAULT: the class's reader goes on, and changes neither what is wrong nor where -/
def kFl (f : Nat → Int32) (n qt : Nat) (s0 : zS) (c : zS → Option (Int32 × zS)) : Prop := ∀ s p, cS f n qt s0 p s → ¬ s 4 8 = 0 → ∃ r s' p', c s = some (r, s') ∧ cS f n qt s0 p' s' ∧ s' 4 8 = s 4 8 ∧ s' 4 9 = s 4 9
section
variable {f : Nat → Int32} {n qt : Nat} {s0 t0 : zS}
theorem kFl.bd {c : zS → Option (Int32 × zS)} {g : Int32 → zS → Option (Int32 × zS)} (h : kFl f n qt s0 c) (hg : ∀ r, kFl f n qt s0 (fun s => g r s)) : kFl f n qt s0 (fun s => zbd (c s) (fun r s1 => g r s1)) := by
  intro s p hs h8
  obtain ⟨r, s1, p1, e1, e2, e3, e4⟩ := h s p hs h8
  obtain ⟨r2, s2, p2, d1, d2, d3, d4⟩ := hg r s1 p1 e2 (by rw [e3]; exact h8)
  exact ⟨r2, s2, p2, by show zbd (c s) _ = _; rw [e1, zbd_s]; exact d1, d2, d3.trans e3, d4.trans e4⟩
theorem kFl.iff {P : zS → Prop} {D : ∀ s, Decidable (P s)} {a b : zS → Option (Int32 × zS)} (ha : kFl f n qt s0 a) (hb : kFl f n qt s0 b) : kFl f n qt s0 (fun s => @ite _ (P s) (D s) (a s) (b s)) := by
  intro s p hs h8
  by_cases c : P s
  · obtain ⟨r, s1, p1, e1, e2⟩ := ha s p hs h8
    exact ⟨r, s1, p1, (if_pos c).trans e1, e2⟩
  · obtain ⟨r, s1, p1, e1, e2⟩ := hb s p hs h8
    exact ⟨r, s1, p1, (if_neg c).trans e1, e2⟩
theorem kFl.if0 {D : ∀ s : zS, Decidable (s 4 8 = 0)} {a b : zS → Option (Int32 × zS)} (hb : kFl f n qt s0 b) : kFl f n qt s0 (fun s => @ite _ (s 4 8 = 0) (D s) (a s) (b s)) := by
  intro s p hs h8
  obtain ⟨r, s1, p1, e1, e2⟩ := hb s p hs h8
  exact ⟨r, s1, p1, (if_neg h8).trans e1, e2⟩
theorem kFl.lt {a : zS → Int32} {b : Int32 → zS → Option (Int32 × zS)} (h : ∀ x, kFl f n qt s0 (fun s => b x s)) : kFl f n qt s0 (fun s => zlet (a s) (fun x => b x s)) := fun s p hs h8 => h (a s) s p hs h8
theorem kFl.sm {r : zS → Int32} : kFl f n qt s0 (fun s => some (r s, s)) := fun s p hs _ => ⟨r s, s, p, rfl, hs, rfl, rfl⟩
theorem kFl.ptr {g : Nat → zS → Option (Int32 × zS)} (hq : qt = 46 ∨ qt = 64) (h : kFl f n qt s0 (fun s => g qt s)) : kFl f n qt s0 (fun s => zgd (kd 0 (s 4 1).toNatClampNeg == 5) (zlet (s 4 1).toNatClampNeg (fun q => g q s))) := by
  intro s p hs h8
  obtain ⟨r, s1, p1, e1, e2⟩ := h s p hs h8
  refine ⟨r, s1, p1, ?_, e2⟩
  show zgd (kd 0 (s 4 1).toNatClampNeg == 5) (zlet (s 4 1).toNatClampNeg (fun q => g q s)) = _
  rw [hs.2.1, nI_clamp (by omega), show (kd 0 qt == 5) = true from by rcases hq with rfl | rfl <;> rfl, zgd_t, zlet_eq]
  exact e1
theorem cS.ptr {s : zS} {p : Nat} (h : cS f n qt s0 p s) (hq : qt = 46 ∨ qt = 64) {β : Type} (g : Nat → Option β) : zgd (kd 0 (s 4 1).toNatClampNeg == 5) (zlet (s 4 1).toNatClampNeg g) = g qt := by
  rw [h.2.1, nI_clamp (by omega), show (kd 0 qt == 5) = true from by rcases hq with rfl | rfl <;> rfl, zgd_t, zlet_eq]
theorem cS.up {s : zS} {p k j : Nat} {v : Int32} (h : cS f n qt s0 p s) (hq : qt = 46 ∨ qt = 64) (hk : qt ≤ k ∧ k < qt + 18) : cS f n qt s0 p (zup s k j v) := by
  obtain ⟨c1, c⟩ := h
  refine ⟨fun x y h1 h2 => ?_, ?_⟩
  · rw [zup_n (fun z => h2 (by omega))]; exact c1 x y h1 h2
  · rw [zup_n (by omega)]; exact c
theorem cS.up4 {s : zS} {p j : Nat} {v : Int32} (h : cS f n qt s0 p s) (hj : 7 ≤ j) : cS f n qt s0 p (zup s 4 j v) := by
  obtain ⟨c1, c2, c3, c4, c5, c6, c7, c8⟩ := h
  refine ⟨fun x y h1 h2 => ?_, ?_, ?_, c4, ?_, ?_, ?_, ?_⟩
  · rw [zup_n h1]; exact c1 x y h1 h2
  all_goals (rw [zup_at, if_neg (by omega)]; assumption)
theorem kFl.upq {k j : Nat} {v : zS → Int32} {b : zS → Option (Int32 × zS)} (hq : qt = 46 ∨ qt = 64) (hk : qt ≤ k ∧ k < qt + 18) (hb : kFl f n qt s0 (fun s => b s)) : kFl f n qt s0 (fun s => zlet (zup s k j (v s)) (fun s1 => b s1)) := by
  intro s p hs h8
  have e : ∀ i, zup s k j (v s) 4 i = s 4 i := fun i => by rw [zup_n (by omega)]
  obtain ⟨r, s1, p1, e1, e2, e3, e4⟩ := hb (zup s k j (v s)) p (hs.up hq hk) (by rw [e]; exact h8)
  exact ⟨r, s1, p1, e1, e2, by rw [e3, e], by rw [e4, e]⟩
theorem kFl.up7 {v : zS → Int32} {b : zS → Option (Int32 × zS)} (hb : kFl f n qt s0 (fun s => b s)) : kFl f n qt s0 (fun s => zlet (zup s 4 7 (v s)) (fun s1 => b s1)) := by
  intro s p hs h8
  have e : ∀ i, i ≠ 7 → zup s 4 7 (v s) 4 i = s 4 i := fun i hi => by rw [zup_at, if_neg (by omega)]
  obtain ⟨r, s1, p1, e1, e2, e3, e4⟩ := hb (zup s 4 7 (v s)) p (hs.up4 (by decide)) (by rw [e 8 (by decide)]; exact h8)
  exact ⟨r, s1, p1, e1, e2, by rw [e3, e 8 (by decide)], by rw [e4, e 9 (by decide)]⟩
theorem k_tok (he : en f n qt s0 t0) : kFl f n qt s0 (fun s => FX3_readToken 4 s) := by
  intro s p hs h8
  obtain ⟨s', a1, a2, a3⟩ := fTok he hs
  exact ⟨0, s', _, a1, a2, a3 4 8 (by omega), a3 4 9 (by omega)⟩
theorem k_fail {x : Int32} : kFl f n qt s0 (fun s => FX3_fail 4 x s) := by
  simp only [FX3_fail, FX3_fail_b20]
  exact kFl.if0 kFl.sm
theorem k_word (he : en f n qt s0 t0) {k : Nat} (hk : k < 21) : kFl f n qt s0 (fun s => FX3_isWord 4 k s) := fun s p hs _ => ⟨_, s, p, fWd he hs hk, hs, rfl, rfl⟩
theorem k_sign {c : Int32} : kFl f n qt s0 (fun s => FX3_isSign 4 c s) := fun s p hs _ => ⟨_, s, p, fSg hs, hs, rfl, rfl⟩
theorem k_sort (he : en f n qt s0 t0) : kFl f n qt s0 (fun s => FX3_sortTold 4 s) := fun s p hs _ => ⟨_, s, p, fSo he hs, hs, rfl, rfl⟩
theorem k_valT (he : en f n qt s0 t0) : kFl f n qt s0 (fun s => FX3_valueTold 4 s) := fun s p hs _ => ⟨_, s, p, fVa he hs, hs, rfl, rfl⟩
theorem k_at {k : Nat} {i : zS → Int32} : kFl f n qt s0 (fun s => FX7_at k (i s) s) := fun s p hs _ => ⟨_, s, p, fat' k (i s) s, hs, rfl, rfl⟩
theorem k_put {k : Nat} {i v : zS → Int32} (hq : qt = 46 ∨ qt = 64) (hk : qt ≤ k ∧ k < qt + 18) : kFl f n qt s0 (fun s => FX7_put k (i s) (v s) s) := by
  intro s p hs _
  refine ⟨0, pt (ln 0 k) s k (i s) (v s), p, fput' k (i s) (v s) s, ?_, ?_, ?_⟩
  · unfold pt
    split
    · exact hs
    split
    · exact hs
    · exact hs.up hq hk
  · rw [pt_o (by omega)]
  · rw [pt_o (by omega)]
def hds (x y : Int32) : Bool := !decide (y < 0) && (!decide (32 ≤ y) && !decide ((x >>> (y &&& 31)) &&& 1 = 0))
theorem fhds {x y : Int32} {s : zS} : FX7_holds x y s = some (b01 (hds x y), s) := by
  unfold FX7_holds FX7_holds_b22 FX7_holds_b23 hds
  rw [zgd_00, zgd_11]
  by_cases c1 : y < 0
  · rw [if_pos c1, decide_eq_true c1]; rfl
  by_cases c2 : 32 ≤ y
  · rw [if_neg c1, if_pos c2, decide_eq_true c2, decide_eq_false c1]; rfl
  by_cases c3 : (x >>> (y &&& 31)) &&& 1 = 0
  · rw [if_neg c1, if_neg c2, if_pos c3, decide_eq_true c3, decide_eq_false c2, decide_eq_false c1]; rfl
  · rw [if_neg c1, if_neg c2, if_neg c3, decide_eq_false c3, decide_eq_false c2, decide_eq_false c1]; rfl
theorem hds_n {x : Int32} {p : Nat} (hp : p < 32) : hds x (nI p) = bt x p := by
  have h1 := fhds (x := x) (y := nI p) (s := fun _ _ => 0)
  rw [fholds _ hp] at h1
  have := (congrArg Prod.fst (Option.some.inj h1))
  exact (b01_inj.mp this).symm
theorem k_hd {x y : zS → Int32} : kFl f n qt s0 (fun s => FX7_holds (x s) (y s) s) := fun s p hs _ => ⟨_, s, p, fhds, hs, rfl, rfl⟩
theorem k_bit {x : zS → Int32} : kFl f n qt s0 (fun s => FX7_bit (x s) s) := fun s p hs _ => ⟨_, s, p, rfl, hs, rfl, rfl⟩
theorem fha2 {k : Nat} {x : Int32} {s : zS} : FX1_hasAisle k x s = some (b01 (!decide (x < 0) && !decide (s k 0 ≤ x)), s) := by
  unfold FX1_hasAisle FX1_hasAisle_b16 FX1_hasAisle_b17
  rw [zgd_00, zgd_11]
  by_cases c1 : x < 0
  · rw [if_pos c1, decide_eq_true c1]; rfl
  by_cases c2 : s k 0 ≤ x
  · rw [if_neg c1, if_pos c2, decide_eq_true c2, decide_eq_false c1]; rfl
  · rw [if_neg c1, if_neg c2, decide_eq_false c2, decide_eq_false c1]; rfl
theorem fjos {k : Nat} {x y : Int32} {s : zS} : FX1_joins k x y s = some (b01 (hds (rd (ln 0 (k + 3)) (s (k + 3)) x) y), s) := by
  unfold FX1_joins
  rw [fat', zbd_s, fhds, zbd_s, b01_gd]
theorem k_has {k : Nat} {x : zS → Int32} : kFl f n qt s0 (fun s => FX1_hasAisle k (x s) s) := fun s p hs _ => ⟨_, s, p, fha2, hs, rfl, rfl⟩
theorem k_jo {k : Nat} {x y : zS → Int32} : kFl f n qt s0 (fun s => FX1_joins k (x s) (y s) s) := fun s p hs _ => ⟨_, s, p, fjos, hs, rfl, rfl⟩
theorem k_add (he : en f n qt s0 t0) {x : zS → Int32} : kFl f n qt s0 (fun s => FX4_add (qt + 14) (x s) s) := by
  obtain ⟨-, hq, -⟩ := he
  simp only [FX4_add]
  exact kFl.bd (k_put hq (by omega)) (fun _ => kFl.upq hq (by omega) kFl.sm)
theorem k_first (he : en f n qt s0 t0) {x y : zS → Int32} : kFl f n qt s0 (fun s => FX3_readFirst 4 (x s) (y s) s) := by
  simp only [FX3_readFirst, FX3_readFirst_b17]
  exact kFl.iff (kFl.bd (k_tok he) (fun _ => kFl.sm)) (kFl.bd k_fail (fun _ => kFl.sm))
theorem k_num (he : en f n qt s0 t0) {x y : zS → Int32} : kFl f n qt s0 (fun s => FX3_readNumber 4 (x s) (y s) s) := by
  simp only [FX3_readNumber, FX3_readNumber_b43, FX3_readNumber_b31]
  exact kFl.lt (fun _ => kFl.iff (kFl.iff (kFl.bd k_fail (fun _ => kFl.sm)) (kFl.iff (kFl.bd (k_tok he) (fun _ => kFl.sm)) (kFl.bd k_fail (fun _ => kFl.sm)))) (kFl.bd k_fail (fun _ => kFl.sm)))
theorem k_here (he : en f n qt s0 t0) : kFl f n qt s0 (fun s => FX3_aisleHere 4 s) := by
  obtain ⟨-, hq, -⟩ := id he
  simp only [FX3_aisleHere, FX3_aisleHere_b56]
  exact kFl.iff (kFl.iff (kFl.ptr hq (kFl.bd k_has (fun _ => kFl.iff (kFl.bd k_fail (fun _ => kFl.sm)) kFl.sm))) (kFl.bd k_fail (fun _ => kFl.sm))) (kFl.bd k_fail (fun _ => kFl.sm))
theorem k_rsig (he : en f n qt s0 t0) {c : Int32} : kFl f n qt s0 (fun s => FX3_readSign 4 c s) := by
  simp only [FX3_readSign, FX3_readSign_b20]
  exact kFl.bd k_sign (fun _ => kFl.iff (kFl.bd k_fail (fun _ => kFl.sm)) (kFl.bd (k_tok he) (fun _ => kFl.sm)))
theorem k_val (he : en f n qt s0 t0) {x : Int32} : kFl f n qt s0 (fun s => FX3_readValue 4 x s) := by
  obtain ⟨-, hq, -⟩ := id he
  simp only [FX3_readValue, FX3_readValue_b30]
  exact kFl.iff (kFl.bd k_fail (fun _ => kFl.sm)) (kFl.ptr hq (kFl.bd (k_add he) (fun _ => kFl.bd (k_tok he) (fun _ => kFl.sm))))
theorem k_aisle (he : en f n qt s0 t0) : kFl f n qt s0 (fun s => FX3_readAisle 4 s) := by
  obtain ⟨-, hq, -⟩ := id he
  simp only [FX3_readAisle, FX3_readAisle_b52]
  exact kFl.ptr hq (kFl.bd (k_first he) (fun _ => kFl.bd (k_num he) (fun _ => kFl.lt (fun _ => kFl.bd (k_num he) (fun _ => kFl.lt (fun _ => kFl.if0 kFl.sm))))))
theorem k_way (he : en f n qt s0 t0) : kFl f n qt s0 (fun s => FX3_readWay 4 s) := by
  obtain ⟨-, hq, -⟩ := id he
  simp only [FX3_readWay, FX3_readWay_b78, FX3_readWay_b55, FX3_readWay_b50]
  exact kFl.ptr hq (kFl.bd (k_first he) (fun _ => kFl.bd (k_here he) (fun _ => kFl.lt (fun _ => kFl.bd (k_tok he) (fun _ => kFl.bd (k_here he) (fun _ => kFl.lt (fun _ => kFl.iff (kFl.bd k_fail (fun _ => kFl.if0 kFl.sm)) (kFl.ptr hq (kFl.bd k_jo (fun _ => kFl.iff (kFl.if0 kFl.sm) (kFl.bd k_fail (fun _ => kFl.if0 kFl.sm))))))))))))
theorem k_mirror (he : en f n qt s0 t0) : kFl f n qt s0 (fun s => FX3_readMirror 4 s) := by
  obtain ⟨-, hq, -⟩ := id he
  simp only [FX3_readMirror, FX3_readMirror_b84, FX3_readMirror_b61, FX3_readMirror_b56]
  exact kFl.ptr hq (kFl.bd (k_first he) (fun _ => kFl.bd (k_here he) (fun _ => kFl.lt (fun _ => kFl.bd (k_tok he) (fun _ => kFl.bd (k_here he) (fun _ => kFl.lt (fun _ => kFl.iff (kFl.bd k_fail (fun _ => kFl.if0 kFl.sm)) (kFl.ptr hq (kFl.bd k_at (fun _ => kFl.bd k_hd (fun _ => kFl.iff (kFl.if0 kFl.sm) (kFl.bd k_fail (fun _ => kFl.if0 kFl.sm)))))))))))))
theorem k_set (he : en f n qt s0 t0) {w a b : Int32} : kFl f n qt s0 (fun s => FX3_readSetting 4 w a b s) := by
  simp only [FX3_readSetting, FX3_readSetting_b14]
  exact kFl.iff (kFl.up7 (kFl.bd (k_tok he) (fun _ => kFl.bd (k_num he) (fun _ => kFl.sm)))) (kFl.bd k_fail (fun _ => kFl.up7 (kFl.bd (k_tok he) (fun _ => kFl.bd (k_num he) (fun _ => kFl.sm)))))
theorem k_route (x : Int32) : kFl f n qt s0 (fun s => FX3_readRoute 4 x s) := by
  intro s p hs h8
  refine ⟨0, s, p, ?_, hs, rfl, rfl⟩
  show FX3_readRoute 4 x s = _
  unfold FX3_readRoute
  rw [zlet_eq, zlet_eq, zlet_eq]
  refine zlp_end ?_
  show FX3_readRoute_L7 4 x 0 0 0 s = _
  unfold FX3_readRoute_L7 FX3_readRoute_b135
  rw [if_neg (by decide), if_neg h8]
  rfl
theorem k_pers (he : en f n qt s0 t0) {x : Int32} : kFl f n qt s0 (fun s => FX3_readPerson 4 x s) := by
  obtain ⟨-, hq, -⟩ := id he
  simp only [FX3_readPerson, FX3_readPerson_b138, FX3_readPerson_b121]
  exact kFl.ptr hq (kFl.lt (fun _ => kFl.bd (k_first he) (fun _ => kFl.bd (k_put hq (by omega)) (fun _ => kFl.bd (k_num he) (fun _ => kFl.bd (k_put hq (by omega)) (fun _ => kFl.bd (k_num he) (fun _ => kFl.lt (fun _ => kFl.bd (k_put hq (by omega)) (fun _ => kFl.bd (k_num he) (fun _ => kFl.bd (k_put hq (by omega)) (fun _ => kFl.bd (k_route _) (fun _ => kFl.lt (fun _ => kFl.bd (k_put hq (by omega)) (fun _ => kFl.iff (kFl.bd k_fail (fun _ => kFl.if0 kFl.sm)) (kFl.iff (kFl.if0 kFl.sm) (kFl.bd k_fail (fun _ => kFl.if0 kFl.sm)))))))))))))))))
/-! an EXPR, behind a FAULT -/
def nE (w : Nat) : Nat := 13 * (6 - w) + 1
theorem k_Part (he : en f n qt s0 t0) {w m : Nat} (ih : ∀ m, nE (w + 1) ≤ m → kFl f n qt s0 (fun s => FGX m 0 4 (nI (w + 1)) 0 s)) (hm : nE (w + 1) + 1 ≤ m) : kFl f n qt s0 (fun s => FGX m 6 4 (nI w) 0 s) := by
  obtain ⟨-, hq, -⟩ := id he
  obtain ⟨k, rfl⟩ : ∃ k, m = k + 1 := ⟨m - 1, by omega⟩
  have h0 := ih k (by omega)
  show kFl f n qt s0 (fun s => FX3_readPart (FGX k) 4 (nI w) s)
  simp only [FX3_readPart, FX3_readPart_b82, nI_1]
  exact kFl.iff (kFl.ptr hq (kFl.bd (k_num he) (fun _ => kFl.bd (k_add he) (fun _ => kFl.sm)))) (kFl.iff (kFl.bd (k_valT he) (fun _ => kFl.bd (k_val he) (fun _ => kFl.sm))) (kFl.bd k_sign (fun _ => kFl.iff (kFl.bd k_fail (fun _ => kFl.sm)) (kFl.bd (k_tok he) (fun _ => kFl.bd h0 (fun _ => kFl.bd (k_rsig he) (fun _ => kFl.sm)))))))
theorem k_Prod {w m : Nat} (ih : ∀ m, nE (w + 1) + 1 ≤ m → kFl f n qt s0 (fun s => FGX m 6 4 (nI w) 0 s)) (hm : nE (w + 1) + 2 ≤ m) : kFl f n qt s0 (fun s => FGX m 5 4 (nI w) 0 s) := by
  obtain ⟨k, rfl⟩ : ∃ k, m = k + 1 := ⟨m - 1, by omega⟩
  show kFl f n qt s0 (fun s => FX3_readProduct (FGX k) 4 (nI w) s)
  simp only [FX3_readProduct]
  refine kFl.bd (ih k (by omega)) (fun _ => kFl.lt (fun x => ?_))
  intro s p hs h8
  refine ⟨0, s, p, zlp_end ?_, hs, rfl, rfl⟩
  show FX3_readProduct_L7 (FGX k) 4 (nI w) x s = _
  unfold FX3_readProduct_L7 FX3_readProduct_b82
  rw [if_neg h8]
  split <;> rfl
theorem k_Sum {w m : Nat} (ih : ∀ m, nE (w + 1) + 2 ≤ m → kFl f n qt s0 (fun s => FGX m 5 4 (nI w) 0 s)) (hm : nE (w + 1) + 3 ≤ m) : kFl f n qt s0 (fun s => FGX m 4 4 (nI w) 0 s) := by
  obtain ⟨k, rfl⟩ : ∃ k, m = k + 1 := ⟨m - 1, by omega⟩
  show kFl f n qt s0 (fun s => FX3_readSum (FGX k) 4 (nI w) s)
  simp only [FX3_readSum]
  refine kFl.bd (ih k (by omega)) (fun _ => kFl.lt (fun x => ?_))
  intro s p hs h8
  refine ⟨0, s, p, zlp_end ?_, hs, rfl, rfl⟩
  show FX3_readSum_L7 (FGX k) 4 (nI w) x s = _
  unfold FX3_readSum_L7 FX3_readSum_b82
  rw [if_neg h8]
  split <;> rfl
theorem k_Test {w m : Nat} (ih : ∀ m, nE (w + 1) + 3 ≤ m → kFl f n qt s0 (fun s => FGX m 4 4 (nI w) 0 s)) (hm : nE (w + 1) + 4 ≤ m) : kFl f n qt s0 (fun s => FGX m 3 4 (nI w) 0 s) := by
  obtain ⟨k, rfl⟩ : ∃ k, m = k + 1 := ⟨m - 1, by omega⟩
  show kFl f n qt s0 (fun s => FX3_readTest (FGX k) 4 (nI w) s)
  simp only [FX3_readTest, FX3_readTest_b67]
  exact kFl.bd (ih k (by omega)) (fun _ => kFl.if0 kFl.sm)
theorem k_Not (he : en f n qt s0 t0) {w : Nat} (ih : ∀ m, nE (w + 1) + 4 ≤ m → kFl f n qt s0 (fun s => FGX m 3 4 (nI w) 0 s)) : ∀ d c m, d + c = 6 → nE (w + 1) + 5 + d ≤ m → kFl f n qt s0 (fun s => FGX m 2 4 (nI w) (nI c) s) := by
  obtain ⟨-, hq, -⟩ := id he
  intro d
  induction d with
  | zero =>
    intro c m hc hm
    obtain ⟨k, rfl⟩ : ∃ k, m = k + 1 := ⟨m - 1, by omega⟩
    show kFl f n qt s0 (fun s => FX3_readNot (FGX k) 4 (nI w) (nI c) s)
    have h6 : ¬ nI c < 6 := nI_nlt (b := 6) (by omega) (by omega)
    simp only [FX3_readNot, FX3_readNot_b55, if_neg h6]
    exact kFl.bd (k_word he (by decide)) (fun _ => kFl.iff (kFl.bd (ih k (by omega)) (fun _ => kFl.sm)) (kFl.bd k_fail (fun _ => kFl.sm)))
  | succ d ihd =>
    intro c m hc hm
    obtain ⟨k, rfl⟩ : ∃ k, m = k + 1 := ⟨m - 1, by omega⟩
    show kFl f n qt s0 (fun s => FX3_readNot (FGX k) 4 (nI w) (nI c) s)
    have h2 := ihd (c + 1) k (by omega) (by omega)
    simp only [FX3_readNot, FX3_readNot_b55, nI_1]
    exact kFl.bd (k_word he (by decide)) (fun _ => kFl.iff (kFl.bd (ih k (by omega)) (fun _ => kFl.sm)) (kFl.iff (kFl.bd (k_tok he) (fun _ => kFl.bd h2 (fun _ => kFl.ptr hq (kFl.bd (k_add he) (fun _ => kFl.sm))))) (kFl.bd k_fail (fun _ => kFl.sm))))
theorem k_And {w m : Nat} (ih : ∀ m, nE (w + 1) + 11 ≤ m → kFl f n qt s0 (fun s => FGX m 2 4 (nI w) 0 s)) (hm : nE (w + 1) + 12 ≤ m) : kFl f n qt s0 (fun s => FGX m 1 4 (nI w) 0 s) := by
  obtain ⟨k, rfl⟩ : ∃ k, m = k + 1 := ⟨m - 1, by omega⟩
  show kFl f n qt s0 (fun s => FX3_readAnd (FGX k) 4 (nI w) s)
  simp only [FX3_readAnd]
  refine kFl.bd (ih k (by omega)) (fun _ => kFl.lt (fun x => ?_))
  intro s p hs h8
  refine ⟨0, s, p, zlp_end ?_, hs, rfl, rfl⟩
  show FX3_readAnd_L8 (FGX k) 4 (nI w) x s = _
  unfold FX3_readAnd_L8 FX3_readAnd_b59
  rw [if_neg h8]
  split <;> rfl
theorem k_Expr (he : en f n qt s0 t0) : ∀ d w m, d + w = 6 → nE w ≤ m → kFl f n qt s0 (fun s => FGX m 0 4 (nI w) 0 s) := by
  intro d
  induction d with
  | zero =>
    intro w m hw hm
    unfold nE at hm
    obtain ⟨k, rfl⟩ : ∃ k, m = k + 1 := ⟨m - 1, by omega⟩
    show kFl f n qt s0 (fun s => FX3_readExpr (FGX k) 4 (nI w) s)
    have h6 : ¬ nI w < 6 := nI_nlt (b := 6) (by omega) (by omega)
    simp only [FX3_readExpr, FX3_readExpr_b32, FX3_readExpr_b37, if_neg h6]
    exact kFl.iff (kFl.bd k_fail (fun _ => kFl.sm)) (kFl.iff (kFl.bd k_fail (fun _ => kFl.sm)) (kFl.bd k_sign (fun _ => kFl.iff (kFl.bd k_fail (fun _ => kFl.sm)) (kFl.bd k_fail (fun _ => kFl.sm)))))
  | succ d ihd =>
    intro w m hw hm
    have e : nE w = nE (w + 1) + 13 := by unfold nE; omega
    obtain ⟨k, rfl⟩ : ∃ k, m = k + 1 := ⟨m - 1, by omega⟩
    have hP : ∀ m, nE (w + 1) + 1 ≤ m → kFl f n qt s0 (fun s => FGX m 6 4 (nI w) 0 s) := fun m hm => k_Part he (fun m hm => ihd (w + 1) m (by omega) hm) hm
    have hPr : ∀ m, nE (w + 1) + 2 ≤ m → kFl f n qt s0 (fun s => FGX m 5 4 (nI w) 0 s) := fun m hm => k_Prod hP hm
    have hSu : ∀ m, nE (w + 1) + 3 ≤ m → kFl f n qt s0 (fun s => FGX m 4 4 (nI w) 0 s) := fun m hm => k_Sum hPr hm
    have hTe : ∀ m, nE (w + 1) + 4 ≤ m → kFl f n qt s0 (fun s => FGX m 3 4 (nI w) 0 s) := fun m hm => k_Test hSu hm
    have hNo : ∀ m, nE (w + 1) + 11 ≤ m → kFl f n qt s0 (fun s => FGX m 2 4 (nI w) 0 s) := fun m hm => k_Not he hTe 6 0 m rfl (by omega)
    have hAn := k_And (m := k) hNo (by omega)
    show kFl f n qt s0 (fun s => FX3_readExpr (FGX k) 4 (nI w) s)
    simp only [FX3_readExpr, FX3_readExpr_b32, FX3_readExpr_b37]
    refine kFl.iff (kFl.bd hAn (fun _ => kFl.lt (fun x => ?_))) (kFl.iff (kFl.bd k_fail (fun _ => kFl.sm)) (kFl.iff (kFl.bd k_fail (fun _ => kFl.sm)) (kFl.bd k_sign (fun _ => kFl.iff (kFl.bd k_fail (fun _ => kFl.sm)) (kFl.bd k_fail (fun _ => kFl.sm))))))
    intro s p hs h8
    refine ⟨0, s, p, zlp_end ?_, hs, rfl, rfl⟩
    show FX3_readExpr_L48 (FGX k) 4 (nI w) x s = _
    unfold FX3_readExpr_L48 FX3_readExpr_b98
    rw [if_neg h8]
    split <;> rfl
theorem k_rule (he : en f n qt s0 t0) : kFl f n qt s0 (fun s => FX3_readRule 4 s) := by
  obtain ⟨-, hq, -⟩ := id he
  simp only [FX3_readRule, FX3_readRule_b37]
  exact kFl.ptr hq (kFl.bd (k_first he) (fun _ => kFl.bd (k_Expr he 6 0 zfuel rfl (by decide)) (fun _ => kFl.if0 kFl.sm)))
theorem k_line (he : en f n qt s0 t0) : kFl f n qt s0 (fun s => FX3_readLine 4 s) := by
  obtain ⟨-, hq, -⟩ := id he
  simp only [FX3_readLine, FX3_readLine_b168]
  have hs := kFl.bd (k_rsig (c := 59) he) (fun _ => kFl.sm (r := fun _ => 0))
  refine kFl.bd (k_sort he) (fun _ => kFl.lt (fun _ => kFl.iff ?_ (kFl.bd (k_pers he) (fun _ => hs))))
  refine kFl.bd (k_word he (by decide)) (fun _ => kFl.iff ?_ (kFl.bd (k_aisle he) (fun _ => hs)))
  refine kFl.bd (k_word he (by decide)) (fun _ => kFl.iff ?_ (kFl.bd (k_way he) (fun _ => hs)))
  refine kFl.bd (k_word he (by decide)) (fun _ => kFl.iff ?_ (kFl.bd (k_mirror he) (fun _ => hs)))
  refine kFl.bd (k_word he (by decide)) (fun _ => kFl.iff ?_ (kFl.bd (k_rule he) (fun _ => hs)))
  refine kFl.bd (k_word he (by decide)) (fun _ => kFl.iff ?_ (kFl.ptr hq (kFl.bd (k_set he) (fun _ => kFl.upq hq (by omega) hs))))
  refine kFl.bd (k_word he (by decide)) (fun _ => kFl.iff ?_ (kFl.ptr hq (kFl.bd (k_set he) (fun _ => kFl.upq hq (by omega) hs))))
  refine kFl.bd (k_word he (by decide)) (fun _ => kFl.iff ?_ (kFl.ptr hq (kFl.bd (k_set he) (fun _ => kFl.upq hq (by omega) hs))))
  exact kFl.bd k_fail (fun _ => hs)
end
