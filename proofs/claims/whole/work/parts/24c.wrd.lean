/-! where both readers are: the class (its reader is cell 4, the shop it tells qt), the reference -/
def en (f : Nat → Int32) (n qt : Nat) (s0 t0 : zS) : Prop := n ≤ 700 ∧ (qt = 46 ∨ qt = 64) ∧ ∀ j, j < 700 → s0 5 j = f j ∧ t0 17 j = f j ∧ ¬ f j = -1
def cS (f : Nat → Int32) (n qt : Nat) (s0 : zS) (p : Nat) (s : zS) : Prop := (∀ k j, k ≠ 4 → ¬ (qt ≤ k ∧ k < qt + 18) → s k j = s0 k j) ∧ s 4 1 = nI qt ∧ s 4 2 = nI n ∧ p ≤ n ∧ s 4 3 = nI (tK f n p) ∧ s 4 4 = nI (tB f n p) ∧ s 4 5 = nI (tE f n p) ∧ s 4 6 = tV f n p
/-- what the reference's reader may change -/
def mfr (k j : Nat) : Bool := (k == 0 && 19 ≤ j && j ≤ 26) || (k == 3 && 9 ≤ j) || (4 ≤ k && k ≤ 7 && 10 ≤ j) || (8 ≤ k && k ≤ 12 && 8 ≤ j) || (k == 13 && 96 ≤ j) || (k == 14 && 4 ≤ j) || (k == 15 && 700 ≤ j)
def mF (t0 t : zS) : Prop := ∀ k j, mfr k j = false → t k j = t0 k j
def mS (f : Nat → Int32) (n : Nat) (t0 : zS) (p : Nat) (t : zS) : Prop := mF t0 t ∧ t 0 20 = nI n ∧ p ≤ n ∧ t 0 19 = nI (tE f n p) ∧ t 0 21 = nI (tJ f n p) ∧ t 0 23 = nI (tB f n p) ∧ t 0 24 = nI (tE f n p) ∧ (tK f n p = 2 → tE f n p - tB f n p ≤ 4 → t 0 22 = nI (tvv f (tB f n p) (tE f n p - tB f n p)))
theorem mF.up {t0 t : zS} {k j : Nat} {v : Int32} (h : mF t0 t) (hk : mfr k j = true) : mF t0 (zup t k j v) := by
  intro x y hx
  rw [zup_at, if_neg (fun z => by rw [z.1, z.2, hk] at hx; cases hx)]
  exact h x y hx
theorem mF.tr {a b c : zS} (h : mF a b) (h2 : mF b c) : mF a c := fun k j hk => (h2 k j hk).trans (h k j hk)
theorem fTok {f : Nat → Int32} {n qt : Nat} {s0 t0 : zS} {p : Nat} {s : zS} (he : en f n qt s0 t0) (h : cS f n qt s0 p s) : ∃ s', FX3_readToken 4 s = some (0, s') ∧ cS f n qt s0 (tE f n p) s' ∧ ∀ x j, ¬ (x = 4 ∧ 3 ≤ j ∧ j ≤ 6) → s' x j = s x j := by
  obtain ⟨n7, hq, ht⟩ := he
  obtain ⟨c1, c2, c3, c4, c5, c6, c7, c8⟩ := h
  obtain ⟨s', a1, a2, a3, a4, a5, a6⟩ := fTk (s := s) (f := f) n7 (tE_b c4).2 c3 c7 (fun j hj => by rw [c1 5 j (by omega) (by omega)]; exact (ht j hj).1)
  refine ⟨s', a1, ⟨fun k j k1 k2 => ?_, ?_, ?_, (tE_b c4).2, a3, a4, a5, a6⟩, a2⟩
  · rw [a2 k j (by omega)]; exact c1 k j k1 k2
  · rw [a2 4 1 (by omega)]; exact c2
  · rw [a2 4 2 (by omega)]; exact c3
theorem gTok {f : Nat → Int32} {n qt : Nat} {s0 t0 : zS} {p : Nat} {t : zS} (he : en f n qt s0 t0) (h : mS f n t0 p t) : ∃ t', FX8_stepOn 0 t = some (0, t') ∧ mS f n t0 (tE f n p) t' ∧ ∀ x j, ¬ (x = 0 ∧ (j = 19 ∨ (21 ≤ j ∧ j ≤ 24))) → t' x j = t x j := by
  obtain ⟨n7, hq, ht⟩ := he
  obtain ⟨c1, c2, c3, c4, c5, c6, c7, c8⟩ := h
  have t17 : ∀ j, j < 700 → t 17 j = f j := fun j hj => by rw [c1 17 j (by unfold mfr; simp)]; exact (ht j hj).2.1
  obtain ⟨t', a1, a2, a3, a4, a5, a6, a7⟩ := gTkn (t := t) (f := f) n7 (tE_b c3).2 c2 c4 t17 (fun j hj => (ht j hj).2.2)
  refine ⟨t', a1, ⟨fun k j hk => ?_, ?_, (tE_b c3).2, a3, a4, a5, a6, a7⟩, a2⟩
  · rw [a2 k j (fun z => by
      rw [z.1] at hk
      unfold mfr at hk
      simp at hk
      omega)]
    exact c1 k j hk
  · rw [a2 0 20 (by omega)]; exact c2
/-! words and signs -/
def tW (f : Nat → Int32) (n p k : Nat) : Bool := decide (tK f n p = 1) && (decide (tE f n p - tB f n p = zLen.getD k 0) && (List.range (zLen.getD k 0)).all (fun i => decide (f (tB f n p + i) = (zByt.getD k []).getD i 0)))
def tS (f : Nat → Int32) (n p : Nat) (c : Int32) : Bool := decide (tK f n p = 3) && decide (f (tB f n p) = c)
theorem all_f {L i : Nat} {P : Nat → Bool} (hi : i < L) (h : P i = false) : (List.range L).all P = false := by
  rw [List.all_eq_false]
  exact ⟨i, List.mem_range.mpr hi, by rw [h]; decide⟩
theorem all_t {L : Nat} {P : Nat → Bool} (h : ∀ i, i < L → P i = true) : (List.range L).all P = true := by
  rw [List.all_eq_true]
  intro k hk
  exact h k (List.mem_range.mp hk)
theorem zl_s {k : Nat} (h : k < 21) : zLen.getD k 0 < 2 ^ 31 := (zlen_ok k h).1
theorem fJl {k : Nat} {s : zS} (h : k < 21) : FJ0_length_8abf5 k s = some (nI (zLen.getD k 0), s) := if_pos h
theorem fJc {k i : Nat} {s : zS} (h : k < 21) (hi : i < zLen.getD k 0) : FJ0_charAt_5068e k (nI i) s = some ((zByt.getD k []).getD i 0, s) := by
  have := zl_s h
  unfold FJ0_charAt_5068e
  rw [if_pos (show k < zN from h), zin_n _ hi this, nI_clamp (by omega)]
theorem fWd {f : Nat → Int32} {n qt : Nat} {s0 t0 : zS} {p k : Nat} {s : zS} (he : en f n qt s0 t0) (h : cS f n qt s0 p s) (hk : k < 21) : FX3_isWord 4 k s = some (b01 (tW f n p k), s) := by
  obtain ⟨n7, hq, ht⟩ := he
  obtain ⟨c1, c2, c3, c4, c5, c6, c7, c8⟩ := h
  have hB := tB_b (f := f) c4
  have hE := tE_b (f := f) c4
  have hL := zl_s hk
  have K3 := tK_4 (f := f) (n := n) (p := p)
  unfold FX3_isWord FX3_isWord_b24 tW
  rw [c5, c6, c7, zgd_n0]
  by_cases e1 : tK f n p = 1
  rotate_left
  · rw [if_neg (show ¬ nI (tK f n p) = 1 from fun z => e1 ((nI_eq (b := 1) (by omega) (by decide)).mp z)), decide_eq_false e1]; rfl
  rw [e1, if_pos (show nI 1 = 1 from rfl), fJl hk, zbd_s, pk_sub hE.1]
  by_cases e2 : tE f n p - tB f n p = zLen.getD k 0
  rotate_left
  · rw [if_neg (fun z => e2 ((nI_eq (by omega) hL).mp z)), decide_eq_false e2]; rfl
  rw [if_pos (by rw [e2]), zlet_eq, decide_eq_true e2, decide_eq_true rfl, Bool.true_and, Bool.true_and]
  generalize hP : (fun i => decide (f (tB f n p + i) = (zByt.getD k []).getD i 0)) = P
  have Pv : ∀ i, P i = decide (f (tB f n p + i) = (zByt.getD k []).getD i 0) := fun i => by rw [← hP]
  generalize hLL : zLen.getD k 0 = L at *
  have key : ∀ m i, i + m = L → (∀ j, j < i → P j = true) → zlp (fun q : Int32 × zS => FX3_isWord_L28 4 k q.1 q.2) (nI i, s) = some (b01 ((List.range L).all P), s) := by
    intro m
    induction m with
    | zero =>
      intro i hi hj
      rw [all_t (fun j hj2 => hj j (by omega))]
      refine zlp_end ?_
      show FX3_isWord_L28 4 k (nI i) s = _
      unfold FX3_isWord_L28 FX3_isWord_b65
      rw [fJl hk, hLL, zbd_s, if_pos (nI_le (by omega) (by omega)), zgd_n1]
      rfl
    | succ m ih =>
      intro i hi hj
      have st : FX3_isWord_L28 4 k (nI i) s = if P i = true then some (.inl (nI (i + 1), s)) else some (.inr (0, s)) := by
        unfold FX3_isWord_L28 FX3_isWord_b57
        rw [fJl hk, hLL, zbd_s, if_neg (nI_ge (by omega) hL), c6, nI_add, show (4 + 1 : Nat) = 5 from rfl, fat', show ln 0 5 = 700 from rfl, rd_n (by omega : tB f n p + i < 700) (by decide), zbd_s, fJc hk (by omega), zbd_s, c1 5 _ (by omega) (by omega), (ht _ (by omega)).1, zlet_eq, nI_1, zgd_n0, zinr_s, Pv]
        by_cases c : f (tB f n p + i) = (zByt.getD k []).getD i 0
        · rw [if_pos c, decide_eq_true c, if_pos rfl]
        · rw [if_neg c, decide_eq_false c, if_neg (by decide)]
      by_cases c : P i = true
      · rw [if_pos c] at st
        refine (zlp_step (a' := (nI (i + 1), s)) st).trans (ih (i + 1) (by omega) (fun j hj2 => ?_))
        by_cases e : j = i
        · rw [e]; exact c
        · exact hj j (by omega)
      · rw [if_neg c] at st
        rw [all_f (i := i) (by omega) (Bool.eq_false_iff.mpr c)]
        exact zlp_end st
  exact key L 0 (Nat.zero_add L) (fun j hj => by omega)
theorem gWd {f : Nat → Int32} {n qt : Nat} {s0 t0 : zS} {p k : Nat} {t : zS} (he : en f n qt s0 t0) (h : mS f n t0 p t) (h0 : t 0 25 = 0) (hk : k < 21) : FX8_is 0 k t = some (b01 (tW f n p k), t) := by
  obtain ⟨n7, hq, ht⟩ := he
  obtain ⟨c1, c2, c3, c4, c5, c6, c7, c8⟩ := h
  have hB := tB_b (f := f) c3
  have hE := tE_b (f := f) c3
  have hL := zl_s hk
  have K3 := tK_4 (f := f) (n := n) (p := p)
  have no : FX8_is_b35 0 k t = some (0, t) := by
    unfold FX8_is_b35 FX8_is_b36
    rw [zlet_eq, zlet_eq]
    refine zlp_end ?_
    show FX8_is_L39 0 k 0 0 t = _
    unfold FX8_is_L39 FX8_is_b82
    rw [if_pos rfl, zgd_00]
    rfl
  have eJ : tJ f n p = 1 ↔ tK f n p = 1 := by
    unfold tJ
    split
    · split <;> omega
    · exact Iff.rfl
  have J4 : tJ f n p ≤ 4 := by
    unfold tJ
    split
    · split <;> omega
    · omega
  unfold FX8_is tW
  rw [if_pos h0, c5, no]
  by_cases e1 : tK f n p = 1
  rotate_left
  · rw [if_neg (show ¬ nI (tJ f n p) = 1 from fun z => e1 (eJ.mp ((nI_eq (b := 1) (by omega) (by decide)).mp z))), decide_eq_false e1]; rfl
  rw [eJ.mpr e1, if_pos (show nI 1 = 1 from rfl), fJl hk, zbd_s, c6, c7, pk_sub hE.1]
  by_cases e2 : tE f n p - tB f n p = zLen.getD k 0
  rotate_left
  · rw [if_neg (fun z => e2 ((nI_eq hL (by omega)).mp z).symm), no, decide_eq_false e2, decide_eq_true e1]; rfl
  rw [if_pos (by rw [e2])]
  unfold FX8_is_b36
  rw [zlet_eq, zlet_eq, decide_eq_true e2, decide_eq_true e1, Bool.true_and, Bool.true_and]
  generalize hP : (fun i => decide (f (tB f n p + i) = (zByt.getD k []).getD i 0)) = P
  have Pv : ∀ i, P i = decide (f (tB f n p + i) = (zByt.getD k []).getD i 0) := fun i => by rw [← hP]
  generalize hLL : zLen.getD k 0 = L at *
  have ex0 : ∀ i : Int32, zlp (fun q : Int32 × Int32 × zS => FX8_is_L39 0 k q.1 q.2.1 q.2.2) (0, i, t) = some (0, t) := by
    intro i
    refine zlp_end ?_
    show FX8_is_L39 0 k 0 i t = _
    unfold FX8_is_L39 FX8_is_b82
    rw [if_pos rfl, zgd_00]
    rfl
  have key : ∀ m i, i + m = L → (∀ j, j < i → P j = true) → zlp (fun q : Int32 × Int32 × zS => FX8_is_L39 0 k q.1 q.2.1 q.2.2) (1, nI i, t) = some (b01 ((List.range L).all P), t) := by
    intro m
    induction m with
    | zero =>
      intro i hi hj
      rw [all_t (fun j hj2 => hj j (by omega))]
      refine zlp_end ?_
      show FX8_is_L39 0 k 1 (nI i) t = _
      unfold FX8_is_L39 FX8_is_b82
      rw [if_neg (by decide), fJl hk, hLL, zbd_s, if_pos (nI_le (by omega) (by omega)), zgd_11]
      rfl
    | succ m ih =>
      intro i hi hj
      have st : FX8_is_L39 0 k 1 (nI i) t = if P i = true then some (.inl (1, nI (i + 1), t)) else some (.inl (0, nI (i + 1), t)) := by
        unfold FX8_is_L39 FX8_is_b75
        rw [if_neg (by decide), fJl hk, hLL, zbd_s, if_neg (nI_ge (by omega) hL), fJc hk (by omega), zbd_s, c6, nI_add, show (0 + 17 : Nat) = 17 from rfl, show ln 1 17 = 700 from rfl, zin_n _ (by omega : tB f n p + i < 700) (by decide), nI_clamp (by omega : tB f n p + i < 2 ^ 31), c1 17 _ (by unfold mfr; simp), (ht _ (by omega)).2.1, zlet_eq, zlet_eq, zlet_eq, zlet_eq, nI_1, Pv]
        by_cases c : f (tB f n p + i) = (zByt.getD k []).getD i 0
        · rw [if_pos c.symm, decide_eq_true c, if_pos rfl]
        · rw [if_neg (fun z => c z.symm), decide_eq_false c, if_neg (by decide)]
      by_cases c : P i = true
      · rw [if_pos c] at st
        refine (zlp_step (a' := (1, nI (i + 1), t)) st).trans (ih (i + 1) (by omega) (fun j hj2 => ?_))
        by_cases e : j = i
        · rw [e]; exact c
        · exact hj j (by omega)
      · rw [if_neg c] at st
        rw [all_f (i := i) (by omega) (Bool.eq_false_iff.mpr c)]
        exact (zlp_step (a' := (0, nI (i + 1), t)) st).trans (ex0 _)
  exact key L 0 (Nat.zero_add L) (fun j hj => by omega)
theorem gWd0 {k : Nat} {t : zS} (h0 : ¬ t 0 25 = 0) : FX8_is 0 k t = some (0, t) := by
  unfold FX8_is FX8_is_b35 FX8_is_b36
  rw [if_neg h0, zlet_eq, zlet_eq]
  refine zlp_end ?_
  show FX8_is_L39 0 k 0 0 t = _
  unfold FX8_is_L39 FX8_is_b82
  rw [if_pos rfl, zgd_00]
  rfl
def fstI (w : Nat → Bool) : Nat → Nat → Int32
  | 0, _ => -1
  | m + 1, i => if w i = true then nI i else fstI w m (i + 1)
theorem gWhi {k1 L : Nat} {t : zS} {w : Nat → Bool} (hl : ln 1 k1 = L) (hL : L < 2 ^ 31) (hw : ∀ j, j < L → FX8_is 0 (zst k1 j) t = some (b01 (w j), t)) : FX8_which 0 k1 t = some (fstI w L 0, t) := by
  have key : ∀ m i, i + m = L → zlp (fun q : Int32 × zS => FX8_which_L2 0 k1 q.1 q.2) (nI i, t) = some (fstI w m i, t) := by
    intro m
    induction m with
    | zero =>
      intro i hi
      refine zlp_end ?_
      show FX8_which_L2 0 k1 (nI i) t = _
      unfold FX8_which_L2 FX8_which_b26
      rw [hl, if_pos (nI_le (by omega) (by omega))]
      rfl
    | succ m ih =>
      intro i hi
      have st : FX8_which_L2 0 k1 (nI i) t = if w i = true then some (.inr (nI i, t)) else some (.inl (nI (i + 1), t)) := by
        unfold FX8_which_L2 FX8_which_b18
        rw [hl, if_neg (nI_ge (by omega) hL), zin_n _ (by omega : i < L) hL, nI_clamp (by omega : i < 2 ^ 31), hw i (by omega), zbd_s, zlet_eq, nI_1]
        cases w i <;> rfl
      show _ = some (if w i = true then nI i else fstI w m (i + 1), t)
      by_cases c : w i = true
      · rw [if_pos c] at st ⊢
        exact zlp_end st
      · rw [if_neg c] at st ⊢
        exact (zlp_step (a' := (nI (i + 1), t)) st).trans (ih (i + 1) (by omega))
  unfold FX8_which
  rw [zlet_eq]
  exact key L 0 (Nat.zero_add L)
def tSo (f : Nat → Int32) (n p : Nat) : Int32 := fstI (fun j => tW f n p (7 + j)) 4 0
def tVa (f : Nat → Int32) (n p : Nat) : Int32 := fstI (fun j => tW f n p (14 + j)) 7 0
theorem fSo {f : Nat → Int32} {n qt : Nat} {s0 t0 : zS} {p : Nat} {s : zS} (he : en f n qt s0 t0) (h : cS f n qt s0 p s) : FX3_sortTold 4 s = some (tSo f n p, s) := by
  unfold FX3_sortTold FX3_sortTold_b47 tSo fstI fstI fstI fstI fstI
  simp only [fWd he h (by decide : 7 < 21), fWd he h (by decide : 8 < 21), fWd he h (by decide : 9 < 21), fWd he h (by decide : 10 < 21), zbd_s, Nat.reduceAdd]
  cases tW f n p 7 <;> cases tW f n p 8 <;> cases tW f n p 9 <;> cases tW f n p 10 <;> rfl
theorem fVa {f : Nat → Int32} {n qt : Nat} {s0 t0 : zS} {p : Nat} {s : zS} (he : en f n qt s0 t0) (h : cS f n qt s0 p s) : FX3_valueTold 4 s = some (tVa f n p, s) := by
  unfold FX3_valueTold FX3_valueTold_b88 tVa fstI fstI fstI fstI fstI fstI fstI fstI
  simp only [fWd he h (by decide : 14 < 21), fWd he h (by decide : 15 < 21), fWd he h (by decide : 16 < 21), fWd he h (by decide : 17 < 21), fWd he h (by decide : 18 < 21), fWd he h (by decide : 19 < 21), fWd he h (by decide : 20 < 21), zbd_s, Nat.reduceAdd]
  cases tW f n p 14
  · cases tW f n p 15
    · cases tW f n p 16 <;> cases tW f n p 17 <;> cases tW f n p 18 <;> cases tW f n p 19 <;> cases tW f n p 20 <;> rfl
    · rfl
  · rfl
theorem gSo {f : Nat → Int32} {n qt : Nat} {s0 t0 : zS} {p : Nat} {t : zS} (he : en f n qt s0 t0) (h : mS f n t0 p t) (h0 : t 0 25 = 0) : FX8_which 0 (0 + 1) t = some (tSo f n p, t) :=
  gWhi (L := 4) rfl (by decide) (fun j hj => by
    have e : zst (0 + 1) j = 7 + j := (by decide : ∀ j, j < 4 → zst 1 j = 7 + j) j hj
    rw [e]
    exact gWd he h h0 (by omega))
theorem gVa {f : Nat → Int32} {n qt : Nat} {s0 t0 : zS} {p : Nat} {t : zS} (he : en f n qt s0 t0) (h : mS f n t0 p t) (h0 : t 0 25 = 0) : FX8_which 0 (0 + 2) t = some (tVa f n p, t) :=
  gWhi (L := 7) rfl (by decide) (fun j hj => by
    have e : zst (0 + 2) j = 14 + j := (by decide : ∀ j, j < 7 → zst 2 j = 14 + j) j hj
    rw [e]
    exact gWd he h h0 (by omega))
theorem gSo0 {t : zS} (h0 : ¬ t 0 25 = 0) : FX8_which 0 (0 + 1) t = some (-1, t) := gWhi (L := 4) (w := fun _ => false) rfl (by decide) (fun j _ => gWd0 h0)
theorem fSg {f : Nat → Int32} {n qt : Nat} {s0 : zS} {p : Nat} {s : zS} {c : Int32} (h : cS f n qt s0 p s) : FX3_isSign 4 c s = some (b01 (tS f n p c), s) := by
  obtain ⟨c1, c2, c3, c4, c5, c6, c7, c8⟩ := h
  have K3 := tK_4 (f := f) (n := n) (p := p)
  unfold FX3_isSign FX3_isSign_b20 FX3_isSign_b21 tS
  rw [c5, c8, zgd_00, zgd_11]
  by_cases e : tK f n p = 3
  · have hV : tV f n p = f (tB f n p) := by unfold tV; rw [e, if_neg (by decide), if_pos rfl]
    rw [e, hV, if_pos (show nI 3 = 3 from rfl), decide_eq_true rfl, Bool.true_and]
    by_cases e2 : f (tB f n p) = c
    · rw [if_pos e2, decide_eq_true e2]; rfl
    · rw [if_neg e2, decide_eq_false e2]; rfl
  · rw [if_neg (show ¬ nI (tK f n p) = 3 from fun z => e ((nI_eq (b := 3) (by omega) (by decide)).mp z)), decide_eq_false e]; rfl
theorem gSg {f : Nat → Int32} {n qt : Nat} {s0 t0 : zS} {p : Nat} {t : zS} {c : Int32} (he : en f n qt s0 t0) (h : mS f n t0 p t) (h0 : t 0 25 = 0) (hc : mkd c = true) : FX8_isMarked 0 c t = some (b01 (tS f n p c), t) := by
  obtain ⟨n7, hq, ht⟩ := he
  obtain ⟨c1, c2, c3, c4, c5, c6, c7, c8⟩ := h
  have K3 := tK_4 (f := f) (n := n) (p := p)
  have hB := tB_b (f := f) c3
  unfold FX8_isMarked FX8_isMarked_b32 FX8_isMarked_b33 tS
  rw [if_pos h0, c5, c6, zgd_00, zgd_11]
  unfold tJ
  by_cases e : tK f n p = 3
  · have hb : tB f n p < n := (tK_b c3 (by omega)).1
    rw [if_pos e, decide_eq_true e, Bool.true_and, show (0 + 17 : Nat) = 17 from rfl, show ln 1 17 = 700 from rfl, zin_n _ (by omega : tB f n p < 700) (by decide), nI_clamp (by omega : tB f n p < 2 ^ 31), c1 17 _ (by unfold mfr; simp), (ht _ (by omega)).2.1]
    by_cases e2 : f (tB f n p) = c
    · rw [e2, if_pos hc, if_pos (show nI 3 = 3 from rfl), if_pos rfl, decide_eq_true rfl]; rfl
    · rw [if_neg e2, decide_eq_false e2]
      split <;> rfl
  · rw [if_neg e, if_neg (show ¬ nI (tK f n p) = 3 from fun z => e ((nI_eq (b := 3) (by omega) (by decide)).mp z)), decide_eq_false e]; rfl
theorem gSg0 {t : zS} {c : Int32} (h0 : ¬ t 0 25 = 0) : FX8_isMarked 0 c t = some (0, t) := by
  unfold FX8_isMarked FX8_isMarked_b32 FX8_isMarked_b33
  rw [if_neg h0, zgd_00]
