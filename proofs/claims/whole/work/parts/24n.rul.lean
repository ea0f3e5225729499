/-! the reference's EXPR doesn't count RULES -/
def kG {β : Type} (g : β → zS) (c : zS → Option β) : Prop := ∀ t x, c t = some x → g x 3 13 = t 3 13
abbrev gS : Int32 × zS → zS := Prod.snd
abbrev gU : zS ⊕ (Int32 × zS) → zS := fun x => match x with | .inl a => a | .inr b => b.2
abbrev gV : (Int32 × zS) ⊕ (Int32 × zS) → zS := fun x => match x with | .inl a => a.2 | .inr b => b.2
abbrev gW : (Int32 × Int32 × zS) ⊕ (Int32 × zS) → zS := fun x => match x with | .inl a => a.2.2 | .inr b => b.2
theorem kG.bd {β : Type} {g : β → zS} {c : zS → Option (Int32 × zS)} {h : Int32 → zS → Option β} (hc : kG gS c) (hh : ∀ r, kG g (fun t => h r t)) : kG g (fun t => zbd (c t) (fun r t1 => h r t1)) := by
  intro t x hx
  cases e : c t with
  | none => have hx : zbd (c t) (fun r t1 => h r t1) = some x := hx; rw [e] at hx; cases hx
  | some y =>
    have hx : zbd (c t) (fun r t1 => h r t1) = some x := hx
    rw [e] at hx
    exact (hh y.1 y.2 x hx).trans (hc t y e)
theorem kG.bd2 {β : Type} {g : β → zS} {c : zS → Option (Int32 × zS)} {h : Int32 → zS → zS → Option β} (hc : kG gS c) (hh : ∀ r t0, kG g (fun t => h r t0 t)) : kG g (fun t => zbd (c t) (fun r t1 => h r t t1)) := by
  intro t x hx
  cases e : c t with
  | none => have hx : zbd (c t) (fun r t1 => h r t t1) = some x := hx; rw [e] at hx; cases hx
  | some y =>
    have hx : zbd (c t) (fun r t1 => h r t t1) = some x := hx
    rw [e] at hx
    exact (hh y.1 t y.2 x hx).trans (hc t y e)
theorem kG.iff {β : Type} {g : β → zS} {P : zS → Prop} {D : ∀ t, Decidable (P t)} {a b : zS → Option β} (ha : kG g a) (hb : kG g b) : kG g (fun t => @ite _ (P t) (D t) (a t) (b t)) := by
  intro t x hx
  have hx : @ite _ (P t) (D t) (a t) (b t) = some x := hx
  by_cases c : P t
  · rw [if_pos c] at hx; exact ha t x hx
  · rw [if_neg c] at hx; exact hb t x hx
theorem kG.lt {β : Type} {g : β → zS} {a : zS → Int32} {b : Int32 → zS → Option β} (h : ∀ x, kG g (fun t => b x t)) : kG g (fun t => zlet (a t) (fun x => b x t)) := fun t x hx => h (a t) t x hx
theorem kG.up {β : Type} {g : β → zS} {k : Nat} {j : zS → Nat} {v : zS → Int32} {b : zS → Option β} (hk : k ≠ 3 ∨ ∀ t, j t ≠ 13) (hb : kG g (fun t => b t)) : kG g (fun t => zlet (zup t k (j t) (v t)) (fun t1 => b t1)) := by
  intro t x hx
  refine (hb _ x hx).trans ?_
  rw [zup_at, if_neg (fun z => by
    rcases hk with hk | hk
    · exact hk z.1.symm
    · exact hk t z.2.symm)]
theorem kG.zi {β : Type} {g : β → zS} {n : Nat} {i : zS → Int32} {b : zS → Option β} (hb : kG g (fun t => b t)) : kG g (fun t => zin n (i t) (b t)) := by
  intro t x hx
  have hx : zin n (i t) (b t) = some x := hx
  unfold zin at hx
  split at hx
  · cases hx
  · exact hb t x hx
theorem kG.zg {β : Type} {g : β → zS} {c : zS → Bool} {b : zS → Option β} (hb : kG g (fun t => b t)) : kG g (fun t => zgd (c t) (b t)) := by
  intro t x hx
  have hx : zgd (c t) (b t) = some x := hx
  cases e : c t
  · rw [e] at hx; cases hx
  · rw [e] at hx; exact hb t x hx
theorem kG.inU {c : zS → Option (Int32 × zS)} (h : kG gS (fun t => c t)) : kG gU (fun t => zinr (c t)) := by
  intro t x hx
  have hx : zinr (c t) = some x := hx
  cases e : c t with
  | none => rw [e] at hx; cases hx
  | some y => rw [e] at hx; cases hx; exact h t y e
theorem kG.inV {c : zS → Option (Int32 × zS)} (h : kG gS (fun t => c t)) : kG gV (fun t => zinr (c t)) := by
  intro t x hx
  have hx : zinr (c t) = some x := hx
  cases e : c t with
  | none => rw [e] at hx; cases hx
  | some y => rw [e] at hx; cases hx; exact h t y e
theorem kG.inW {c : zS → Option (Int32 × zS)} (h : kG gS (fun t => c t)) : kG gW (fun t => zinr (c t)) := by
  intro t x hx
  have hx : zinr (c t) = some x := hx
  cases e : c t with
  | none => rw [e] at hx; cases hx
  | some y => rw [e] at hx; cases hx; exact h t y e
theorem kG.s {r : zS → Int32} : kG gS (fun t => some (r t, t)) := fun t x hx => by cases hx; rfl
theorem kG.u : kG gU (fun t => some (.inl t)) := fun t x hx => by cases hx; rfl
theorem kG.v {r : zS → Int32} : kG gV (fun t => some (.inl (r t, t))) := fun t x hx => by cases hx; rfl
theorem kG.w {r r2 : zS → Int32} : kG gW (fun t => some (.inl (r t, r2 t, t))) := fun t x hx => by cases hx; rfl
theorem kG_lp {α : Type} {f : α → Option (α ⊕ (Int32 × zS))} (pr : α → zS) (h1 : ∀ a a', f a = some (.inl a') → pr a' 3 13 = pr a 3 13) (h2 : ∀ a b, f a = some (.inr b) → b.2 3 13 = pr a 3 13) : ∀ a b, zlp f a = some b → b.2 3 13 = pr a 3 13 := by
  intro a b hb
  obtain ⟨n, hn⟩ := zlp_iff.mp hb
  induction n generalizing a with
  | zero => cases hn
  | succ n ih =>
    unfold zit at hn
    cases e : f a with
    | none => rw [e] at hn; cases hn
    | some y =>
      rw [e] at hn
      cases y with
      | inl a' => exact (ih a' (zlp_iff.mpr ⟨n, hn⟩) hn).trans (h1 a a' e)
      | inr b' => cases hn; exact h2 a b e
theorem kG.lpU {f : zS → Option (zS ⊕ (Int32 × zS))} (h : kG gU (fun t => f t)) : kG gS (fun t => zlp (fun q => f q) t) := fun t x hx => kG_lp (f := fun q => f q) id (fun a a' e => h a _ e) (fun a b e => h a _ e) t x hx
theorem kG.lpV {f : Int32 → zS → Option ((Int32 × zS) ⊕ (Int32 × zS))} {r : zS → Int32} (h : ∀ y, kG gV (fun t => f y t)) : kG gS (fun t => zlp (fun q => f q.1 q.2) (r t, t)) := fun t x hx => kG_lp (f := fun q : Int32 × zS => f q.1 q.2) Prod.snd (fun a a' e => h a.1 a.2 _ e) (fun a b e => h a.1 a.2 _ e) (r t, t) x hx
theorem kG.lpW {f : Int32 → Int32 → zS → Option ((Int32 × Int32 × zS) ⊕ (Int32 × zS))} {r r2 : zS → Int32} (h : ∀ y z, kG gW (fun t => f y z t)) : kG gS (fun t => zlp (fun q => f q.1 q.2.1 q.2.2) (r t, r2 t, t)) := fun t x hx => kG_lp (f := fun q : Int32 × Int32 × zS => f q.1 q.2.1 q.2.2) (fun a => a.2.2) (fun a a' e => h a.1 a.2.1 a.2.2 _ e) (fun a b e => h a.1 a.2.1 a.2.2 _ e) (r t, r2 t, t) x hx
theorem r_by {x : zS → Int32} : kG gS (fun t => FX8_byteAt 0 (x t) t) := by
  simp only [FX8_byteAt, FX8_byteAt_b18]
  exact kG.iff kG.s (kG.zi kG.s)
theorem r_le {x : zS → Int32} : kG gS (fun t => FX8_isLetter (x t) t) := fun t y hx => by
  have hx : FX8_isLetter (x t) t = some y := hx
  rw [gltr] at hx; cases hx; rfl
theorem r_di {x : zS → Int32} : kG gS (fun t => FX8_isDigit (x t) t) := fun t y hx => by
  have hx : FX8_isDigit (x t) t = some y := hx
  rw [gdg] at hx; cases hx; rfl
theorem r_mk {x : zS → Int32} : kG gS (fun t => FX8_isMark (x t) t) := fun t y hx => by
  have hx : FX8_isMark (x t) t = some y := hx
  rw [gmkd] at hx; cases hx; rfl
theorem r_st : kG gS (fun t => FX8_stepOn 0 t) := by
  have e212 : kG gS (fun t => FX8_stepOn_b212 0 t) := by
    simp only [FX8_stepOn_b212]
    exact kG.up (Or.inl (by decide)) kG.s
  have e178 : kG gS (fun t => FX8_stepOn_b178 0 t) := by
    simp only [FX8_stepOn_b178]
    exact kG.up (Or.inl (by decide)) e212
  have e103 : kG gS (fun t => FX8_stepOn_b103 0 t) := by
    simp only [FX8_stepOn_b103]
    exact kG.up (Or.inl (by decide)) e212
  have e209 : ∀ y, kG gS (fun t => FX8_stepOn_b209 0 0 y t) := by
    intro y
    simp only [FX8_stepOn_b209]
    exact kG.up (Or.inl (by decide)) e212
  have l123 : kG gU (fun t => FX8_stepOn_L123 0 t) := by
    simp only [FX8_stepOn_L123]
    exact kG.bd r_by (fun _ => kG.bd r_di (fun _ => kG.iff (kG.inU e178) (kG.bd2 r_by (fun _ _ => kG.up (Or.inl (by decide)) (kG.up (Or.inl (by decide)) kG.u)))))
  have l76 : kG gU (fun t => FX8_stepOn_L76 0 t) := by
    simp only [FX8_stepOn_L76]
    exact kG.bd r_by (fun _ => kG.bd r_le (fun _ => kG.iff (kG.inU e103) (kG.up (Or.inl (by decide)) kG.u)))
  have e39 : kG gS (fun t => FX8_stepOn_b39 0 t) := by
    simp only [FX8_stepOn_b39]
    exact kG.up (Or.inl (by decide)) (kG.bd r_by (fun _ => kG.lt (fun _ => kG.iff (kG.up (Or.inl (by decide)) e212) (kG.bd r_le (fun _ => kG.iff (kG.bd r_di (fun _ => kG.iff (kG.up (Or.inl (by decide)) (kG.bd r_mk (fun _ => kG.iff (e209 _) (e209 _)))) (kG.up (Or.inl (by decide)) (kG.lpU l123)))) (kG.lpU l76))))))
  have e26 : kG gU (fun t => FX8_stepOn_b26 0 t) := by
    simp only [FX8_stepOn_b26]
    exact kG.up (Or.inl (by decide)) kG.u
  simp only [FX8_stepOn]
  refine kG.lpU ?_
  simp only [FX8_stepOn_L0]
  exact kG.bd r_by (fun _ => kG.iff e26 (kG.bd r_by (fun _ => kG.iff e26 (kG.inU e39))))
theorem r_wr {x : zS → Int32} : kG gS (fun t => FX8_wrong 0 (x t) t) := by
  simp only [FX8_wrong]
  exact kG.iff (kG.up (Or.inl (by decide)) (kG.up (Or.inl (by decide)) kG.s)) kG.s
theorem r_ln {k : Nat} : kG gS (fun t => FJ0_length_8abf5 k t) := fun t x hx => by
  have hx : FJ0_length_8abf5 k t = some x := hx
  unfold FJ0_length_8abf5 at hx
  split at hx
  · cases hx; rfl
  · cases hx
theorem r_ch {k : Nat} {y : zS → Int32} : kG gS (fun t => FJ0_charAt_5068e k (y t) t) := fun t x hx => by
  have hx : FJ0_charAt_5068e k (y t) t = some x := hx
  unfold FJ0_charAt_5068e zin at hx
  split at hx
  · split at hx
    · cases hx
    · cases hx; rfl
  · cases hx
theorem r_is {k : Nat} : kG gS (fun t => FX8_is 0 k t) := by
  have l39 : ∀ y z, kG gW (fun t => FX8_is_L39 0 k y z t) := by
    intro y z
    simp only [FX8_is_L39, FX8_is_b82, FX8_is_b75]
    exact kG.iff (kG.inW (kG.zg kG.s)) (kG.bd r_ln (fun _ => kG.iff (kG.inW (kG.zg kG.s)) (kG.bd r_ch (fun _ => kG.zi (kG.iff (kG.lt (fun _ => kG.lt (fun _ => kG.w))) (kG.lt (fun _ => kG.lt (fun _ => kG.w))))))))
  have e36 : ∀ y, kG gS (fun t => FX8_is_b36 0 k y t) := by
    intro y
    simp only [FX8_is_b36]
    exact kG.lt (fun _ => kG.lt (fun _ => kG.lpW l39))
  simp only [FX8_is, FX8_is_b35]
  exact kG.iff (kG.iff (kG.bd r_ln (fun _ => kG.iff (e36 _) (e36 _))) (e36 _)) (e36 _)
theorem r_wh {k : Nat} : kG gS (fun t => FX8_which 0 k t) := by
  simp only [FX8_which]
  refine kG.lt (fun _ => kG.lpV (fun y => ?_))
  simp only [FX8_which_L2, FX8_which_b26, FX8_which_b18]
  exact kG.iff (kG.inV kG.s) (kG.zi (kG.bd r_is (fun _ => kG.iff (kG.lt (fun _ => kG.v)) (kG.inV kG.s))))
theorem r_im {c : Int32} : kG gS (fun t => FX8_isMarked 0 c t) := by
  simp only [FX8_isMarked, FX8_isMarked_b32, FX8_isMarked_b33]
  exact kG.iff (kG.iff (kG.zi (kG.iff (kG.zg kG.s) (kG.zg kG.s))) (kG.zg kG.s)) (kG.zg kG.s)
theorem r_ma {c : Int32} : kG gS (fun t => FX8_mark 0 c t) := by
  have e20 : kG gS (fun t => FX8_mark_b20 0 t) := by
    simp only [FX8_mark_b20, FX8_mark_b31]
    exact kG.iff (kG.bd r_st (fun _ => kG.s)) kG.s
  simp only [FX8_mark]
  exact kG.iff (kG.bd r_im (fun _ => kG.iff (kG.bd r_wr (fun _ => e20)) e20)) e20
theorem r_nn {a b : Int32} : kG gS (fun t => FX8_numberNow 0 a b t) := by
  have e59 : kG gS (fun t => FX8_numberNow_b59 0 t) := by
    simp only [FX8_numberNow_b59, FX8_numberNow_b74]
    exact kG.iff kG.s kG.s
  have e54 : kG gS (fun t => FX8_numberNow_b54 0 t) := by
    simp only [FX8_numberNow_b54]
    exact kG.bd r_wr (fun _ => e59)
  simp only [FX8_numberNow]
  exact kG.iff (kG.iff (kG.iff e54 (kG.iff e54 (kG.iff e59 e54))) (kG.bd r_wr (fun _ => e59))) kG.s
theorem r_rn {a b : Int32} : kG gS (fun t => FX8_readNumber 0 a b t) := by
  simp only [FX8_readNumber, FX8_readNumber_b18]
  exact kG.bd r_nn (fun _ => kG.lt (fun _ => kG.iff (kG.bd r_st (fun _ => kG.s)) kG.s))
theorem r_ps {x : zS → Int32} : kG gS (fun t => FX8_putSign 0 (x t) t) := by
  simp only [FX8_putSign]
  exact kG.iff (kG.zi (kG.zi (kG.up (Or.inl (by decide)) (kG.zi (kG.zi (kG.up (Or.inr (fun _ => by decide)) kG.s)))))) kG.s
theorem r_G : ∀ k i x y, kG gS (fun t => FGY k i 0 x y t) := by
  intro k
  induction k with
  | zero => intro i x y t z hz; cases hz
  | succ k ih =>
    intro i x y
    match i with
    | 0 =>
      show kG gS (fun t => FX8_readExpression (FGY k) 0 x t)
      have e62 : kG gS (fun t => FX8_readExpression_b62 (FGY k) 0 x t) := by
        simp only [FX8_readExpression_b62]
        refine kG.bd (ih 1 x 0) (fun _ => kG.lpU ?_)
        simp only [FX8_readExpression_L67, FX8_readExpression_b95]
        exact kG.bd r_is (fun _ => kG.iff (kG.inU kG.s) (kG.bd r_st (fun _ => kG.bd (ih 1 x 0) (fun _ => kG.bd r_ps (fun _ => kG.u)))))
      have e38 : ∀ z, kG gS (fun t => FX8_readExpression_b38 (FGY k) 0 x z t) := by
        intro z
        simp only [FX8_readExpression_b38]
        exact kG.lt (fun _ => kG.iff (kG.bd r_wr (fun _ => e62)) (kG.iff (kG.bd r_wr (fun _ => e62)) e62))
      simp only [FX8_readExpression, FX8_readExpression_b33]
      exact kG.iff (kG.iff (e38 _) (kG.iff (e38 _) (kG.bd r_im (fun _ => kG.iff (e38 _) (e38 _))))) kG.s
    | 1 =>
      show kG gS (fun t => FX8_readAnd (FGY k) 0 x t)
      simp only [FX8_readAnd]
      refine kG.bd (ih 2 x 0) (fun _ => kG.lpU ?_)
      simp only [FX8_readAnd_L5, FX8_readAnd_b33]
      exact kG.bd r_is (fun _ => kG.iff (kG.inU kG.s) (kG.bd r_st (fun _ => kG.bd (ih 2 x 0) (fun _ => kG.bd r_ps (fun _ => kG.u)))))
    | 2 =>
      show kG gS (fun t => FX8_readNot (FGY k) 0 x t)
      have e94 : ∀ z, kG gS (fun t => FX8_readNot_b94 (FGY k) 0 z t) := by
        intro z
        simp only [FX8_readNot_b94]
        refine kG.lt (fun _ => kG.lpV (fun y => ?_))
        simp only [FX8_readNot_L96, FX8_readNot_b113]
        exact kG.iff (kG.inV kG.s) (kG.bd r_ps (fun _ => kG.lt (fun _ => kG.v)))
      have e79 : ∀ z y, kG gS (fun t => FX8_readNot_b79 (FGY k) 0 x z y t) := by
        intro z y
        simp only [FX8_readNot_b79]
        exact kG.lt (fun _ => kG.bd r_st (fun _ => kG.bd (ih 3 x 0) (fun _ => kG.bd r_ps (fun _ => e94 _))))
      have e63 : ∀ z, kG gS (fun t => FX8_readNot_b63 (FGY k) 0 x z t) := by
        intro z
        simp only [FX8_readNot_b63]
        exact kG.bd r_im (fun _ => kG.iff (e79 _ _) (e79 _ _))
      have e40 : ∀ z, kG gS (fun t => FX8_readNot_b40 (FGY k) 0 x z t) := by
        intro z
        simp only [FX8_readNot_b40]
        exact kG.bd (ih 3 x 0) (fun _ => kG.bd r_im (fun _ => kG.iff (kG.bd r_im (fun _ => kG.iff (e94 _) (e63 _))) (e63 _)))
      have e23 : ∀ z, kG gV (fun t => FX8_readNot_b23 (FGY k) 0 x z t) := by
        intro z
        simp only [FX8_readNot_b23]
        exact kG.lt (fun _ => kG.iff (kG.bd r_st (fun _ => kG.v)) kG.v)
      simp only [FX8_readNot]
      refine kG.lt (fun _ => kG.lpV (fun z => ?_))
      simp only [FX8_readNot_L2]
      exact kG.bd r_is (fun _ => kG.iff (kG.inV (e40 _)) (kG.iff (kG.bd r_wr (fun _ => e23 _)) (e23 _)))
    | 3 =>
      show kG gS (fun t => FX8_readSum (FGY k) 0 x t)
      have e39 : ∀ z, kG gU (fun t => FX8_readSum_b39 (FGY k) 0 x z t) := by
        intro z
        simp only [FX8_readSum_b39]
        exact kG.lt (fun _ => kG.bd r_st (fun _ => kG.bd (ih 4 x 0) (fun _ => kG.bd r_ps (fun _ => kG.u))))
      have e23 : kG gU (fun t => FX8_readSum_b23 (FGY k) 0 x t) := by
        simp only [FX8_readSum_b23]
        exact kG.bd r_im (fun _ => kG.iff (e39 _) (e39 _))
      simp only [FX8_readSum]
      refine kG.bd (ih 4 x 0) (fun _ => kG.lpU ?_)
      simp only [FX8_readSum_L5, FX8_readSum_b57]
      exact kG.bd r_im (fun _ => kG.iff (kG.bd r_im (fun _ => kG.iff (kG.inU kG.s) e23)) e23)
    | 4 =>
      show kG gS (fun t => FX8_readProduct (FGY k) 0 x t)
      have e39 : ∀ z, kG gU (fun t => FX8_readProduct_b39 (FGY k) 0 x z t) := by
        intro z
        simp only [FX8_readProduct_b39]
        exact kG.lt (fun _ => kG.bd r_st (fun _ => kG.bd (ih 5 x 0) (fun _ => kG.bd r_ps (fun _ => kG.u))))
      have e23 : kG gU (fun t => FX8_readProduct_b23 (FGY k) 0 x t) := by
        simp only [FX8_readProduct_b23]
        exact kG.bd r_im (fun _ => kG.iff (e39 _) (e39 _))
      simp only [FX8_readProduct]
      refine kG.bd (ih 5 x 0) (fun _ => kG.lpU ?_)
      simp only [FX8_readProduct_L5, FX8_readProduct_b57]
      exact kG.bd r_im (fun _ => kG.iff (kG.bd r_im (fun _ => kG.iff (kG.inU kG.s) e23)) e23)
    | 5 =>
      show kG gS (fun t => FX8_readPart (FGY k) 0 x t)
      have e56 : ∀ z, kG gS (fun t => FX8_readPart_b56 (FGY k) 0 z t) := by
        intro z
        simp only [FX8_readPart_b56, FX8_readPart_b74]
        exact kG.bd r_ps (fun _ => kG.iff (kG.bd r_st (fun _ => kG.s)) kG.s)
      simp only [FX8_readPart]
      exact kG.iff (kG.iff (kG.bd r_rn (fun _ => kG.bd r_ps (fun _ => kG.s))) (kG.iff (kG.bd r_wh (fun _ => kG.lt (fun _ => kG.iff (kG.bd r_wr (fun _ => e56 _)) (e56 _)))) (kG.bd r_ma (fun _ => kG.bd (ih 0 _ 0) (fun _ => kG.bd r_ma (fun _ => kG.s)))))) kG.s
    | i + 6 => intro t z hz; cases hz
/-! a RULE on both sides -/
theorem tR.r {qt : Nat} {s t s' t' : zS} {v : Nat → Nat} {ns0 ns : Nat} (h : tR qt s t v ns) (h4 : v 4 < 4) (h5 : v 5 = ns0) (hsg : seg (s (qt + 16)) ns0 ns 31) (so : ∀ i j, ¬ (i = 14 ∧ j = 0) → ¬ (i = 15 ∧ j = v 4) → s' (qt + i) j = s (qt + i) j) (s1 : s' (qt + 14) 0 = nI (v 4 + 1)) (s2 : s' (qt + 15) (v 4) = nI ns) (to : ∀ k j, 3 ≤ k → ¬ (k = 3 ∧ j = 13) → ¬ (k = 14 ∧ j = 4 + v 4) → t' k j = t k j) (t1 : t' 3 13 = nI (v 4 + 1)) (t2 : t' 14 (4 + v 4) = nI ns) : tR qt s' t' (vset (vset v 4 (v 4 + 1)) 5 ns) ns := by
  obtain ⟨⟨b1, ⟨c1, c2, c3, c4, c5, c6⟩, d1, d2, d3, d4, d5, d6⟩, ⟨g1, g2, g3, g4, g5⟩, ⟨a1, a2⟩, hP, ⟨q1, q2⟩, l1, l2⟩ := h
  have v4 : vset (vset v 4 (v 4 + 1)) 5 ns 4 = v 4 + 1 := rfl
  have v5 : vset (vset v 4 (v 4 + 1)) 5 ns 5 = ns := rfl
  have vo : ∀ i, i ≠ 4 → i ≠ 5 → vset (vset v 4 (v 4 + 1)) 5 ns i = v i := fun i h1 h2 => by unfold vset; rw [if_neg h2, if_neg h1]
  unfold tR tN
  rw [v4, v5, vo 0 (by decide) (by decide), vo 1 (by decide) (by decide), vo 2 (by decide) (by decide), vo 3 (by decide) (by decide)]
  have hlt : ns0 < ns := by obtain ⟨-, -, -, z, -⟩ := hsg; exact z
  refine ⟨⟨⟨b1.1, b1.2.1, b1.2.2.1, b1.2.2.2.1, by omega⟩, ⟨?_, ?_, ?_, ?_, s1, ?_⟩, ?_, ?_, ?_, ?_, t1, ?_⟩, ⟨?_, ?_, ?_, ?_, ?_⟩, ⟨fun a ha => ?_, fun a ha ha2 => ?_⟩, fun p hp2 => ?_, ⟨fun i hi => ?_, fun r hr => ?_⟩, fun z => by omega, fun h0 => ?_⟩
  · rw [so 1 0 (by omega) (by omega)]; exact c1
  · rw [so 1 1 (by omega) (by omega)]; exact c2
  · rw [so 1 2 (by omega) (by omega)]; exact c3
  · rw [so 7 0 (by omega) (by omega)]; exact c4
  · rw [so 14 1 (by omega) (by omega)]; exact c6
  · rw [to 3 9 (by omega) (by omega) (by omega)]; exact d1
  · rw [to 3 10 (by omega) (by omega) (by omega)]; exact d2
  · rw [to 3 11 (by omega) (by omega) (by omega)]; exact d3
  · rw [to 3 12 (by omega) (by omega) (by omega)]; exact d4
  · rw [to 3 17 (by omega) (by omega) (by omega)]; exact d6
  · rw [show s' qt 3 = s qt 3 from so 0 3 (by omega) (by omega)]; exact g1
  · rw [show s' qt 3 = s qt 3 from so 0 3 (by omega) (by omega), to 3 14 (by omega) (by omega) (by omega)]; exact g2
  · rw [show s' qt 4 = s qt 4 from so 0 4 (by omega) (by omega)]; exact g3
  · rw [show s' qt 4 = s qt 4 from so 0 4 (by omega) (by omega), to 3 15 (by omega) (by omega) (by omega)]; exact g4
  · rw [show s' qt 5 = s qt 5 from so 0 5 (by omega) (by omega), to 3 16 (by omega) (by omega) (by omega)]; exact g5
  · rw [so 2 a (by omega) (by omega), so 3 a (by omega) (by omega), so 4 a (by omega) (by omega), so 5 a (by omega) (by omega), to 4 _ (by omega) (by omega) (by omega), to 5 _ (by omega) (by omega) (by omega), to 6 _ (by omega) (by omega) (by omega), to 7 _ (by omega) (by omega) (by omega)]
    exact a1 a ha
  · rw [so 4 a (by omega) (by omega), so 5 a (by omega) (by omega)]
    exact a2 a ha ha2
  · obtain ⟨c, k, l, h⟩ := hP p hp2
    exact ⟨c, k, l, h.c (Nat.le_refl _) (fun i h1 h2 => so i p (by omega) (by omega)) (fun i hi => so 13 _ (by omega) (by omega)) (fun i h1 h2 => to i _ (by omega) (by omega) (by omega)) (fun i hi => to 13 _ (by omega) (by omega) (by omega))⟩
  · rw [so 16 i (by omega) (by omega), to 15 _ (by omega) (by omega) (by omega)]; exact q1 i hi
  · by_cases e : r = v 4
    · subst e
      obtain ⟨k, hk⟩ := hsg.hw (by decide)
      refine ⟨ns0, ns, by omega, Nat.le_refl _, fun z => ?_, fun z => ?_, s2, t2, k, hk.cg (fun i hi => (so 16 _ (by omega) (by omega)).symm)⟩
      · rw [← h5]; exact l1 z
      · rw [so 15 _ (by omega) (by omega), to 14 _ (by omega) (by omega) (by omega), ← h5]; exact l2 z
    · obtain ⟨a, b, h⟩ := q2 r (by omega)
      exact ⟨a, b, h.c (fun j hj => so 15 j (by omega) (by omega)) (fun j hj => so 16 j (by omega) (by omega)) (fun j hj => to 14 _ (by omega) (by omega) (by omega))⟩
  · rw [Nat.add_sub_cancel]
    exact ⟨s2, t2⟩
section
variable {f : Nat → Int32} {n qt : Nat} {s0 t0 : zS} {v : Nat → Nat} {d : Int32} {p ns : Nat} {s t : zS}
theorem e_Rule (he : en f n qt s0 t0) (h : sA f n qt s0 t0 v d p ns s t) (hk : tK f n p ≠ 0) (h5 : v 5 = ns) : ∃ r s' b t', FX3_readRule 4 s = some (r, s') ∧ FX8_readRule 0 t = some (b, t') ∧ lP f n qt s0 t0 v d p ns s' t' := by
  obtain ⟨n7, hq, -⟩ := id he
  obtain ⟨⟨-, -, -, -, v44⟩, ⟨-, -, -, -, c5, -⟩, ⟨-, -, -, -, m5, -⟩⟩ := h.2.2.2.2.2.1.1
  have hp := h.1.2.2.2.1
  have hE2 := (tEB (f := f) hp).2 hk
  have l15 : ln 0 (qt + 15) = 4 := by rcases hq with rfl | rfl <;> rfl
  have z13 : ∀ (β : Type) (r : Option β), zin (ln 1 (0 + 3)) 13 r = r := fun β r => zin_n (p := 13) r (by decide : 13 < 18) (by decide)
  have z17 : ∀ (β : Type) (r : Option β), zin (ln 1 (0 + 3)) 17 r = r := fun β r => zin_n (p := 17) r (by decide : 17 < 18) (by decide)
  rcases h.first he hk (i := 4) (M := 4) (by decide) (by decide) v44 m5 with ⟨va, s1, t1, g1, g2, A1, g4, g5⟩ | ⟨s1, t1, g1, g2, B1⟩
  rotate_left
  · unfold FX3_readRule FX8_readRule
    rw [h.1.ptr hq, c5, show FX3_readFirst 4 (nI (v 4)) 4 s = _ from g1, zbd_s, show FX8_another 0 4 4 t = _ from g2, zbd_s, if_pos rfl]
    clear g1
    revert s1
    refine sB.finA ?_ rfl (fun s' B => B)
    simp only [FX3_readRule_b37]
    exact kFl.bd (k_Expr he 6 0 zfuel rfl (by decide)) (fun _ => kFl.if0 kFl.sm)
  obtain ⟨r2, s2, b2, t2, e1, e2, hP⟩ := e_Expr he 6 0 zfuel zfuel rfl (by decide) (by decide) v d _ ns s1 t1 A1
  have k13 : t2 3 13 = nI (v 4) := (r_G zfuel 0 0 0 t1 _ e2).trans A1.2.2.2.2.2.1.1.2.2.2.2.2.2.1
  have hm : FX8_readRule 0 t = some (0, zup (zup t2 14 (4 + v 4) (t2 3 17)) 3 13 (nI (v 4 + 1))) := by
    unfold FX8_readRule
    rw [show FX8_another 0 4 4 t = _ from g2, zbd_s, if_neg (by decide), show FGY zfuel 0 0 0 0 t1 = _ from e2, zbd_s, z13, z17, show (13 : Int32).toNatClampNeg = 13 from rfl, show (17 : Int32).toNatClampNeg = 17 from rfl, show (0 + 3 : Nat) = 3 from rfl, k13, show (4 : Int32) + nI (v 4) = nI (4 + v 4) from nI_add 4 (v 4), show (0 + 14 : Nat) = 14 from rfl, show ln 1 14 = 8 from rfl, zin_n _ (by omega : 4 + v 4 < 8) (by decide), nI_clamp (by omega : 4 + v 4 < 2 ^ 31), zlet_eq, show zin (ln 1 3) 13 _ = _ from z13 _ _, show zin (ln 1 3) 13 _ = _ from z13 _ _, zlet_eq, zup_n (by decide : 3 ≠ 14), k13, nI_1]
  rw [hm]
  unfold FX3_readRule
  rw [h.1.ptr hq, c5, show FX3_readFirst 4 (nI (v 4)) 4 s = _ from g1, zbd_s, show FGX zfuel 0 4 0 0 s1 = _ from e1, zbd_s]
  rcases hP with ⟨p2, ns2, A2, q1, q2, q3, q4⟩ | B2
  rotate_left
  · unfold FX3_readRule_b37
    rw [if_neg B2.2.2.1]
    exact ⟨0, s2, 0, _, rfl, rfl, Or.inr ((B2.mu (by unfold mfr; simp) (by decide)).mu rfl (by decide))⟩
  · unfold FX3_readRule_b37 FX4_endRule
    obtain ⟨a1, a2, a3, a4, a5, a6, a7⟩ := id A2
    have e0 : s2 (qt + 14) 0 = nI (v 4) := a6.1.2.1.2.2.2.2.1
    have e1' : s2 (qt + 14) 1 = nI ns2 := a6.1.2.1.2.2.2.2.2
    have e17 : t2 3 17 = nI ns2 := a6.1.2.2.2.2.2.2.2
    rw [if_pos a3, a1.ptr hq, e0, e1', show qt + 14 + 1 = qt + 15 from rfl, fput', l15, pt_n va (by decide), zbd_s, zlet_eq, zup_n (by omega : qt + 14 ≠ qt + 15), e0, nI_1, zbd_s, e17]
    refine ⟨_, _, _, _, rfl, rfl, Or.inl ⟨vset (vset v 4 (v 4 + 1)) 5 ns2, p2, ns2, ⟨(a1.up hq (by omega)).up hq (by omega), (a2.up (by decide) (by unfold mfr; simp)).up (by decide) rfl, ?_, ?_, ?_, ?_, a7⟩, by omega, fun _ => rfl⟩⟩
    · rw [zup_n (by omega), zup_n (by omega)]; exact a3
    · rw [zup_n (by decide), zup_n (by decide)]; exact a4
    · rw [zup_n (by omega), zup_n (by omega)]; exact a5
    · refine a6.r va h5 q3 (fun i j h1 h2 => ?_) ?_ ?_ (fun k j h0 h1 h2 => ?_) ?_ ?_
      · rw [zup_at, if_neg (by omega), zup_at, if_neg (by omega)]
      · rw [zup_at, if_pos ⟨rfl, rfl⟩]
      · rw [zup_n (by omega), zup_at, if_pos ⟨rfl, rfl⟩]
      · rw [zup_at, if_neg (by omega), zup_at, if_neg (by omega)]
      · rw [zup_at, if_pos ⟨rfl, rfl⟩]
      · rw [zup_n (by decide), zup_at, if_pos ⟨rfl, rfl⟩]
end
