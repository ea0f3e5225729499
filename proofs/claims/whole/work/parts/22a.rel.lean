/-! what the class and the reference have in common between two calls -/
/-- the tape, the latest fault -/
def rTp (σ τ : zS) : Prop := (∃ f, f ≤ 700 ∧ σ 0 0 = nI f ∧ τ 0 18 = nI f) ∧ σ 0 1 = τ 0 27 ∧ ∀ j, j < 700 → σ 5 j = τ 17 j ∧ ¬ σ 5 j = -1
/-- which shop is which -/
def rPt (σ : zS) (q : Nat) : Prop := (q = 46 ∨ q = 64) ∧ σ 0 2 = nI q ∧ σ 4 1 = nI (110 - q)
/-- the shop -/
def rSh (τ S : zS) (na n nr : Nat) : Prop := rS τ S na n nr ∧ 0 < S 0 3 ∧ (∃ w, w ≤ 999 ∧ S 0 4 = nI w) ∧ ∀ a, a < na → ∃ w, w ≤ 999 ∧ S 2 a = nI w
def cfv (na n nr : Nat) (h w : Int32) : Prop := h = 0 ∨ (h = 1 ∧ ∃ r, r < nr ∧ w = nI r) ∨ (h = 2 ∧ ∃ p, p < n ∧ w = nI p) ∨ (h = 3 ∧ ∃ a, a < na ∧ w = nI a)
/-- what an act can change -/
def nwR (na n nr : Nat) (x sx tx v sv tv : Nat → Int32) : Prop := (∀ i, i < 6 → x i = v i) ∧ cfv na n nr (x 0) (x 1) ∧ (x 2 = 0 ∨ x 2 = 1) ∧ (∃ m, m ≤ 6 ∧ x 4 = nI m) ∧ ∀ a, a < na → sx a = sv a ∧ tx a = tv a ∧ ∃ s, s ≤ 99 ∧ tx a = nI s
/-- what is kept, told, refused -/
def kR (na n nr : Nat) (σ : zS) (k : Nat) (v sn st : Nat → Int32) (ac : Int32) (pa : Nat → Int32) (ns : Int32) (gc gh : Nat → Int32) (nm : Int32) (ma mm rf : Nat → Int32) : Prop :=
  nwR na n nr (σ k) (σ (k + 1)) (σ (k + 2)) v sn st ∧
  (∃ A, A ≤ 40 ∧ σ k 8 = nI A ∧ ac = nI A ∧ ∀ t, t < A → nwR na n nr (fun i => σ (k + 3) (26 * t + i)) (fun a => σ (k + 3) (26 * t + 6 + a)) (fun a => σ (k + 3) (26 * t + 16 + a)) (fun i => pa (26 * t + i)) (fun a => pa (26 * t + 6 + a)) (fun a => pa (26 * t + 16 + a))) ∧
  (∃ N, N ≤ 12 ∧ σ k 10 = nI N ∧ ns = nI N ∧ ∀ i, i < N → σ (k + 4) i = gc i ∧ σ (k + 5) i = gh i ∧ (gh i = 0 ∨ gh i = 1)) ∧
  (∃ N, N ≤ 8 ∧ σ k 13 = nI N ∧ nm = nI N ∧ ∀ i, i < N → σ (k + 6) i = ma i ∧ σ (k + 7) i = mm i ∧ (∃ a, a < na ∧ ma i = nI a) ∧ ∃ m, 1 ≤ m ∧ m ≤ 60 ∧ mm i = nI m) ∧
  ∀ i, i < 3 → σ (k + 8) i = rf i
def rNw (σ τ : zS) (na n nr : Nat) : Prop := kR na n nr σ 6 (fun i => τ 0 (29 + i)) (τ 7) (τ 5) (τ 0 35) (τ 19) (τ 0 36) (τ 29) (τ 30) (τ 0 37) (τ 31) (τ 32) (τ 16)
def rPi (σ τ : zS) (na n nr : Nat) : Prop := (σ 0 6 = 0 ∧ τ 0 72 = 0) ∨ (σ 0 6 = 1 ∧ τ 0 72 = 1 ∧ kR na n nr σ 15 (τ 34) (fun a => τ 34 (6 + a)) (fun a => τ 34 (16 + a)) (τ 0 73) (τ 35) (τ 0 74) (τ 36) (τ 37) (τ 0 75) (τ 38) (τ 39) (τ 40))
/-- a day is told by what is now -/
def tdC (σ : zS) (q na : Nat) (d : zS) : Prop := d 0 1 = σ 6 0 ∧ d 0 2 = σ 6 1 ∧ d 0 3 = σ 6 2 ∧ d 0 4 = σ 6 3 ∧ d 0 5 = 0 ∧ ∀ a, a < na → d 1 a = σ (q + 2) a ∧ d 2 a = σ 7 a ∧ d 3 a = σ 8 a
def rTd (σ : zS) (q na n : Nat) : Prop := σ 0 9 = 0 ∨ (σ 0 9 = 1 ∧ ∃ d, tdC σ q na d ∧ ∀ k, 8 ≤ k → k ≤ 10 → σ (24 + k) = mRu (ss q σ) na n d k)
def rLd (σ τ : zS) (na : Nat) : Prop := (σ 0 12 = 0 ∧ τ 0 65 = 0) ∨ (σ 0 12 = 1 ∧ τ 0 65 = 1 ∧ na ≤ 5 ∧ ∀ a, a < na → σ 2 a = τ 28 a)
def RQ (σ τ : zS) (q na n nr : Nat) : Prop := rTp σ τ ∧ rPt σ q ∧ rSh τ (ss q σ) na n nr ∧ rNw σ τ na n nr ∧ rPi σ τ na n nr ∧ rTd σ q na n ∧ rLd σ τ na
def RR (σ τ : zS) : Prop := ∃ q na n nr, RQ σ τ q na n nr
/-- only what is worked with aside has changed: in the class -/
def xsc (k j : Nat) : Bool := (35 ≤ k && k ≤ 45) || k == 1 || k == 3 || k == 63 || k == 81 || ((k == 60 || k == 78) && j == 5)
def Fx (σ σ' : zS) : Prop := ∀ k j, xsc k j = false → σ' k j = σ k j
theorem Fx.rf {σ : zS} : Fx σ σ := fun _ _ _ => rfl
theorem Fx.tr {a b c : zS} (h : Fx a b) (h2 : Fx b c) : Fx a c := fun k j hk => (h2 k j hk).trans (h k j hk)
theorem Fx.up {a b : zS} {k j : Nat} {v : Int32} (h : Fx a b) (hs : xsc k j = true) : Fx a (zup b k j v) := by
  intro x y hxy
  rw [zup_at, if_neg (fun z => by rw [z.1, z.2, hs] at hxy; cases hxy)]
  exact h x y hxy
theorem Fx.row {a b : zS} (h : Fx a b) (k : Nat) (hk : ∀ j, xsc k j = false) : b k = a k := funext fun j => h k j (hk j)
/-- in the reference -/
def msc (k j : Nat) : Bool := (20 ≤ k && k ≤ 27) || k == 33 || (k == 0 && (j == 2 || (46 ≤ j && j ≤ 62) || j == 71))
def Fm (τ τ' : zS) : Prop := ∀ k j, msc k j = false → τ' k j = τ k j
theorem Fm.rf {τ : zS} : Fm τ τ := fun _ _ _ => rfl
theorem Fm.tr {a b c : zS} (h : Fm a b) (h2 : Fm b c) : Fm a c := fun k j hk => (h2 k j hk).trans (h k j hk)
theorem Fm.up {a b : zS} {k j : Nat} {v : Int32} (h : Fm a b) (hs : msc k j = true) : Fm a (zup b k j v) := by
  intro x y hxy
  rw [zup_at, if_neg (fun z => by rw [z.1, z.2, hs] at hxy; cases hxy)]
  exact h x y hxy
theorem Fm.row {a b : zS} (h : Fm a b) (k : Nat) (hk : ∀ j, msc k j = false) : b k = a k := funext fun j => h k j (hk j)
theorem Fr.m {a b : zS} (h : Fr a b) : Fm a b := by
  intro k j hk
  refine h k j ?_
  revert hk
  unfold msc sc
  simp only [Bool.or_eq_false_iff, Bool.and_eq_false_iff, decide_eq_false_iff_not, beq_eq_false_iff_ne]
  omega
theorem msc_row {k : Nat} (h0 : k ≠ 0) (h1 : k < 20 ∨ 27 < k) (h2 : k ≠ 33) (j : Nat) : msc k j = false := by
  unfold msc
  simp
  omega
theorem xsc_row {k : Nat} (h0 : k < 35 ∨ 45 < k) (h1 : k ≠ 1) (h2 : k ≠ 3) (h3 : k ≠ 63) (h4 : k ≠ 81) (h5 : k ≠ 60) (h6 : k ≠ 78) (j : Nat) : xsc k j = false := by
  unfold xsc
  simp
  omega
theorem Fm.r {a b : zS} (h : Fm a b) (k : Nat) (h0 : k ≠ 0) (h1 : k < 20 ∨ 27 < k) (h2 : k ≠ 33) : b k = a k := h.row k (msc_row h0 h1 h2)
theorem Fx.r {a b : zS} (h : Fx a b) (k : Nat) (h0 : k < 35 ∨ 45 < k) (h1 : k ≠ 1) (h2 : k ≠ 3) (h3 : k ≠ 63) (h4 : k ≠ 81) (h5 : k ≠ 60) (h6 : k ≠ 78) : b k = a k := h.row k (xsc_row h0 h1 h2 h3 h4 h5 h6)
theorem rSh.m {τ τ' S : zS} {na n nr : Nat} (h : rSh τ S na n nr) (hf : Fm τ τ') : rSh τ' S na n nr := by
  unfold rSh rS rP rF rR at *
  rw [hf.r 3 (by decide) (by decide) (by decide), hf.r 4 (by decide) (by decide) (by decide), hf.r 6 (by decide) (by decide) (by decide), hf.r 8 (by decide) (by decide) (by decide), hf.r 9 (by decide) (by decide) (by decide), hf.r 10 (by decide) (by decide) (by decide), hf.r 11 (by decide) (by decide) (by decide), hf.r 12 (by decide) (by decide) (by decide), hf.r 13 (by decide) (by decide) (by decide), hf.r 14 (by decide) (by decide) (by decide), hf.r 15 (by decide) (by decide) (by decide), hf.r 18 (by decide) (by decide) (by decide)]
  exact h
theorem RQ.m {σ τ τ' : zS} {q na n nr : Nat} (h : RQ σ τ q na n nr) (hf : Fm τ τ') : RQ σ τ' q na n nr := by
  obtain ⟨h1, h2, h3, h4, h5, h6, h7⟩ := h
  have f0 : ∀ j, msc 0 j = false → τ' 0 j = τ 0 j := fun j hj => hf 0 j hj
  refine ⟨?_, h2, h3.m hf, ?_, ?_, h6, ?_⟩
  · unfold rTp at *
    rw [f0 18 rfl, f0 27 rfl, hf.r 17 (by decide) (by decide) (by decide)]
    exact h1
  · unfold rNw at *
    have e : (fun i => τ' 0 (29 + i)) = fun i => if i < 17 then τ 0 (29 + i) else τ' 0 (29 + i) := by
      funext i
      split
      · next c => exact f0 _ (by unfold msc; simp; omega)
      · rfl
    have key : nwR na n nr (σ 6) (σ (6 + 1)) (σ (6 + 2)) (fun i => τ' 0 (29 + i)) (τ' 7) (τ' 5) := by
      obtain ⟨⟨k1, k2⟩, -⟩ := h4
      rw [hf.r 7 (by decide) (by decide) (by decide), hf.r 5 (by decide) (by decide) (by decide)]
      refine ⟨fun i hi => ?_, k2⟩
      rw [k1 i hi]
      exact (f0 _ (by unfold msc; simp; omega)).symm
    obtain ⟨-, k2⟩ := h4
    unfold kR
    rw [f0 35 rfl, f0 36 rfl, f0 37 rfl, hf.r 19 (by decide) (by decide) (by decide), hf.r 29 (by decide) (by decide) (by decide), hf.r 30 (by decide) (by decide) (by decide), hf.r 31 (by decide) (by decide) (by decide), hf.r 32 (by decide) (by decide) (by decide), hf.r 16 (by decide) (by decide) (by decide)]
    exact ⟨key, k2⟩
  · unfold rPi at *
    rw [f0 72 rfl, f0 73 rfl, f0 74 rfl, f0 75 rfl, hf.r 34 (by decide) (by decide) (by decide), hf.r 35 (by decide) (by decide) (by decide), hf.r 36 (by decide) (by decide) (by decide), hf.r 37 (by decide) (by decide) (by decide), hf.r 38 (by decide) (by decide) (by decide), hf.r 39 (by decide) (by decide) (by decide), hf.r 40 (by decide) (by decide) (by decide)]
    exact h5
  · unfold rLd at *
    rw [f0 65 rfl, hf.r 28 (by decide) (by decide) (by decide)]
    exact h7
theorem Fx.sh {σ σ' : zS} {q : Nat} (h : Fx σ σ') (hq : q = 46 ∨ q = 64) : ss q σ' = ss q σ := by
  funext i j
  unfold ss
  split
  · rfl
  · next c =>
    refine h _ _ ?_
    unfold xsc
    simp
    omega
theorem kR.x {na n nr k : Nat} {σ σ' : zS} {v sn st : Nat → Int32} {ac : Int32} {pa : Nat → Int32} {ns : Int32} {gc gh : Nat → Int32} {nm : Int32} {ma mm rf : Nat → Int32} (h : kR na n nr σ k v sn st ac pa ns gc gh nm ma mm rf) (hk : ∀ i, i ≤ 8 → σ' (k + i) = σ (k + i)) : kR na n nr σ' k v sn st ac pa ns gc gh nm ma mm rf := by
  have h0 : σ' k = σ k := hk 0 (by decide)
  unfold kR at *
  rw [h0, hk 1 (by decide), hk 2 (by decide), hk 3 (by decide), hk 4 (by decide), hk 5 (by decide), hk 6 (by decide), hk 7 (by decide), hk 8 (by decide)]
  exact h
theorem rTd.x {σ σ' : zS} {q na n : Nat} (h : rTd σ q na n) (hq : q = 46 ∨ q = 64) (h9 : σ' 0 9 = σ 0 9) (hs : ss q σ' = ss q σ) (h6 : ∀ j, j < 4 → σ' 6 j = σ 6 j) (h7 : σ' 7 = σ 7) (h8 : σ' 8 = σ 8) (ht : ∀ k, 8 ≤ k → k ≤ 10 → σ' (24 + k) = σ (24 + k)) : rTd σ' q na n := by
  have hw : σ' (q + 2) = σ (q + 2) := by
    have := congrFun hs 2
    rw [ss_i (by decide) (by decide), ss_i (by decide) (by decide)] at this
    exact this
  unfold rTd at *
  rw [h9, hs]
  refine h.imp id (fun ⟨a, d, ⟨t1, t2, t3, t4, t5, t6⟩, c⟩ => ⟨a, d, ?_, fun k k1 k2 => by rw [ht k k1 k2]; exact c k k1 k2⟩)
  unfold tdC
  rw [h6 0 (by decide), h6 1 (by decide), h6 2 (by decide), h6 3 (by decide), h7, h8, hw]
  exact ⟨t1, t2, t3, t4, t5, t6⟩
theorem RQ.x {σ σ' τ : zS} {q na n nr : Nat} (h : RQ σ τ q na n nr) (hf : Fx σ σ') : RQ σ' τ q na n nr := by
  obtain ⟨h1, h2, h3, h4, h5, h6, h7⟩ := h
  have f0 : σ' 0 = σ 0 := hf.r 0 (by decide) (by decide) (by decide) (by decide) (by decide) (by decide) (by decide)
  have fs := hf.sh h2.1
  have fr : ∀ k, (1 < k ∧ k ≠ 3 ∧ k < 35) → σ' k = σ k := fun k hk => hf.r k (by omega) (by omega) (by omega) (by omega) (by omega) (by omega) (by omega)
  refine ⟨?_, ?_, by rw [fs]; exact h3, h4.x (fun i hi => fr _ (by omega)), ?_, h6.x h2.1 (by rw [f0]) fs (fun j _ => by rw [fr 6 (by decide)]) (fr 7 (by decide)) (fr 8 (by decide)) (fun k k1 k2 => fr _ (by omega)), ?_⟩
  · unfold rTp at *
    rw [f0, fr 5 (by decide)]
    exact h1
  · unfold rPt at *
    rw [f0, fr 4 (by decide)]
    exact h2
  · unfold rPi at *
    rw [f0]
    exact h5.imp id (fun ⟨a, b, c⟩ => ⟨a, b, c.x (fun i hi => fr _ (by omega))⟩)
  · unfold rLd at *
    rw [f0, fr 2 (by decide)]
    exact h7
/-- what a trial leaves -/
theorem Fx_dE {σ d : zS} {q : Nat} (hq : q = 46 ∨ q = 64) : Fx σ (dE 35 q σ d) := by
  intro k j hk
  unfold xsc at hk
  simp at hk
  unfold dE
  rw [if_neg (by omega), if_neg (by omega), if_neg (by omega), if_neg (by omega)]
/-- a world's rows of a day, as they are -/
def exd (k0 q : Nat) (σ : zS) : zS := fun i j => if i ≤ 10 then σ (k0 + i) j else if i = 11 then σ (q + 17) j else σ (q + 14) 5
theorem dE_ex {k0 q : Nat} {σ : zS} (h : dH k0 q) : zup σ k0 0 (nI q) = dE k0 q σ (exd k0 q σ) := by
  obtain ⟨h0, h1⟩ := h
  funext k j
  rw [zup_at]
  unfold dE exd
  split
  · rfl
  · split
    · next c => rw [if_pos (by omega), Nat.add_sub_cancel' c.1]
    · split
      · next c => subst c; rfl
      · split
        · next c => rw [c.1, c.2]; rfl
        · rfl
theorem dE_row {k0 q b : Nat} {σ d : zS} {f : Nat → Int32} (h : dH k0 q) (hb : 0 < b) (h10 : b ≤ 10) : zrow (dE k0 q σ d) (k0 + b) f = dE k0 q σ (zrow d b f) := by
  obtain ⟨h0, h1⟩ := h
  funext k j
  have e : ∀ (σ : zS) (a : Nat), zrow σ a f k j = if k = a then f j else σ k j := fun σ a => by
    rw [zrow_at]
    split <;> rfl
  rw [e]
  unfold dE
  by_cases c : k = k0 + b
  · subst c
    rw [if_pos rfl, if_neg (by omega), if_pos (by omega), Nat.add_sub_cancel_left, zrow_at, if_pos rfl]
  · rw [if_neg c]
    split
    · rfl
    · split
      · rw [zrow_at, if_neg (by omega)]
      · split
        · rw [zrow_at, if_neg (by omega)]
        · split
          · rw [zrow_at, if_neg (by omega)]
          · rfl
theorem fcpy {a b n : Nat} {σ : zS} (ha : ln 0 a = n) (hb : ln 0 b = n) (hn : n < 2 ^ 31) : FX7_copyRow a b σ = some (0, zrow σ b (va_cpy (σ a) (σ b) 0 0 n)) := by
  unfold FX7_copyRow
  rw [ha, hb, if_neg (nI_nlt (Nat.le_refl n) hn), nI_clamp hn]
  have e : zcpok n n 0 0 (nI n) = true := by
    unfold zcpok
    have h1 : ¬ nI n < 0 := nI_pos hn
    simp [h1, nI_clamp hn]
  rw [e]
  rfl
/-- a day is told -/
def mPr (k0 q : Nat) (σ : zS) : zS := zrow (zrow (zrow (zup (zup (zup (zup (zup (exd k0 q σ) 0 1 (σ 6 0)) 0 2 (σ 6 1)) 0 3 (σ 6 2)) 0 4 (σ 6 3)) 0 5 0) 1 (va_cpy (σ (q + 2)) (σ (k0 + 1)) 0 0 10)) 2 (va_cpy (σ 7) (σ (k0 + 2)) 0 0 10)) 3 (va_cpy (σ 8) (σ (k0 + 3)) 0 0 10)
theorem fpr {k0 q : Nat} {σ : zS} (h : dH k0 q) : FX0_prepare k0 q 6 σ = some (0, dE k0 q σ (mPr k0 q σ)) := by
  obtain ⟨h0, h1⟩ := id h
  have kq : kd 0 q = 5 := by rcases h1 with rfl | rfl <;> rfl
  have e6 : ∀ (d : zS) j, dE k0 q σ d 6 j = σ 6 j := fun d j => by unfold dE; rw [if_neg (by omega), if_neg (by omega), if_neg (by omega), if_neg (by omega)]
  have e7 : ∀ (d : zS), dE k0 q σ d 7 = σ 7 := fun d => by funext j; unfold dE; rw [if_neg (by omega), if_neg (by omega), if_neg (by omega), if_neg (by omega)]
  have e8 : ∀ (d : zS), dE k0 q σ d 8 = σ 8 := fun d => by funext j; unfold dE; rw [if_neg (by omega), if_neg (by omega), if_neg (by omega), if_neg (by omega)]
  have eq2 : ∀ (d : zS), dE k0 q σ d (q + 2) = σ (q + 2) := fun d => by rw [qr_2 h, ss_i (by decide) (by decide)]
  have l1 : ln 0 (q + 2) = 10 := ql_2 h
  have l2 : ln 0 (k0 + 1) = 10 := dl_1 h
  have l3 : ln 0 (k0 + 2) = 10 := dl_2 h
  have l4 : ln 0 (k0 + 3) = 10 := dl_3 h
  unfold FX0_prepare mPr
  simp only [zlet_eq, dE_ex h, e6, dw_1, dw_2, dw_3, dw_4, dw_5, dE_ptr h, kd_q h, zgd_t, Nat.add_assoc, Nat.reduceAdd]
  rw [fcpy l1 l2 (by decide), zbd_s, eq2, dr_1, dE_row h (by decide) (by decide), fcpy (show ln 0 7 = 10 from rfl) l3 (by decide), zbd_s, e7, dr_2, dE_row h (by decide) (by decide), fcpy (show ln 0 8 = 10 from rfl) l4 (by decide), zbd_s, e8, dr_3, dE_row h (by decide) (by decide)]
  rfl
