def fb_ct (p : Nat → Bool) : Nat → Nat
  | 0 => 0
  | n + 1 => fb_ct p n + (if p n then 1 else 0)
theorem fb_ct_succ (p : Nat → Bool) (n : Nat) : fb_ct p (n + 1) = fb_ct p n + (if p n then 1 else 0) := rfl
theorem fb_ct_le (p : Nat → Bool) : ∀ n, fb_ct p n ≤ n
  | 0 => Nat.le_refl _
  | n + 1 => by
    have h := fb_ct_le p n
    rw [fb_ct_succ]
    split <;> omega
theorem fb_ct_step (p : Nat → Bool) (m : Nat) : ∀ n, fb_ct p m ≤ fb_ct p (m + n)
  | 0 => Nat.le_refl _
  | n + 1 => by
    have h := fb_ct_step p m n
    show fb_ct p m ≤ fb_ct p (m + n + 1)
    rw [fb_ct_succ]
    omega
theorem fb_ct_mono (p : Nat → Bool) {m n : Nat} (h : m ≤ n) : fb_ct p m ≤ fb_ct p n := by
  have := fb_ct_step p m (n - m)
  rwa [Nat.add_sub_cancel' h] at this
theorem fb_ct_cong {p q : Nat → Bool} : ∀ {n : Nat}, (∀ k, k < n → p k = q k) → fb_ct p n = fb_ct q n
  | 0, _ => rfl
  | n + 1, h => by
    rw [fb_ct_succ, fb_ct_succ, fb_ct_cong (fun k hk => h k (by omega)), h n (by omega)]
/-- one place changed -/
theorem fb_ct_out (p : Nat → Bool) (b : Bool) {i n : Nat} (h : n ≤ i) : fb_ct (fun k => if k = i then b else p k) n = fb_ct p n :=
  fb_ct_cong fun k hk => if_neg (by omega)
theorem fb_ct_upd (p : Nat → Bool) (b : Bool) {i : Nat} : ∀ {n : Nat}, i < n → fb_ct (fun k => if k = i then b else p k) n + (if p i then 1 else 0) = fb_ct p n + (if b then 1 else 0)
  | 0, h => absurd h (Nat.not_lt_zero i)
  | n + 1, h => by
    rw [fb_ct_succ, fb_ct_succ]
    rcases Nat.lt_or_ge i n with q | q
    · have := fb_ct_upd p b q
      have e : (if n = i then b else p n) = p n := if_neg (by omega)
      rw [e]
      omega
    · have e : i = n := by omega
      subst e
      rw [fb_ct_out p b (Nat.le_refl _)]
      simp only [if_true]
      omega
theorem fb_ct_sub {p q : Nat → Bool} : ∀ {n : Nat}, (∀ k, k < n → p k = true → q k = true) → fb_ct p n ≤ fb_ct q n
  | 0, _ => Nat.le_refl _
  | n + 1, h => by
    have h1 := fb_ct_sub (n := n) (p := p) (q := q) (fun k hk => h k (by omega))
    have h2 := h n (by omega)
    rw [fb_ct_succ, fb_ct_succ]
    cases hp : p n <;> cases hq : q n <;> simp_all <;> omega
/-- how many have something of an aisle -/
def ctn (d : zS) (n a : Nat) : Nat := fb_ct (fun p => decide (d 5 p = nI a)) n
theorem ctn_up {d : zS} {n p a : Nat} {v : Int32} (hp : p < n) : ctn (zup d 5 p v) n a + (if d 5 p = nI a then 1 else 0) = ctn d n a + (if v = nI a then 1 else 0) := by
  have h := fb_ct_upd (fun q => decide (d 5 q = nI a)) (decide (v = nI a)) hp
  have e : fb_ct (fun k => if k = p then decide (v = nI a) else decide (d 5 k = nI a)) n = ctn (zup d 5 p v) n a := by
    unfold ctn
    refine fb_ct_cong (fun k _ => ?_)
    rw [zup_at]
    by_cases c : k = p
    · rw [if_pos c, if_pos ⟨rfl, c⟩]
    · rw [if_neg c, if_neg (fun z => c z.2)]
  rw [e] at h
  simp only [decide_eq_true_eq] at h
  exact h
theorem ctn_o {d : zS} {n k i a : Nat} {v : Int32} (hk : k ≠ 5) : ctn (zup d k i v) n a = ctn d n a := by unfold ctn; rw [zup_n (fun z => hk z.symm)]
/-- what lies there and what people have is not more than so many -/
def ST (na n B : Nat) (d : zS) : Prop := ∀ a, a < na → ∃ s, d 3 a = nI s ∧ s + ctn d n a ≤ B
theorem ST.cong {na n B : Nat} {d d' : zS} (h : ST na n B d) (h3 : d' 3 = d 3) (h5 : d' 5 = d 5) : ST na n B d' := by
  intro a ha
  obtain ⟨s, h1, h2⟩ := h a ha
  exact ⟨s, by rw [h3]; exact h1, by unfold ctn at *; rw [h5]; exact h2⟩
theorem ST.gone {na n B p : Nat} {d : zS} (h : ST na n B d) (hp : p < n) (hna : na ≤ 10) : ST na n B (zup d 5 p (-1)) := by
  intro a ha
  obtain ⟨s, h1, h2⟩ := h a ha
  refine ⟨s, by rw [zup_n (by decide)]; exact h1, ?_⟩
  have := ctn_up (d := d) (v := -1) (a := a) hp
  have e : ¬ (-1 : Int32) = nI a := fun z => nI_m1 (by omega) z.symm
  rw [if_neg e] at this
  omega
theorem ST.back {na n B p a : Nat} {d : zS} (h : ST na n B d) (hp : p < n) (hna : na ≤ 10) (hB : B < 2 ^ 30) (ha : a < na) (hv : d 5 p = nI a) : ST na n B (zup (mBck d (nI a)) 5 p (-1)) := by
  rw [mBck_n (by omega)]
  intro b hb
  obtain ⟨s, h1, h2⟩ := h b hb
  have e : ¬ (-1 : Int32) = nI b := fun z => nI_m1 (by omega) z.symm
  have := ctn_up (d := zup d 3 a (d 3 a + 1)) (v := -1) (a := b) hp
  rw [if_neg e, ctn_o (by decide : 3 ≠ 5), zup_n (by decide : 5 ≠ 3), hv] at this
  by_cases c : a = b
  · subst c
    rw [if_pos rfl] at this
    refine ⟨s + 1, by rw [zup_n (by decide), zup_at, if_pos ⟨rfl, rfl⟩, h1, nI_1], by omega⟩
  · have c2 : ¬ nI a = nI b := fun z => c ((nI_eq (by omega) (by omega)).mp z)
    rw [if_neg c2] at this
    exact ⟨s, by rw [zup_n (by decide), zup_at, if_neg (by omega)]; exact h1, by omega⟩
theorem ST.take {na n B p a : Nat} {d : zS} (h : ST na n B d) (hp : p < n) (hna : na ≤ 10) (hB : B < 2 ^ 30) (ha : a < na) (h0 : 0 < d 3 a) : ST na n B (zup (zup d 3 a (d 3 a - 1)) 5 p (nI a)) := by
  intro b hb
  obtain ⟨s, h1, h2⟩ := h b hb
  have := ctn_up (d := zup d 3 a (d 3 a - 1)) (v := nI a) (a := b) hp
  rw [ctn_o (by decide : 3 ≠ 5), zup_n (by decide : 5 ≠ 3)] at this
  by_cases c : a = b
  · subst c
    rw [if_pos rfl] at this
    rw [h1] at h0 ⊢
    have hs : 0 < s := by
      rcases Nat.eq_zero_or_pos s with z | z
      · rw [z] at h0; exact absurd h0 (by decide)
      · exact z
    obtain ⟨k, rfl⟩ : ∃ k, s = k + 1 := ⟨s - 1, by omega⟩
    rw [h1] at this
    refine ⟨k, by rw [zup_n (by decide), zup_at, if_pos ⟨rfl, rfl⟩, nI_pred], ?_⟩
    rw [nI_pred] at *
    by_cases c3 : d 5 p = nI a
    · rw [if_pos c3] at this; omega
    · rw [if_neg c3] at this; omega
  · have c2 : ¬ nI a = nI b := fun z => c ((nI_eq (by omega) (by omega)).mp z)
    rw [if_neg c2] at this
    exact ⟨s, by rw [zup_n (by decide), zup_at, if_neg (by omega)]; exact h1, by omega⟩
/-- what a minute does to it -/
theorem ST.wk {S d : zS} {na n B : Nat} {m : Int32} (h : ST na n B d) (hna : na ≤ 10) (hB : B < 2 ^ 30) (hn : n ≤ 8) (h5 : ∀ p, p < n → oa na (d 5 p)) : ST na n B (mWk S m n d) := by
  unfold mWk
  refine (fo_inv (fun _ (e : zS) => ST na n B e ∧ ∀ p, p < n → oa na (e 5 p)) ⟨h, h5⟩ (fun p e hp ⟨he, ho⟩ => ?_)).1
  have hplace : ∀ v, ST na n B (zup e 4 p v) ∧ ∀ q, q < n → oa na (zup e 4 p v 5 q) := fun v => ⟨he.cong (zup_n (by decide)) (zup_n (by decide)), fun q hq => by rw [zup_n (by decide)]; exact ho q hq⟩
  unfold mWk1
  split
  · exact ⟨he, ho⟩
  split
  · obtain ⟨hp1, hp2⟩ := hplace (mPl S (nI p) m)
    have hpo := hp2 p hp
    generalize zup e 4 p (mPl S (nI p) m) = e at hp1 hp2 hpo
    have hq : ∀ q, q < n → oa na (zup e 5 p (-1) 5 q) := by
      intro q hq
      rw [zup_at]
      split
      · exact Or.inl rfl
      · exact hp2 q hq
    have g := hp1.gone hp hna
    unfold mLv
    split
    · split
      · exact ⟨((g.cong (mTal_o (by decide)) (mTal_o (by decide))).cong (mTal_o (by decide)) (mTal_o (by decide))).cong (mTal_o (by decide)) (mTal_o (by decide)), fun q hqn => by rw [mTal_o (by decide), mTal_o (by decide), mTal_o (by decide)]; exact hq q hqn⟩
      · exact ⟨g.cong (mTal_o (by decide)) (mTal_o (by decide)), fun q hqn => by rw [mTal_o (by decide)]; exact hq q hqn⟩
    · split
      · refine ⟨?_, fun q hqn => by rw [mBck_o (by decide), mMrk_o (by decide), mTal_o (by decide)]; exact hq q hqn⟩
        simp only [mTal_z, mMrk_z, mBck_z]
        have g2 : ST na n B (mMrk (mTal e 2 1) 7 p) := (hp1.cong (mTal_o (by decide)) (mTal_o (by decide))).cong (mMrk_o (by decide)) (mMrk_o (by decide))
        rcases hpo with hpo | ⟨a, ha, hpo⟩
        · rw [hpo]
          unfold mBck
          rw [pt_m1]
          exact g2.gone hp hna
        · rw [hpo]
          exact g2.back hp hna hB ha (by rw [mMrk_o (by decide), mTal_o (by decide)]; exact hpo)
      · exact ⟨(g.cong (mTal_o (by decide)) (mTal_o (by decide))).cong (mTal_o (by decide)) (mTal_o (by decide)), fun q hqn => by rw [mTal_o (by decide), mTal_o (by decide)]; exact hq q hqn⟩
  · exact hplace _
theorem ST.fw {S d : zS} {na n B : Nat} {m : Int32} (h : ST na n B d) : ST na n B (mFo S na n m d) := by
  have key : ∀ (w : Int32) (e : zS), ST na n B e → ST na n B (mFo1 S na w e) := by
    intro w e he
    unfold mFo1
    split
    · exact he
    split
    · exact he
    · exact he.cong (zup_n (by decide)) (zup_n (by decide))
  unfold mFo
  split
  · exact h
  split
  · exact h
  split
  · exact key _ _ (h.cong (mCh_o (by decide) (by decide) (by decide)) (mCh_o (by decide) (by decide) (by decide)))
  · exact key _ _ h
theorem ST.nt {S d : zS} {na n B : Nat} (h : ST na n B d) (hna : na ≤ 10) (hB : B < 2 ^ 30) (h5 : ∀ p, p < n → oa na (d 5 p)) : ST na n B (mNo S n d) := by
  have key : ∀ en : Int32, ST na n B (fo (mNo1 S en) n d) := by
    intro en
    refine (fo_inv (fun _ (e : zS) => ST na n B e ∧ ∀ p, p < n → oa na (e 5 p)) ⟨h, h5⟩ (fun p e hp ⟨he, ho⟩ => ?_)).1
    have hb : ∀ v, ST na n B (zup e 6 p v) ∧ ∀ q, q < n → oa na (zup e 6 p v 5 q) := fun v => ⟨he.cong (zup_n (by decide)) (zup_n (by decide)), fun q hq => by rw [zup_n (by decide)]; exact ho q hq⟩
    have hh : ∀ e : zS, (ST na n B e ∧ ∀ q, q < n → oa na (e 5 q)) → (ST na n B (mNh p e) ∧ ∀ q, q < n → oa na (mNh p e 5 q)) := by
      intro e ⟨he, ho⟩
      unfold mNh
      split
      · exact ⟨he.cong (mMrk_o (by decide)) (mMrk_o (by decide)), fun q hq => by rw [mMrk_o (by decide)]; exact ho q hq⟩
      · next hne =>
        refine ⟨?_, fun q hq => ?_⟩
        · rcases ho p hp with hpo | ⟨a, ha, hpo⟩
          · exact absurd hpo hne
          · rw [hpo]
            exact (he.cong (mMrk_o (by decide)) (mMrk_o (by decide))).back hp hna hB ha (by rw [mMrk_o (by decide)]; exact hpo)
        · rw [zup_at]
          split
          · exact Or.inl rfl
          · rw [mBck_o (by decide), mMrk_o (by decide)]; exact ho q hq
    unfold mNo1
    split
    · split
      · exact hb _
      · exact hh _ (hb _)
    · split
      · exact hb _
      · exact hh _ (hb _)
  exact key _
theorem ST.lo {d : zS} {na n B : Nat} (h : ST na n B d) : ST na n B (mLo n d) := by
  unfold mLo
  refine fo_inv (fun _ (e : zS) => ST na n B e) h (fun p e hp he => ?_)
  unfold mLo1
  split
  · exact he
  · exact he.cong (zup_n (by decide)) (zup_n (by decide))
theorem ST.no {d : zS} {na n m B : Nat} (h : ST na n B d) : ST na n B (mNt n m d) := by
  unfold mNt
  exact fo_inv (fun _ (e : zS) => ST na n B e) (h.cong (zup_n (by decide)) (zup_n (by decide))) (fun p e hp he => he.cong (zup_n (by decide)) (zup_n (by decide)))
