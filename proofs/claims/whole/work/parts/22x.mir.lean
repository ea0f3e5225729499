/-! glass: a mirror hung for one asking -/
def TG (σ t : zS) (q na n : Nat) : Prop := t 0 46 = σ 6 0 ∧ t 0 47 = σ 6 1 ∧ TD σ t q na n
theorem offon {x : Int32} {b : Nat} (hb : b < 32) (h : bt x b = false) : (x ||| sb b) &&& (sb b ^^^ (-1)) = x := by
  refine b_ext (fun i hi => ?_)
  rw [bt_off hb hi, bt_or hb hi]
  by_cases c : i = b
  · subst c; rw [decide_eq_true rfl, h]; rfl
  · rw [decide_eq_false c]; simp
theorem rSh.s {t t' S : zS} {na n nr : Nat} (h : rSh t S na n nr) (hk : ∀ k, k ≠ 7 → t' k = t k) : rSh t' S na n nr := by
  unfold rSh rS rP rF rR at *
  rw [hk 3 (by decide), hk 4 (by decide), hk 6 (by decide), hk 8 (by decide), hk 9 (by decide), hk 10 (by decide), hk 11 (by decide), hk 12 (by decide), hk 13 (by decide), hk 14 (by decide), hk 15 (by decide), hk 18 (by decide)]
  exact h
theorem ask2 {σ t : zS} {q na n nr a b : Nat} {v : Int32} (h : RQ σ t q na n nr) (T : TG σ t q na n) (ha : a < na) (hb : b < 32) (hnb : bt (t 7 a) b = false) : ∃ c σ' t', c ≤ 479520 ∧ FX7_costMirrored 0 (nI a) (nI b) σ = some (nI c, σ') ∧ FX8_ask 0 v (zup t 7 a (t 7 a ||| sb b)) = some (0, t') ∧ RQ σ' (zup t' 7 a (t' 7 a &&& (sb b ^^^ (-1)))) q na n nr ∧ TG σ' (zup t' 7 a (t' 7 a &&& (sb b ^^^ (-1)))) q na n ∧ Fx σ σ' ∧ t' 0 2 = t 0 2 ∧ ((t 0 62 = 0 ∨ nI c < t 0 61) → t' 0 62 = 1 ∧ t' 0 60 = v ∧ t' 0 61 = nI c) ∧ (¬ (t 0 62 = 0 ∨ nI c < t 0 61) → t' 0 62 = t 0 62 ∧ t' 0 60 = t 0 60 ∧ t' 0 61 = t 0 61) := by
  have hp := h.2.1
  have hd := hp.d (Or.inr rfl : 35 = 24 ∨ 35 = 35)
  obtain ⟨c46, c47, T1, T2, T3, T4⟩ := T
  have h10 := h.2.2.1.1.1.1
  have h8 := h.2.2.1.1.2.1.1
  have ha10 : a < 10 := by omega
  obtain ⟨⟨w1, w2, w3, -, w5⟩, -⟩ := h.2.2.2.1
  have w7 : σ 7 a = t 7 a := (w5 a ha).1
  generalize ht2 : zup t 7 a (t 7 a ||| sb b) = t2
  have k2 : ∀ k, k ≠ 7 → t2 k = t k := fun k hk => by rw [← ht2, zup_n hk]
  have k7 : ∀ i, t2 7 i = if i = a then t 7 a ||| sb b else t 7 i := fun i => by
    rw [← ht2, zup_at]
    by_cases c : i = a
    · rw [if_pos ⟨rfl, c⟩, if_pos c]
    · rw [if_neg (fun z => c z.2), if_neg c]
  generalize hdd : zup (mPr 35 q σ) 2 a (σ 7 a ||| sb b) = d
  have d0 : ∀ j, d 0 j = mPr 35 q σ 0 j := fun j => by rw [← hdd, zup_n (by decide)]
  have d1 : d 0 1 = σ 6 0 := by rw [d0, mPr_0]; rfl
  have d2 : d 0 2 = σ 6 1 := by rw [d0, mPr_0]; rfl
  have d3 : d 0 3 = σ 6 2 := by rw [d0, mPr_0]; rfl
  have d4 : d 0 4 = σ 6 3 := by rw [d0, mPr_0]; rfl
  have d5 : d 0 5 = 0 := by rw [d0, mPr_0]; rfl
  have dr : ∀ i, i < 10 → d 1 i = σ (q + 2) i ∧ d 2 i = (if i = a then σ 7 a ||| sb b else σ 7 i) ∧ d 3 i = σ 8 i := fun i hi => by
    obtain ⟨m1, m2, m3⟩ := mPr_r (k0 := 35) (q := q) (σ := σ) i hi
    refine ⟨by rw [← hdd, zup_n (by decide)]; exact m1, ?_, by rw [← hdd, zup_n (by decide)]; exact m3⟩
    rw [← hdd, zup_at]
    by_cases c : i = a
    · rw [if_pos ⟨rfl, c⟩, if_pos c]
    · rw [if_neg (fun z => c z.2), if_neg c]; exact m2
  have hB : ∀ t', (∀ k, k ≠ 23 → t' k = t2 k) → (∀ i, i < 10 → t' 23 i = t2 5 i) → rB t' na n nr 99 d := by
    intro t' k1 k3
    have z0 : ∀ j, t' 0 j = t 0 j := fun j => by rw [k1 0 (by decide), k2 0 (by decide)]
    refine ⟨⟨?_, ?_, ?_, ?_, fun i hi => ?_, fun p hp => ?_⟩, fun i hi => ?_, ?_⟩
    · rw [z0, c46, d1]
    · rw [z0, c47, d2]
    · rw [z0, T1, d3]
    · rw [z0, T2, d4]
    · obtain ⟨r1, r2, -⟩ := dr i (by omega)
      refine ⟨by rw [k1 22 (by decide), k2 22 (by decide), T3 i hi, r1], ?_⟩
      rw [k1 7 (by decide), k7, r2, w7]
      have w7i : σ 7 i = t 7 i := (w5 i hi).1
      rw [w7i]
    · rw [z0, T4 p hp, d5, b_0]; rfl
    · obtain ⟨-, -, r3⟩ := dr i (by omega)
      obtain ⟨-, v2, s, v3, v4⟩ := w5 i hi
      exact ⟨by rw [k3 i (by omega), k2 5 (by decide), r3]; exact v2.symm, s, v3, by rw [r3]; exact v4⟩
    · unfold cf0; rw [d1, d2]; exact w2
  have hS2 : rSh t2 (ss q σ) na n nr := h.2.2.1.s k2
  have hw := hB (zrow t2 23 (t2 5)) (fun k hk => zrow_n hk) (fun i _ => by rw [zrow_s])
  have hSw := hS2.fr (show Fr t2 (zrow t2 23 (t2 5)) from fun k j hk => by rw [zrow_n (fun z => by subst z; cases hk)])
  obtain ⟨r1, -⟩ := gRun hd hSw hw (by decide)
  obtain ⟨e1, c, c1, c2⟩ := cs_run hSw hw (by decide) (fun i hi => by
    obtain ⟨w, w1, w2⟩ := h.2.2.1.2.2.2 i hi
    exact ⟨w, w1, by rw [(dr i (by omega)).1]; rw [ss_i (by decide) (by decide)] at w2; exact w2⟩)
  obtain ⟨t', a1, a2, a3, a4, a5, a6⟩ := gAsk (v := v) hS2 hB
  rw [c2] at a5 a6 r1
  rw [k2 0 (by decide)] at a5 a6
  have f7 : ∀ i, t' 7 i = t2 7 i := fun i => a2 7 i rfl (by omega)
  have back : t' 7 a &&& (sb b ^^^ (-1)) = t 7 a := by rw [f7, k7, if_pos rfl, offon hb hnb]
  have hm : Fm t (zup t' 7 a (t 7 a)) := by
    intro k j hk
    rw [zup_at]
    by_cases c : k = 7 ∧ j = a
    · rw [if_pos c, c.1, c.2]
    · rw [if_neg c, ask_fm a2 k j hk]
      by_cases c7 : k = 7
      · subst c7; rw [k7, if_neg (fun z => c ⟨rfl, z⟩)]
      · rw [k2 k c7]
  have e6 : ∀ (e : zS) j, dE 35 q σ e 6 j = σ 6 j := fun e j => by have := hp.1; unfold dE; rw [if_neg (by omega), if_neg (by omega), if_neg (by omega), if_neg (by omega)]
  obtain ⟨b1, b2, b3, b4, b5, b6⟩ := a3
  have o0 : ∀ k, k ≠ 7 → zup t' 7 a (t 7 a) k = t' k := fun k hk => zup_n hk
  have tg : TG (dE 35 q σ (mRu (ss q σ) na n d)) (zup t' 7 a (t 7 a)) q na n := by
    refine ⟨?_, ?_, ?_, ?_, fun i hi => ?_, fun p hp => ?_⟩
    · rw [o0 0 (by decide), b1, a4 1 (by decide) (by decide), d1, e6]
    · rw [o0 0 (by decide), b2, a4 2 (by decide) (by decide), d2, e6]
    · rw [o0 0 (by decide), b3, a4 3 (by decide) (by decide), d3, e6]
    · rw [o0 0 (by decide), b4, a4 4 (by decide) (by decide), d4, e6]
    · rw [o0 22 (by decide), (b5 i hi).1, e1, (dr i (by omega)).1, dE_q hd (by decide) (by decide), ss_i (by decide) (by decide)]
    · rw [o0 0 (by decide), b6 p hp, a4 5 (by decide) (by decide), d5, b_0]; rfl
  refine ⟨c, dE 35 q σ (mRu (ss q σ) na n d), t', c1, ?_, a1, by rw [back]; exact (h.m hm).x (Fx_dE hp.1), by rw [back]; exact tg, Fx_dE hp.1, (a2 0 2 rfl (by omega)).trans (by rw [k2 0 (by decide)]), a5, a6⟩
  unfold FX7_costMirrored
  rw [hp.q.1, hp.q.2, zgd_t, zlet_eq, show (0 + 35 : Nat) = 35 from rfl, show (0 + 6 : Nat) = 6 from rfl, fpr hd, zbd_s, da_2 hd, rd_n ha10 (by decide), zbd_s, fbit, zbd_s, dp_2 hd, pt_n ha10 (by decide), zbd_s, (mPr_r a ha10).2.1, hdd, r1, zbd_s]
