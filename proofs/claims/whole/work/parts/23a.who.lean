/-! who -/
def bcx (x0 : Int32) : Int32 :=
  let a := x0 - (((Int32.toUInt32 x0) >>> ((Int32.toUInt32 1) &&& Int32.toUInt32 31)).toInt32 &&& 1431655765)
  let b := (a &&& 858993459) + (((Int32.toUInt32 a) >>> ((Int32.toUInt32 2) &&& Int32.toUInt32 31)).toInt32 &&& 858993459)
  let c := (b + ((Int32.toUInt32 b) >>> ((Int32.toUInt32 4) &&& Int32.toUInt32 31)).toInt32) &&& 252645135
  let d := c + ((Int32.toUInt32 c) >>> ((Int32.toUInt32 8) &&& Int32.toUInt32 31)).toInt32
  let e := d + ((Int32.toUInt32 d) >>> ((Int32.toUInt32 16) &&& Int32.toUInt32 31)).toInt32
  e &&& 63
theorem bcx_v : ∀ v, v < 256 → bcx (nI v) = nI (cnt v) := by decide +kernel
theorem fbc {v : Nat} (hv : v < 256) (σ : zS) : FJ6_bitCount_0f7a4 (nI v) σ = some (nI (cnt v), σ) := by
  rw [← bcx_v v hv]
  unfold FJ6_bitCount_0f7a4 bcx
  simp only [zlet_eq]
/-- was p, up to the minute m, at A? -/
def wat (S : zS) (p : Nat) (A : Int32) (m : Nat) : Prop := ∃ k, 1 ≤ k ∧ k ≤ m ∧ mPl S (nI p) (nI k) = A
theorem wat_s {τ S : zS} {na p c t l m : Nat} {A : Int32} (hp : p < 8) (hm : m ≤ 60) (h : rP τ S na p c t l) (hA : ¬ A = -1) : wat S p A m ↔ ∃ i, i < l ∧ c + i ≤ m ∧ S 13 (12 * p + i) = A := by
  have hr := h
  obtain ⟨-, -, -, -, -, -, -, -, c1, -, l1, -, -, hst⟩ := hr
  constructor
  · rintro ⟨k, k1, k2, k3⟩
    rw [mPl_p hp (by omega : k ≤ 60) h] at k3
    by_cases e : k < c
    · rw [if_pos e] at k3; exact absurd k3.symm hA
    rw [if_neg e] at k3
    by_cases e2 : k - c < l
    · rw [if_pos e2] at k3; exact ⟨k - c, e2, by omega, k3⟩
    · rw [if_neg e2] at k3
      by_cases e3 : S 13 (12 * p + (l - 1)) = 0
      · rw [if_pos e3] at k3; exact absurd k3.symm hA
      · rw [if_neg e3] at k3; exact ⟨l - 1, by omega, by omega, k3⟩
  · rintro ⟨i, i1, i2, i3⟩
    refine ⟨c + i, by omega, i2, ?_⟩
    rw [mPl_p hp (by omega : c + i ≤ 60) h, if_neg (by omega), show c + i - c = i from by omega, if_pos i1]
    exact i3
