theorem dpt {k0 q b n : Nat} {σ d : zS} {x v : Int32} (h : 0 < b) (h2 : b ≤ 10) : pt n (dE k0 q σ d) (k0 + b) x v = dE k0 q σ (pt n d b x v) := by
  unfold pt
  split
  · rfl
  · split
    · rfl
    · exact dU_k h h2
theorem dpt17 {k0 q n : Nat} {σ d : zS} {x v : Int32} (h : dH k0 q) : pt n (dE k0 q σ d) (q + 17) x v = dE k0 q σ (pt n d 11 x v) := by
  unfold pt
  split
  · rfl
  · split
    · rfl
    · exact dU_17 h
theorem dl_1 {k0 q : Nat} (h : dH k0 q) : ln 0 (k0 + 1) = 10 := by rcases h.1 with rfl | rfl <;> rfl
theorem dr_1 {k0 q : Nat} {σ d : zS} : dE k0 q σ d (k0 + 1) = d 1 := dE_k (by decide) (by decide)
theorem da_1 {k0 q : Nat} {σ d : zS} {x : Int32} (h : dH k0 q) : FX7_at (k0 + 1) x (dE k0 q σ d) = some (rd 10 (d 1) x, dE k0 q σ d) := by rw [fat', dl_1 h, dr_1]
theorem dp_1 {k0 q : Nat} {σ d : zS} {x v : Int32} (h : dH k0 q) : FX7_put (k0 + 1) x v (dE k0 q σ d) = some (0, dE k0 q σ (pt 10 d 1 x v)) := by rw [fput', dl_1 h, dpt (by decide) (by decide)]
theorem dl_2 {k0 q : Nat} (h : dH k0 q) : ln 0 (k0 + 2) = 10 := by rcases h.1 with rfl | rfl <;> rfl
theorem dr_2 {k0 q : Nat} {σ d : zS} : dE k0 q σ d (k0 + 2) = d 2 := dE_k (by decide) (by decide)
theorem da_2 {k0 q : Nat} {σ d : zS} {x : Int32} (h : dH k0 q) : FX7_at (k0 + 2) x (dE k0 q σ d) = some (rd 10 (d 2) x, dE k0 q σ d) := by rw [fat', dl_2 h, dr_2]
theorem dp_2 {k0 q : Nat} {σ d : zS} {x v : Int32} (h : dH k0 q) : FX7_put (k0 + 2) x v (dE k0 q σ d) = some (0, dE k0 q σ (pt 10 d 2 x v)) := by rw [fput', dl_2 h, dpt (by decide) (by decide)]
theorem dl_3 {k0 q : Nat} (h : dH k0 q) : ln 0 (k0 + 3) = 10 := by rcases h.1 with rfl | rfl <;> rfl
theorem dr_3 {k0 q : Nat} {σ d : zS} : dE k0 q σ d (k0 + 3) = d 3 := dE_k (by decide) (by decide)
theorem da_3 {k0 q : Nat} {σ d : zS} {x : Int32} (h : dH k0 q) : FX7_at (k0 + 3) x (dE k0 q σ d) = some (rd 10 (d 3) x, dE k0 q σ d) := by rw [fat', dl_3 h, dr_3]
theorem dp_3 {k0 q : Nat} {σ d : zS} {x v : Int32} (h : dH k0 q) : FX7_put (k0 + 3) x v (dE k0 q σ d) = some (0, dE k0 q σ (pt 10 d 3 x v)) := by rw [fput', dl_3 h, dpt (by decide) (by decide)]
theorem dl_4 {k0 q : Nat} (h : dH k0 q) : ln 0 (k0 + 4) = 8 := by rcases h.1 with rfl | rfl <;> rfl
theorem dr_4 {k0 q : Nat} {σ d : zS} : dE k0 q σ d (k0 + 4) = d 4 := dE_k (by decide) (by decide)
theorem da_4 {k0 q : Nat} {σ d : zS} {x : Int32} (h : dH k0 q) : FX7_at (k0 + 4) x (dE k0 q σ d) = some (rd 8 (d 4) x, dE k0 q σ d) := by rw [fat', dl_4 h, dr_4]
theorem dp_4 {k0 q : Nat} {σ d : zS} {x v : Int32} (h : dH k0 q) : FX7_put (k0 + 4) x v (dE k0 q σ d) = some (0, dE k0 q σ (pt 8 d 4 x v)) := by rw [fput', dl_4 h, dpt (by decide) (by decide)]
theorem dl_5 {k0 q : Nat} (h : dH k0 q) : ln 0 (k0 + 5) = 8 := by rcases h.1 with rfl | rfl <;> rfl
theorem dr_5 {k0 q : Nat} {σ d : zS} : dE k0 q σ d (k0 + 5) = d 5 := dE_k (by decide) (by decide)
theorem da_5 {k0 q : Nat} {σ d : zS} {x : Int32} (h : dH k0 q) : FX7_at (k0 + 5) x (dE k0 q σ d) = some (rd 8 (d 5) x, dE k0 q σ d) := by rw [fat', dl_5 h, dr_5]
theorem dp_5 {k0 q : Nat} {σ d : zS} {x v : Int32} (h : dH k0 q) : FX7_put (k0 + 5) x v (dE k0 q σ d) = some (0, dE k0 q σ (pt 8 d 5 x v)) := by rw [fput', dl_5 h, dpt (by decide) (by decide)]
theorem dl_6 {k0 q : Nat} (h : dH k0 q) : ln 0 (k0 + 6) = 8 := by rcases h.1 with rfl | rfl <;> rfl
theorem dr_6 {k0 q : Nat} {σ d : zS} : dE k0 q σ d (k0 + 6) = d 6 := dE_k (by decide) (by decide)
theorem da_6 {k0 q : Nat} {σ d : zS} {x : Int32} (h : dH k0 q) : FX7_at (k0 + 6) x (dE k0 q σ d) = some (rd 8 (d 6) x, dE k0 q σ d) := by rw [fat', dl_6 h, dr_6]
theorem dp_6 {k0 q : Nat} {σ d : zS} {x v : Int32} (h : dH k0 q) : FX7_put (k0 + 6) x v (dE k0 q σ d) = some (0, dE k0 q σ (pt 8 d 6 x v)) := by rw [fput', dl_6 h, dpt (by decide) (by decide)]
theorem dl_7 {k0 q : Nat} (h : dH k0 q) : ln 0 (k0 + 7) = 7 := by rcases h.1 with rfl | rfl <;> rfl
theorem dr_7 {k0 q : Nat} {σ d : zS} : dE k0 q σ d (k0 + 7) = d 7 := dE_k (by decide) (by decide)
theorem da_7 {k0 q : Nat} {σ d : zS} {x : Int32} (h : dH k0 q) : FX7_at (k0 + 7) x (dE k0 q σ d) = some (rd 7 (d 7) x, dE k0 q σ d) := by rw [fat', dl_7 h, dr_7]
theorem dp_7 {k0 q : Nat} {σ d : zS} {x v : Int32} (h : dH k0 q) : FX7_put (k0 + 7) x v (dE k0 q σ d) = some (0, dE k0 q σ (pt 7 d 7 x v)) := by rw [fput', dl_7 h, dpt (by decide) (by decide)]
theorem dl_8 {k0 q : Nat} (h : dH k0 q) : ln 0 (k0 + 8) = 8 := by rcases h.1 with rfl | rfl <;> rfl
theorem dr_8 {k0 q : Nat} {σ d : zS} : dE k0 q σ d (k0 + 8) = d 8 := dE_k (by decide) (by decide)
theorem da_8 {k0 q : Nat} {σ d : zS} {x : Int32} (h : dH k0 q) : FX7_at (k0 + 8) x (dE k0 q σ d) = some (rd 8 (d 8) x, dE k0 q σ d) := by rw [fat', dl_8 h, dr_8]
theorem dp_8 {k0 q : Nat} {σ d : zS} {x v : Int32} (h : dH k0 q) : FX7_put (k0 + 8) x v (dE k0 q σ d) = some (0, dE k0 q σ (pt 8 d 8 x v)) := by rw [fput', dl_8 h, dpt (by decide) (by decide)]
theorem dl_9 {k0 q : Nat} (h : dH k0 q) : ln 0 (k0 + 9) = 61 := by rcases h.1 with rfl | rfl <;> rfl
theorem dr_9 {k0 q : Nat} {σ d : zS} : dE k0 q σ d (k0 + 9) = d 9 := dE_k (by decide) (by decide)
theorem da_9 {k0 q : Nat} {σ d : zS} {x : Int32} (h : dH k0 q) : FX7_at (k0 + 9) x (dE k0 q σ d) = some (rd 61 (d 9) x, dE k0 q σ d) := by rw [fat', dl_9 h, dr_9]
theorem dp_9 {k0 q : Nat} {σ d : zS} {x v : Int32} (h : dH k0 q) : FX7_put (k0 + 9) x v (dE k0 q σ d) = some (0, dE k0 q σ (pt 61 d 9 x v)) := by rw [fput', dl_9 h, dpt (by decide) (by decide)]
theorem dl_10 {k0 q : Nat} (h : dH k0 q) : ln 0 (k0 + 10) = 488 := by rcases h.1 with rfl | rfl <;> rfl
theorem dr_10 {k0 q : Nat} {σ d : zS} : dE k0 q σ d (k0 + 10) = d 10 := dE_k (by decide) (by decide)
theorem da_10 {k0 q : Nat} {σ d : zS} {x : Int32} (h : dH k0 q) : FX7_at (k0 + 10) x (dE k0 q σ d) = some (rd 488 (d 10) x, dE k0 q σ d) := by rw [fat', dl_10 h, dr_10]
theorem dp_10 {k0 q : Nat} {σ d : zS} {x v : Int32} (h : dH k0 q) : FX7_put (k0 + 10) x v (dE k0 q σ d) = some (0, dE k0 q σ (pt 488 d 10 x v)) := by rw [fput', dl_10 h, dpt (by decide) (by decide)]
theorem ql_2 {k0 q : Nat} (h : dH k0 q) : ln 0 (q + 2) = 10 := by rcases h.2 with rfl | rfl <;> rfl
theorem qr_2 {k0 q : Nat} {σ d : zS} (h : dH k0 q) : dE k0 q σ d (q + 2) = ss q σ 2 := dE_q h (by decide) (by decide)
theorem qa_2 {k0 q : Nat} {σ d : zS} {x : Int32} (h : dH k0 q) : FX7_at (q + 2) x (dE k0 q σ d) = some (rd 10 (ss q σ 2) x, dE k0 q σ d) := by rw [fat', ql_2 h, qr_2 h]
theorem ql_3 {k0 q : Nat} (h : dH k0 q) : ln 0 (q + 3) = 10 := by rcases h.2 with rfl | rfl <;> rfl
theorem qr_3 {k0 q : Nat} {σ d : zS} (h : dH k0 q) : dE k0 q σ d (q + 3) = ss q σ 3 := dE_q h (by decide) (by decide)
theorem qa_3 {k0 q : Nat} {σ d : zS} {x : Int32} (h : dH k0 q) : FX7_at (q + 3) x (dE k0 q σ d) = some (rd 10 (ss q σ 3) x, dE k0 q σ d) := by rw [fat', ql_3 h, qr_3 h]
theorem ql_4 {k0 q : Nat} (h : dH k0 q) : ln 0 (q + 4) = 10 := by rcases h.2 with rfl | rfl <;> rfl
theorem qr_4 {k0 q : Nat} {σ d : zS} (h : dH k0 q) : dE k0 q σ d (q + 4) = ss q σ 4 := dE_q h (by decide) (by decide)
theorem qa_4 {k0 q : Nat} {σ d : zS} {x : Int32} (h : dH k0 q) : FX7_at (q + 4) x (dE k0 q σ d) = some (rd 10 (ss q σ 4) x, dE k0 q σ d) := by rw [fat', ql_4 h, qr_4 h]
theorem ql_5 {k0 q : Nat} (h : dH k0 q) : ln 0 (q + 5) = 10 := by rcases h.2 with rfl | rfl <;> rfl
theorem qr_5 {k0 q : Nat} {σ d : zS} (h : dH k0 q) : dE k0 q σ d (q + 5) = ss q σ 5 := dE_q h (by decide) (by decide)
theorem qa_5 {k0 q : Nat} {σ d : zS} {x : Int32} (h : dH k0 q) : FX7_at (q + 5) x (dE k0 q σ d) = some (rd 10 (ss q σ 5) x, dE k0 q σ d) := by rw [fat', ql_5 h, qr_5 h]
theorem ql_6 {k0 q : Nat} (h : dH k0 q) : ln 0 (q + 6) = 100 := by rcases h.2 with rfl | rfl <;> rfl
theorem qr_6 {k0 q : Nat} {σ d : zS} (h : dH k0 q) : dE k0 q σ d (q + 6) = ss q σ 6 := dE_q h (by decide) (by decide)
theorem qa_6 {k0 q : Nat} {σ d : zS} {x : Int32} (h : dH k0 q) : FX7_at (q + 6) x (dE k0 q σ d) = some (rd 100 (ss q σ 6) x, dE k0 q σ d) := by rw [fat', ql_6 h, qr_6 h]
theorem ql_8 {k0 q : Nat} (h : dH k0 q) : ln 0 (q + 8) = 8 := by rcases h.2 with rfl | rfl <;> rfl
theorem qr_8 {k0 q : Nat} {σ d : zS} (h : dH k0 q) : dE k0 q σ d (q + 8) = ss q σ 8 := dE_q h (by decide) (by decide)
theorem qa_8 {k0 q : Nat} {σ d : zS} {x : Int32} (h : dH k0 q) : FX7_at (q + 8) x (dE k0 q σ d) = some (rd 8 (ss q σ 8) x, dE k0 q σ d) := by rw [fat', ql_8 h, qr_8 h]
theorem ql_9 {k0 q : Nat} (h : dH k0 q) : ln 0 (q + 9) = 8 := by rcases h.2 with rfl | rfl <;> rfl
theorem qr_9 {k0 q : Nat} {σ d : zS} (h : dH k0 q) : dE k0 q σ d (q + 9) = ss q σ 9 := dE_q h (by decide) (by decide)
theorem qa_9 {k0 q : Nat} {σ d : zS} {x : Int32} (h : dH k0 q) : FX7_at (q + 9) x (dE k0 q σ d) = some (rd 8 (ss q σ 9) x, dE k0 q σ d) := by rw [fat', ql_9 h, qr_9 h]
theorem ql_10 {k0 q : Nat} (h : dH k0 q) : ln 0 (q + 10) = 8 := by rcases h.2 with rfl | rfl <;> rfl
theorem qr_10 {k0 q : Nat} {σ d : zS} (h : dH k0 q) : dE k0 q σ d (q + 10) = ss q σ 10 := dE_q h (by decide) (by decide)
theorem qa_10 {k0 q : Nat} {σ d : zS} {x : Int32} (h : dH k0 q) : FX7_at (q + 10) x (dE k0 q σ d) = some (rd 8 (ss q σ 10) x, dE k0 q σ d) := by rw [fat', ql_10 h, qr_10 h]
theorem ql_11 {k0 q : Nat} (h : dH k0 q) : ln 0 (q + 11) = 8 := by rcases h.2 with rfl | rfl <;> rfl
theorem qr_11 {k0 q : Nat} {σ d : zS} (h : dH k0 q) : dE k0 q σ d (q + 11) = ss q σ 11 := dE_q h (by decide) (by decide)
theorem qa_11 {k0 q : Nat} {σ d : zS} {x : Int32} (h : dH k0 q) : FX7_at (q + 11) x (dE k0 q σ d) = some (rd 8 (ss q σ 11) x, dE k0 q σ d) := by rw [fat', ql_11 h, qr_11 h]
theorem ql_12 {k0 q : Nat} (h : dH k0 q) : ln 0 (q + 12) = 8 := by rcases h.2 with rfl | rfl <;> rfl
theorem qr_12 {k0 q : Nat} {σ d : zS} (h : dH k0 q) : dE k0 q σ d (q + 12) = ss q σ 12 := dE_q h (by decide) (by decide)
theorem qa_12 {k0 q : Nat} {σ d : zS} {x : Int32} (h : dH k0 q) : FX7_at (q + 12) x (dE k0 q σ d) = some (rd 8 (ss q σ 12) x, dE k0 q σ d) := by rw [fat', ql_12 h, qr_12 h]
theorem ql_13 {k0 q : Nat} (h : dH k0 q) : ln 0 (q + 13) = 96 := by rcases h.2 with rfl | rfl <;> rfl
theorem qr_13 {k0 q : Nat} {σ d : zS} (h : dH k0 q) : dE k0 q σ d (q + 13) = ss q σ 13 := dE_q h (by decide) (by decide)
theorem qa_13 {k0 q : Nat} {σ d : zS} {x : Int32} (h : dH k0 q) : FX7_at (q + 13) x (dE k0 q σ d) = some (rd 96 (ss q σ 13) x, dE k0 q σ d) := by rw [fat', ql_13 h, qr_13 h]
theorem ql_15 {k0 q : Nat} (h : dH k0 q) : ln 0 (q + 15) = 4 := by rcases h.2 with rfl | rfl <;> rfl
theorem qr_15 {k0 q : Nat} {σ d : zS} (h : dH k0 q) : dE k0 q σ d (q + 15) = ss q σ 15 := dE_q h (by decide) (by decide)
theorem qa_15 {k0 q : Nat} {σ d : zS} {x : Int32} (h : dH k0 q) : FX7_at (q + 15) x (dE k0 q σ d) = some (rd 4 (ss q σ 15) x, dE k0 q σ d) := by rw [fat', ql_15 h, qr_15 h]
theorem ql_16 {k0 q : Nat} (h : dH k0 q) : ln 0 (q + 16) = 700 := by rcases h.2 with rfl | rfl <;> rfl
theorem qr_16 {k0 q : Nat} {σ d : zS} (h : dH k0 q) : dE k0 q σ d (q + 16) = ss q σ 16 := dE_q h (by decide) (by decide)
theorem qa_16 {k0 q : Nat} {σ d : zS} {x : Int32} (h : dH k0 q) : FX7_at (q + 16) x (dE k0 q σ d) = some (rd 700 (ss q σ 16) x, dE k0 q σ d) := by rw [fat', ql_16 h, qr_16 h]
theorem qr_1 {k0 q : Nat} {σ d : zS} (h : dH k0 q) : dE k0 q σ d (q + 1) = ss q σ 1 := dE_q h (by decide) (by decide)
theorem qr_7 {k0 q : Nat} {σ d : zS} (h : dH k0 q) : dE k0 q σ d (q + 7) = ss q σ 7 := dE_q h (by decide) (by decide)
theorem ql_17 {k0 q : Nat} (h : dH k0 q) : ln 0 (q + 17) = 40 := by rcases h.2 with rfl | rfl <;> rfl
theorem qa_17 {k0 q : Nat} {σ d : zS} {x : Int32} (h : dH k0 q) : FX7_at (q + 17) x (dE k0 q σ d) = some (rd 40 (d 11) x, dE k0 q σ d) := by rw [fat', ql_17 h, dE_17 h]
theorem qp_17 {k0 q : Nat} {σ d : zS} {x v : Int32} (h : dH k0 q) : FX7_put (q + 17) x v (dE k0 q σ d) = some (0, dE k0 q σ (pt 40 d 11 x v)) := by rw [fput', ql_17 h, dpt17 h]
theorem q14_0 {k0 q : Nat} {σ d : zS} (h : dH k0 q) : dE k0 q σ d (q + 14) 0 = ss q σ 14 0 := dE_14 h (by decide)
theorem q14_1 {k0 q : Nat} {σ d : zS} (h : dH k0 q) : dE k0 q σ d (q + 14) 1 = ss q σ 14 1 := dE_14 h (by decide)
theorem dg_1 {k0 q : Nat} {σ d : zS} : dE k0 q σ d k0 1 = d 0 1 := dE_0 (by decide)
theorem dw_1 {k0 q : Nat} {σ d : zS} {v : Int32} : zup (dE k0 q σ d) k0 1 v = dE k0 q σ (zup d 0 1 v) := dU_0 (by decide)
theorem dg_2 {k0 q : Nat} {σ d : zS} : dE k0 q σ d k0 2 = d 0 2 := dE_0 (by decide)
theorem dw_2 {k0 q : Nat} {σ d : zS} {v : Int32} : zup (dE k0 q σ d) k0 2 v = dE k0 q σ (zup d 0 2 v) := dU_0 (by decide)
theorem dg_3 {k0 q : Nat} {σ d : zS} : dE k0 q σ d k0 3 = d 0 3 := dE_0 (by decide)
theorem dw_3 {k0 q : Nat} {σ d : zS} {v : Int32} : zup (dE k0 q σ d) k0 3 v = dE k0 q σ (zup d 0 3 v) := dU_0 (by decide)
theorem dg_4 {k0 q : Nat} {σ d : zS} : dE k0 q σ d k0 4 = d 0 4 := dE_0 (by decide)
theorem dw_4 {k0 q : Nat} {σ d : zS} {v : Int32} : zup (dE k0 q σ d) k0 4 v = dE k0 q σ (zup d 0 4 v) := dU_0 (by decide)
theorem dg_5 {k0 q : Nat} {σ d : zS} : dE k0 q σ d k0 5 = d 0 5 := dE_0 (by decide)
theorem dw_5 {k0 q : Nat} {σ d : zS} {v : Int32} : zup (dE k0 q σ d) k0 5 v = dE k0 q σ (zup d 0 5 v) := dU_0 (by decide)
theorem dg_12 {k0 q : Nat} {σ d : zS} : dE k0 q σ d k0 12 = d 0 12 := dE_0 (by decide)
theorem dw_12 {k0 q : Nat} {σ d : zS} {v : Int32} : zup (dE k0 q σ d) k0 12 v = dE k0 q σ (zup d 0 12 v) := dU_0 (by decide)
theorem dg_13 {k0 q : Nat} {σ d : zS} : dE k0 q σ d k0 13 = d 0 13 := dE_0 (by decide)
theorem dw_13 {k0 q : Nat} {σ d : zS} {v : Int32} : zup (dE k0 q σ d) k0 13 v = dE k0 q σ (zup d 0 13 v) := dU_0 (by decide)
theorem rl8_0 {f : Nat → Int32} : rd 8 f 0 = f 0 := rd_n (p := 0) (by decide) (by decide)
theorem pl8_0 {σ : zS} {k : Nat} {v : Int32} : pt 8 σ k 0 v = zup σ k 0 v := pt_n (p := 0) (by decide) (by decide)
theorem rl8_1 {f : Nat → Int32} : rd 8 f 1 = f 1 := rd_n (p := 1) (by decide) (by decide)
theorem pl8_1 {σ : zS} {k : Nat} {v : Int32} : pt 8 σ k 1 v = zup σ k 1 v := pt_n (p := 1) (by decide) (by decide)
theorem rl8_2 {f : Nat → Int32} : rd 8 f 2 = f 2 := rd_n (p := 2) (by decide) (by decide)
theorem pl8_2 {σ : zS} {k : Nat} {v : Int32} : pt 8 σ k 2 v = zup σ k 2 v := pt_n (p := 2) (by decide) (by decide)
theorem rl8_3 {f : Nat → Int32} : rd 8 f 3 = f 3 := rd_n (p := 3) (by decide) (by decide)
theorem pl8_3 {σ : zS} {k : Nat} {v : Int32} : pt 8 σ k 3 v = zup σ k 3 v := pt_n (p := 3) (by decide) (by decide)
theorem rl8_4 {f : Nat → Int32} : rd 8 f 4 = f 4 := rd_n (p := 4) (by decide) (by decide)
theorem pl8_4 {σ : zS} {k : Nat} {v : Int32} : pt 8 σ k 4 v = zup σ k 4 v := pt_n (p := 4) (by decide) (by decide)
theorem rl8_5 {f : Nat → Int32} : rd 8 f 5 = f 5 := rd_n (p := 5) (by decide) (by decide)
theorem pl8_5 {σ : zS} {k : Nat} {v : Int32} : pt 8 σ k 5 v = zup σ k 5 v := pt_n (p := 5) (by decide) (by decide)
theorem rl8_6 {f : Nat → Int32} : rd 8 f 6 = f 6 := rd_n (p := 6) (by decide) (by decide)
theorem pl8_6 {σ : zS} {k : Nat} {v : Int32} : pt 8 σ k 6 v = zup σ k 6 v := pt_n (p := 6) (by decide) (by decide)
theorem rl8_7 {f : Nat → Int32} : rd 8 f 7 = f 7 := rd_n (p := 7) (by decide) (by decide)
theorem pl8_7 {σ : zS} {k : Nat} {v : Int32} : pt 8 σ k 7 v = zup σ k 7 v := pt_n (p := 7) (by decide) (by decide)
theorem pl7_0 {σ : zS} {k : Nat} {v : Int32} : pt 7 σ k 0 v = zup σ k 0 v := pt_n (p := 0) (by decide) (by decide)
theorem pl7_1 {σ : zS} {k : Nat} {v : Int32} : pt 7 σ k 1 v = zup σ k 1 v := pt_n (p := 1) (by decide) (by decide)
theorem pl7_2 {σ : zS} {k : Nat} {v : Int32} : pt 7 σ k 2 v = zup σ k 2 v := pt_n (p := 2) (by decide) (by decide)
theorem pl7_3 {σ : zS} {k : Nat} {v : Int32} : pt 7 σ k 3 v = zup σ k 3 v := pt_n (p := 3) (by decide) (by decide)
theorem pl7_4 {σ : zS} {k : Nat} {v : Int32} : pt 7 σ k 4 v = zup σ k 4 v := pt_n (p := 4) (by decide) (by decide)
theorem pl7_5 {σ : zS} {k : Nat} {v : Int32} : pt 7 σ k 5 v = zup σ k 5 v := pt_n (p := 5) (by decide) (by decide)
theorem pl7_6 {σ : zS} {k : Nat} {v : Int32} : pt 7 σ k 6 v = zup σ k 6 v := pt_n (p := 6) (by decide) (by decide)
/-! the day as a function of its rows -/
def mStp (S : zS) (x i : Int32) : Int32 := rd 96 (S 13) (x * 12 + i)
def mLst (S : zS) (x : Int32) : Int32 := mStp S x (rd 8 (S 12) x - 1)
def mPl (S : zS) (x m : Int32) : Int32 := if 0 ≤ m - rd 8 (S 9) x then (if rd 8 (S 12) x ≤ m - rd 8 (S 9) x then (if mLst S x = 0 then -1 else mLst S x) else mStp S x (m - rd 8 (S 9) x)) else -1
def mLvs (S : zS) (x m : Int32) : Bool := decide (m = rd 8 (S 9) x + rd 8 (S 12) x) && decide (mLst S x = 0)
def mTks (S : zS) (x m : Int32) : Bool := !decide (rd 8 (S 10) x ≤ 0) && decide (m = rd 8 (S 9) x + rd 8 (S 10) x - 1)
def mBtw (S : zS) (a b : Int32) : Int32 := rd 100 (S 6) (a * 10 + b)
def mTal (d : zS) (w : Nat) (v : Int32) : zS := zup d 8 w (d 8 w + v)
def mMrk (d : zS) (w p : Nat) : zS := zup d 8 w (d 8 w ||| sb p)
def mBck (d : zS) (a : Int32) : zS := pt 10 d 3 a (rd 10 (d 3) a + 1)
theorem fstp {k0 q : Nat} {σ d : zS} {x i : Int32} (h : dH k0 q) : FX2_stepOf (q + 7) x i (dE k0 q σ d) = some (mStp (ss q σ) x i, dE k0 q σ d) := by
  unfold FX2_stepOf
  simp only [zlet_eq, zbd_s, zgd_t, zinr_s, dE_ptr h, kd_q h, Nat.add_assoc, Nat.reduceAdd, dE_q0 h, dE_ss h, dE_17 h, dE_t h, dU_17 h, dU_t h, dr_1, da_1 h, dp_1 h, dr_2, da_2 h, dp_2 h, dr_3, da_3 h, dp_3 h, dr_4, da_4 h, dp_4 h, dr_5, da_5 h, dp_5 h, dr_6, da_6 h, dp_6 h, dr_7, da_7 h, dp_7 h, dr_8, da_8 h, dp_8 h, dr_9, da_9 h, dp_9 h, dr_10, da_10 h, dp_10 h, qr_2 h, qa_2 h, qr_3 h, qa_3 h, qr_4 h, qa_4 h, qr_5 h, qa_5 h, qr_6 h, qa_6 h, qr_8 h, qa_8 h, qr_9 h, qa_9 h, qr_10 h, qa_10 h, qr_11 h, qa_11 h, qr_12 h, qa_12 h, qr_13 h, qa_13 h, qr_15 h, qa_15 h, qr_16 h, qa_16 h, qr_1 h, qr_7 h, qa_17 h, qp_17 h, q14_0 h, q14_1 h, dg_1, dw_1, dg_2, dw_2, dg_3, dw_3, dg_4, dw_4, dg_5, dw_5, dg_12, dw_12, dg_13, dw_13, rl8_0, pl8_0, rl8_1, pl8_1, rl8_2, pl8_2, rl8_3, pl8_3, rl8_4, pl8_4, rl8_5, pl8_5, rl8_6, pl8_6, rl8_7, pl8_7, pl7_0, pl7_1, pl7_2, pl7_3, pl7_4, pl7_5, pl7_6]
  rfl
theorem flst {k0 q : Nat} {σ d : zS} {x : Int32} (h : dH k0 q) : FX2_lastStep (q + 7) x (dE k0 q σ d) = some (mLst (ss q σ) x, dE k0 q σ d) := by
  unfold FX2_lastStep
  simp only [zlet_eq, zbd_s, zgd_t, zinr_s, dE_ptr h, kd_q h, Nat.add_assoc, Nat.reduceAdd, dE_q0 h, dE_ss h, dE_17 h, dE_t h, dU_17 h, dU_t h, dr_1, da_1 h, dp_1 h, dr_2, da_2 h, dp_2 h, dr_3, da_3 h, dp_3 h, dr_4, da_4 h, dp_4 h, dr_5, da_5 h, dp_5 h, dr_6, da_6 h, dp_6 h, dr_7, da_7 h, dp_7 h, dr_8, da_8 h, dp_8 h, dr_9, da_9 h, dp_9 h, dr_10, da_10 h, dp_10 h, qr_2 h, qa_2 h, qr_3 h, qa_3 h, qr_4 h, qa_4 h, qr_5 h, qa_5 h, qr_6 h, qa_6 h, qr_8 h, qa_8 h, qr_9 h, qa_9 h, qr_10 h, qa_10 h, qr_11 h, qa_11 h, qr_12 h, qa_12 h, qr_13 h, qa_13 h, qr_15 h, qa_15 h, qr_16 h, qa_16 h, qr_1 h, qr_7 h, qa_17 h, qp_17 h, q14_0 h, q14_1 h, dg_1, dw_1, dg_2, dw_2, dg_3, dw_3, dg_4, dw_4, dg_5, dw_5, dg_12, dw_12, dg_13, dw_13, rl8_0, pl8_0, rl8_1, pl8_1, rl8_2, pl8_2, rl8_3, pl8_3, rl8_4, pl8_4, rl8_5, pl8_5, rl8_6, pl8_6, rl8_7, pl8_7, pl7_0, pl7_1, pl7_2, pl7_3, pl7_4, pl7_5, pl7_6, fstp h]
  rfl
theorem fpl {k0 q : Nat} {σ d : zS} {x m : Int32} (h : dH k0 q) : FX2_placeIn (q + 7) x m (dE k0 q σ d) = some (mPl (ss q σ) x m, dE k0 q σ d) := by
  unfold FX2_placeIn FX2_placeIn_b53 mPl
  simp only [zlet_eq, zbd_s, zgd_t, zinr_s, dE_ptr h, kd_q h, Nat.add_assoc, Nat.reduceAdd, dE_q0 h, dE_ss h, dE_17 h, dE_t h, dU_17 h, dU_t h, dr_1, da_1 h, dp_1 h, dr_2, da_2 h, dp_2 h, dr_3, da_3 h, dp_3 h, dr_4, da_4 h, dp_4 h, dr_5, da_5 h, dp_5 h, dr_6, da_6 h, dp_6 h, dr_7, da_7 h, dp_7 h, dr_8, da_8 h, dp_8 h, dr_9, da_9 h, dp_9 h, dr_10, da_10 h, dp_10 h, qr_2 h, qa_2 h, qr_3 h, qa_3 h, qr_4 h, qa_4 h, qr_5 h, qa_5 h, qr_6 h, qa_6 h, qr_8 h, qa_8 h, qr_9 h, qa_9 h, qr_10 h, qa_10 h, qr_11 h, qa_11 h, qr_12 h, qa_12 h, qr_13 h, qa_13 h, qr_15 h, qa_15 h, qr_16 h, qa_16 h, qr_1 h, qr_7 h, qa_17 h, qp_17 h, q14_0 h, q14_1 h, dg_1, dw_1, dg_2, dw_2, dg_3, dw_3, dg_4, dw_4, dg_5, dw_5, dg_12, dw_12, dg_13, dw_13, rl8_0, pl8_0, rl8_1, pl8_1, rl8_2, pl8_2, rl8_3, pl8_3, rl8_4, pl8_4, rl8_5, pl8_5, rl8_6, pl8_6, rl8_7, pl8_7, pl7_0, pl7_1, pl7_2, pl7_3, pl7_4, pl7_5, pl7_6, fstp h, flst h]
  repeat' split
  all_goals rfl
theorem flvs {k0 q : Nat} {σ d : zS} {x m : Int32} (h : dH k0 q) : FX2_leavesIn (q + 7) x m (dE k0 q σ d) = some (b01 (mLvs (ss q σ) x m), dE k0 q σ d) := by
  unfold FX2_leavesIn FX2_leavesIn_b33 FX2_leavesIn_b34 mLvs
  simp only [zlet_eq, zbd_s, zgd_t, zinr_s, dE_ptr h, kd_q h, Nat.add_assoc, Nat.reduceAdd, dE_q0 h, dE_ss h, dE_17 h, dE_t h, dU_17 h, dU_t h, dr_1, da_1 h, dp_1 h, dr_2, da_2 h, dp_2 h, dr_3, da_3 h, dp_3 h, dr_4, da_4 h, dp_4 h, dr_5, da_5 h, dp_5 h, dr_6, da_6 h, dp_6 h, dr_7, da_7 h, dp_7 h, dr_8, da_8 h, dp_8 h, dr_9, da_9 h, dp_9 h, dr_10, da_10 h, dp_10 h, qr_2 h, qa_2 h, qr_3 h, qa_3 h, qr_4 h, qa_4 h, qr_5 h, qa_5 h, qr_6 h, qa_6 h, qr_8 h, qa_8 h, qr_9 h, qa_9 h, qr_10 h, qa_10 h, qr_11 h, qa_11 h, qr_12 h, qa_12 h, qr_13 h, qa_13 h, qr_15 h, qa_15 h, qr_16 h, qa_16 h, qr_1 h, qr_7 h, qa_17 h, qp_17 h, q14_0 h, q14_1 h, dg_1, dw_1, dg_2, dw_2, dg_3, dw_3, dg_4, dw_4, dg_5, dw_5, dg_12, dw_12, dg_13, dw_13, rl8_0, pl8_0, rl8_1, pl8_1, rl8_2, pl8_2, rl8_3, pl8_3, rl8_4, pl8_4, rl8_5, pl8_5, rl8_6, pl8_6, rl8_7, pl8_7, pl7_0, pl7_1, pl7_2, pl7_3, pl7_4, pl7_5, pl7_6, flst h, zgd_00, zgd_11]
  by_cases h1 : m = rd 8 (ss q σ 9) x + rd 8 (ss q σ 12) x
  · by_cases h2 : mLst (ss q σ) x = 0
    · rw [if_pos h1, if_pos h2, decide_eq_true h1, decide_eq_true h2]; rfl
    · rw [if_pos h1, if_neg h2, decide_eq_true h1, decide_eq_false h2]; rfl
  · rw [if_neg h1, decide_eq_false h1]; rfl
theorem ftks {k0 q : Nat} {σ d : zS} {x m : Int32} (h : dH k0 q) : FX2_comesToTake (q + 7) x m (dE k0 q σ d) = some (b01 (mTks (ss q σ) x m), dE k0 q σ d) := by
  unfold FX2_comesToTake FX2_comesToTake_b38 FX2_comesToTake_b39 mTks
  simp only [zlet_eq, zbd_s, zgd_t, zinr_s, dE_ptr h, kd_q h, Nat.add_assoc, Nat.reduceAdd, dE_q0 h, dE_ss h, dE_17 h, dE_t h, dU_17 h, dU_t h, dr_1, da_1 h, dp_1 h, dr_2, da_2 h, dp_2 h, dr_3, da_3 h, dp_3 h, dr_4, da_4 h, dp_4 h, dr_5, da_5 h, dp_5 h, dr_6, da_6 h, dp_6 h, dr_7, da_7 h, dp_7 h, dr_8, da_8 h, dp_8 h, dr_9, da_9 h, dp_9 h, dr_10, da_10 h, dp_10 h, qr_2 h, qa_2 h, qr_3 h, qa_3 h, qr_4 h, qa_4 h, qr_5 h, qa_5 h, qr_6 h, qa_6 h, qr_8 h, qa_8 h, qr_9 h, qa_9 h, qr_10 h, qa_10 h, qr_11 h, qa_11 h, qr_12 h, qa_12 h, qr_13 h, qa_13 h, qr_15 h, qa_15 h, qr_16 h, qa_16 h, qr_1 h, qr_7 h, qa_17 h, qp_17 h, q14_0 h, q14_1 h, dg_1, dw_1, dg_2, dw_2, dg_3, dw_3, dg_4, dw_4, dg_5, dw_5, dg_12, dw_12, dg_13, dw_13, rl8_0, pl8_0, rl8_1, pl8_1, rl8_2, pl8_2, rl8_3, pl8_3, rl8_4, pl8_4, rl8_5, pl8_5, rl8_6, pl8_6, rl8_7, pl8_7, pl7_0, pl7_1, pl7_2, pl7_3, pl7_4, pl7_5, pl7_6, zgd_00, zgd_11]
  by_cases h1 : rd 8 (ss q σ 10) x ≤ 0
  · rw [if_pos h1, decide_eq_true h1]; rfl
  · by_cases h2 : m = rd 8 (ss q σ 9) x + rd 8 (ss q σ 10) x - 1
    · rw [if_neg h1, if_pos h2, decide_eq_false h1, decide_eq_true h2]; rfl
    · rw [if_neg h1, if_neg h2, decide_eq_false h1, decide_eq_false h2]; rfl
theorem fbtw {k0 q : Nat} {σ d : zS} {a b : Int32} (h : dH k0 q) : FX1_between (q + 1) a b (dE k0 q σ d) = some (mBtw (ss q σ) a b, dE k0 q σ d) := by
  unfold FX1_between
  simp only [zlet_eq, zbd_s, zgd_t, zinr_s, dE_ptr h, kd_q h, Nat.add_assoc, Nat.reduceAdd, dE_q0 h, dE_ss h, dE_17 h, dE_t h, dU_17 h, dU_t h, dr_1, da_1 h, dp_1 h, dr_2, da_2 h, dp_2 h, dr_3, da_3 h, dp_3 h, dr_4, da_4 h, dp_4 h, dr_5, da_5 h, dp_5 h, dr_6, da_6 h, dp_6 h, dr_7, da_7 h, dp_7 h, dr_8, da_8 h, dp_8 h, dr_9, da_9 h, dp_9 h, dr_10, da_10 h, dp_10 h, qr_2 h, qa_2 h, qr_3 h, qa_3 h, qr_4 h, qa_4 h, qr_5 h, qa_5 h, qr_6 h, qa_6 h, qr_8 h, qa_8 h, qr_9 h, qa_9 h, qr_10 h, qa_10 h, qr_11 h, qa_11 h, qr_12 h, qa_12 h, qr_13 h, qa_13 h, qr_15 h, qa_15 h, qr_16 h, qa_16 h, qr_1 h, qr_7 h, qa_17 h, qp_17 h, q14_0 h, q14_1 h, dg_1, dw_1, dg_2, dw_2, dg_3, dw_3, dg_4, dw_4, dg_5, dw_5, dg_12, dw_12, dg_13, dw_13, rl8_0, pl8_0, rl8_1, pl8_1, rl8_2, pl8_2, rl8_3, pl8_3, rl8_4, pl8_4, rl8_5, pl8_5, rl8_6, pl8_6, rl8_7, pl8_7, pl7_0, pl7_1, pl7_2, pl7_3, pl7_4, pl7_5, pl7_6]
  rfl
theorem ftal {k0 q w : Nat} {σ d : zS} {v : Int32} (h : dH k0 q) (hw : w < 8) : FX0_tally k0 (nI w) v (dE k0 q σ d) = some (0, dE k0 q σ (mTal d w v)) := by
  unfold FX0_tally mTal
  simp only [zlet_eq, zbd_s, zgd_t, zinr_s, dE_ptr h, kd_q h, Nat.add_assoc, Nat.reduceAdd, dE_q0 h, dE_ss h, dE_17 h, dE_t h, dU_17 h, dU_t h, dr_1, da_1 h, dp_1 h, dr_2, da_2 h, dp_2 h, dr_3, da_3 h, dp_3 h, dr_4, da_4 h, dp_4 h, dr_5, da_5 h, dp_5 h, dr_6, da_6 h, dp_6 h, dr_7, da_7 h, dp_7 h, dr_8, da_8 h, dp_8 h, dr_9, da_9 h, dp_9 h, dr_10, da_10 h, dp_10 h, qr_2 h, qa_2 h, qr_3 h, qa_3 h, qr_4 h, qa_4 h, qr_5 h, qa_5 h, qr_6 h, qa_6 h, qr_8 h, qa_8 h, qr_9 h, qa_9 h, qr_10 h, qa_10 h, qr_11 h, qa_11 h, qr_12 h, qa_12 h, qr_13 h, qa_13 h, qr_15 h, qa_15 h, qr_16 h, qa_16 h, qr_1 h, qr_7 h, qa_17 h, qp_17 h, q14_0 h, q14_1 h, dg_1, dw_1, dg_2, dw_2, dg_3, dw_3, dg_4, dw_4, dg_5, dw_5, dg_12, dw_12, dg_13, dw_13, rl8_0, pl8_0, rl8_1, pl8_1, rl8_2, pl8_2, rl8_3, pl8_3, rl8_4, pl8_4, rl8_5, pl8_5, rl8_6, pl8_6, rl8_7, pl8_7, pl7_0, pl7_1, pl7_2, pl7_3, pl7_4, pl7_5, pl7_6, rd_n hw (by decide : 8 < 2 ^ 31), pt_n hw (by decide : 8 < 2 ^ 31)]
theorem fmrk {k0 q w p : Nat} {σ d : zS} (h : dH k0 q) (hw : w < 8) : FX0_mark k0 (nI w) (nI p) (dE k0 q σ d) = some (0, dE k0 q σ (mMrk d w p)) := by
  unfold FX0_mark mMrk
  simp only [zlet_eq, zbd_s, zgd_t, zinr_s, dE_ptr h, kd_q h, Nat.add_assoc, Nat.reduceAdd, dE_q0 h, dE_ss h, dE_17 h, dE_t h, dU_17 h, dU_t h, dr_1, da_1 h, dp_1 h, dr_2, da_2 h, dp_2 h, dr_3, da_3 h, dp_3 h, dr_4, da_4 h, dp_4 h, dr_5, da_5 h, dp_5 h, dr_6, da_6 h, dp_6 h, dr_7, da_7 h, dp_7 h, dr_8, da_8 h, dp_8 h, dr_9, da_9 h, dp_9 h, dr_10, da_10 h, dp_10 h, qr_2 h, qa_2 h, qr_3 h, qa_3 h, qr_4 h, qa_4 h, qr_5 h, qa_5 h, qr_6 h, qa_6 h, qr_8 h, qa_8 h, qr_9 h, qa_9 h, qr_10 h, qa_10 h, qr_11 h, qa_11 h, qr_12 h, qa_12 h, qr_13 h, qa_13 h, qr_15 h, qa_15 h, qr_16 h, qa_16 h, qr_1 h, qr_7 h, qa_17 h, qp_17 h, q14_0 h, q14_1 h, dg_1, dw_1, dg_2, dw_2, dg_3, dw_3, dg_4, dw_4, dg_5, dw_5, dg_12, dw_12, dg_13, dw_13, rl8_0, pl8_0, rl8_1, pl8_1, rl8_2, pl8_2, rl8_3, pl8_3, rl8_4, pl8_4, rl8_5, pl8_5, rl8_6, pl8_6, rl8_7, pl8_7, pl7_0, pl7_1, pl7_2, pl7_3, pl7_4, pl7_5, pl7_6, fbit, rd_n hw (by decide : 8 < 2 ^ 31), pt_n hw (by decide : 8 < 2 ^ 31)]
theorem ftal_0 {k0 q : Nat} {σ d : zS} {v : Int32} (h : dH k0 q) : FX0_tally k0 0 v (dE k0 q σ d) = some (0, dE k0 q σ (mTal d 0 v)) := ftal h (by decide)
theorem ftal_1 {k0 q : Nat} {σ d : zS} {v : Int32} (h : dH k0 q) : FX0_tally k0 1 v (dE k0 q σ d) = some (0, dE k0 q σ (mTal d 1 v)) := ftal h (by decide)
theorem ftal_2 {k0 q : Nat} {σ d : zS} {v : Int32} (h : dH k0 q) : FX0_tally k0 2 v (dE k0 q σ d) = some (0, dE k0 q σ (mTal d 2 v)) := ftal h (by decide)
theorem ftal_3 {k0 q : Nat} {σ d : zS} {v : Int32} (h : dH k0 q) : FX0_tally k0 3 v (dE k0 q σ d) = some (0, dE k0 q σ (mTal d 3 v)) := ftal h (by decide)
theorem ftal_4 {k0 q : Nat} {σ d : zS} {v : Int32} (h : dH k0 q) : FX0_tally k0 4 v (dE k0 q σ d) = some (0, dE k0 q σ (mTal d 4 v)) := ftal h (by decide)
theorem fmrk_5 {k0 q p : Nat} {σ d : zS} (h : dH k0 q) : FX0_mark k0 5 (nI p) (dE k0 q σ d) = some (0, dE k0 q σ (mMrk d 5 p)) := fmrk h (by decide)
theorem fmrk_6 {k0 q p : Nat} {σ d : zS} (h : dH k0 q) : FX0_mark k0 6 (nI p) (dE k0 q σ d) = some (0, dE k0 q σ (mMrk d 6 p)) := fmrk h (by decide)
theorem fmrk_7 {k0 q p : Nat} {σ d : zS} (h : dH k0 q) : FX0_mark k0 7 (nI p) (dE k0 q σ d) = some (0, dE k0 q σ (mMrk d 7 p)) := fmrk h (by decide)
theorem fbck {k0 q : Nat} {σ d : zS} {a : Int32} (h : dH k0 q) : FX0_putBack k0 a (dE k0 q σ d) = some (0, dE k0 q σ (mBck d a)) := by
  unfold FX0_putBack mBck
  simp only [zlet_eq, zbd_s, zgd_t, zinr_s, dE_ptr h, kd_q h, Nat.add_assoc, Nat.reduceAdd, dE_q0 h, dE_ss h, dE_17 h, dE_t h, dU_17 h, dU_t h, dr_1, da_1 h, dp_1 h, dr_2, da_2 h, dp_2 h, dr_3, da_3 h, dp_3 h, dr_4, da_4 h, dp_4 h, dr_5, da_5 h, dp_5 h, dr_6, da_6 h, dp_6 h, dr_7, da_7 h, dp_7 h, dr_8, da_8 h, dp_8 h, dr_9, da_9 h, dp_9 h, dr_10, da_10 h, dp_10 h, qr_2 h, qa_2 h, qr_3 h, qa_3 h, qr_4 h, qa_4 h, qr_5 h, qa_5 h, qr_6 h, qa_6 h, qr_8 h, qa_8 h, qr_9 h, qa_9 h, qr_10 h, qa_10 h, qr_11 h, qa_11 h, qr_12 h, qa_12 h, qr_13 h, qa_13 h, qr_15 h, qa_15 h, qr_16 h, qa_16 h, qr_1 h, qr_7 h, qa_17 h, qp_17 h, q14_0 h, q14_1 h, dg_1, dw_1, dg_2, dw_2, dg_3, dw_3, dg_4, dw_4, dg_5, dw_5, dg_12, dw_12, dg_13, dw_13, rl8_0, pl8_0, rl8_1, pl8_1, rl8_2, pl8_2, rl8_3, pl8_3, rl8_4, pl8_4, rl8_5, pl8_5, rl8_6, pl8_6, rl8_7, pl8_7, pl7_0, pl7_1, pl7_2, pl7_3, pl7_4, pl7_5, pl7_6]
/-- who leaves -/
def mLv (S : zS) (p : Nat) (d : zS) : zS :=
  if S 8 p = 0 then
    (if d 0 4 = 2 ∧ bt (d 8 5) p = true ∧ bt (d 0 13) p = false then mTal (mTal (mTal (zup d 5 p (-1)) 4 1) 3 1) 0 (S 0 4) else mTal (zup d 5 p (-1)) 4 1)
  else if bt (d 8 5) p = true ∧ (d 0 4 = 2 ∨ d 0 4 = 1 ∧ bt (d 0 13) p = true) then mBck (mMrk (mTal (zup d 5 p (-1)) 2 1) 7 p) (d 5 p)
  else mTal (mTal (zup d 5 p (-1)) 1 1) 0 (rd 10 (d 1) (d 5 p))
theorem mTal_o {d : zS} {w a : Nat} {v : Int32} (h : a ≠ 8) : mTal d w v a = d a := zup_n h
theorem mMrk_o {d : zS} {w a p : Nat} (h : a ≠ 8) : mMrk d w p a = d a := zup_n h
theorem pt_o {d : zS} {n k a : Nat} {x v : Int32} (h : a ≠ k) : pt n d k x v a = d a := by
  unfold pt
  split
  · rfl
  · split
    · rfl
    · exact zup_n h
theorem mBck_o {d : zS} {a : Nat} {x : Int32} (h : a ≠ 3) : mBck d x a = d a := pt_o h
theorem flv {k0 q p : Nat} {σ d : zS} (h : dH k0 q) (hp : p < 8) : FX0_leave k0 (nI p) (dE k0 q σ d) = some (0, dE k0 q σ (mLv (ss q σ) p d)) := by
  unfold FX0_leave FX0_leave_b148 FX0_leave_b127 FX0_leave_b167 mLv
  simp only [zlet_eq, zbd_s, zgd_t, zinr_s, dE_ptr h, kd_q h, Nat.add_assoc, Nat.reduceAdd, dE_q0 h, dE_ss h, dE_17 h, dE_t h, dU_17 h, dU_t h, dr_1, da_1 h, dp_1 h, dr_2, da_2 h, dp_2 h, dr_3, da_3 h, dp_3 h, dr_4, da_4 h, dp_4 h, dr_5, da_5 h, dp_5 h, dr_6, da_6 h, dp_6 h, dr_7, da_7 h, dp_7 h, dr_8, da_8 h, dp_8 h, dr_9, da_9 h, dp_9 h, dr_10, da_10 h, dp_10 h, qr_2 h, qa_2 h, qr_3 h, qa_3 h, qr_4 h, qa_4 h, qr_5 h, qa_5 h, qr_6 h, qa_6 h, qr_8 h, qa_8 h, qr_9 h, qa_9 h, qr_10 h, qa_10 h, qr_11 h, qa_11 h, qr_12 h, qa_12 h, qr_13 h, qa_13 h, qr_15 h, qa_15 h, qr_16 h, qa_16 h, qr_1 h, qr_7 h, qa_17 h, qp_17 h, q14_0 h, q14_1 h, dg_1, dw_1, dg_2, dw_2, dg_3, dw_3, dg_4, dw_4, dg_5, dw_5, dg_12, dw_12, dg_13, dw_13, rl8_0, pl8_0, rl8_1, pl8_1, rl8_2, pl8_2, rl8_3, pl8_3, rl8_4, pl8_4, rl8_5, pl8_5, rl8_6, pl8_6, rl8_7, pl8_7, pl7_0, pl7_1, pl7_2, pl7_3, pl7_4, pl7_5, pl7_6, fholds _ (Nat.lt_trans hp (by decide : 8 < 32)), rd_n hp (by decide : 8 < 2 ^ 31), pt_n hp (by decide : 8 < 2 ^ 31), ftal_0 h, ftal_1 h, ftal_2 h, ftal_3 h, ftal_4 h, fmrk_7 h, fbck h, mTal_o (by decide : 0 ≠ 8), mTal_o (by decide : 1 ≠ 8), zup_n (by decide : 0 ≠ 5), zup_n (by decide : 1 ≠ 5), b01_eq0]
  cases h1 : bt (d 8 5) p <;> cases h2 : bt (d 0 13) p <;> by_cases h3 : ss q σ 8 p = 0 <;> by_cases h4 : d 0 4 = 2 <;> by_cases h5 : d 0 4 = 1 <;> simp [h3, h4, h5]
