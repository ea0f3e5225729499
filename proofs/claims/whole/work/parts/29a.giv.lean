/-! what the Statement gives of the start: the texts, the statics, the classes -/
def tmI : List (String × Nat) := [("ShopEyes$Reader", 95), ("ShopEyes$Reader", 104), ("ShopEyes$Reader", 109), ("ShopEyes$Reader", 114), ("ShopEyes$Reader", 119), ("ShopEyes$Reader", 127), ("ShopEyes$Reader", 132), ("ShopEyes$Reader", 142), ("ShopEyes$Reader", 144), ("ShopEyes$Reader", 146), ("ShopEyes$Reader", 148), ("ShopEyes$Reader", 245), ("ShopEyes$Reader", 253), ("ShopEyes$Reader", 255), ("ShopEyes$Reader", 275), ("ShopEyes$Reader", 276), ("ShopEyes$Reader", 278), ("ShopEyes$Reader", 280), ("ShopEyes$Reader", 282), ("ShopEyes$Reader", 284), ("ShopEyes$Reader", 286)]
def tmT (i : Nat) : Term := Term.string (tmI.getD i ("", 0)).1 (tmI.getD i ("", 0)).2
def gvF : List Cond := flatC (Cond.and given_1 narrow_1)
def tpE : List Nat := [67, 76, 83, 93, 180, 190, 199, 31, 40, 49, 58, 174, 167, 101, 108, 116, 124, 132, 139, 148, 157]
def zPs : List Nat := [964, 1017, 1018, 1019, 1047, 1057, 1067, 1077, 1098, 1123, 1124, 1125, 1126, 1127, 1128, 1129, 1138, 1139, 1144, 1149, 1150, 1393, 1394, 1395, 1396, 1397, 1398, 1399, 1400, 1401, 1402, 1403, 1693, 1700, 1701, 1730, 1735, 1740, 1741, 1762, 1783, 1784]
def zQs : List Nat := [0, 0, 0, 0, 0, 0, 0, 0, 0, 0, 0, 0, 0, 0, 0, 0, 0, 0, 0, 0, 0, 217, 227, 237, 247, 256, 265, 274, 282, 292, 302, 313, 324, 334, 344, 354, 362, 373, 382, 390, 398, 405]
theorem tp_ex : ∀ i, i < 21 → gvF[tpE.getD i 0]? = some (Cond.exactly (tmT i) "java/lang/String") := by decide +kernel
theorem tp_co : ∀ i, i < 21 → gvF[tpE.getD i 0 + 1]? = some (Cond.eq (.field (tmT i) "java/lang/String" "coder" "B") (.int 0)) := by decide +kernel
theorem tp_ar : ∀ i, i < 21 → gvF[tpE.getD i 0 + 2]? = some (Cond.arrayOf (.field (tmT i) "java/lang/String" "value" "[B") .byte) := by decide +kernel
theorem tp_le : ∀ i, i < 21 → gvF[tpE.getD i 0 + 3]? = some (Cond.eq (.length (.field (tmT i) "java/lang/String" "value" "[B")) (.int (Int32.ofNat (zLen.getD i 0)))) := by decide +kernel
theorem tp_el : ∀ i, i < 21 → ∀ j, j < zLen.getD i 0 → gvF[tpE.getD i 0 + 4 + j]? = some (Cond.eq (.elem (.field (tmT i) "java/lang/String" "value" "[B") (.int (Int32.ofNat j))) (.int ((zByt.getD i []).getD j 0))) := by decide +kernel
theorem tp_di : ∀ i, i < 21 → ∀ j, j < 21 → i ≠ j → Int32.ofNat (zLen.getD i 0) ≠ Int32.ofNat (zLen.getD j 0) ∨ ∃ k, k < zLen.getD i 0 ∧ k < zLen.getD j 0 ∧ (zByt.getD i []).getD k 0 ≠ (zByt.getD j []).getD k 0 := by decide +kernel
theorem tp_sr : ∀ i, i < 42 → lw_tbl[zPs.getD i 0]? = some (Cond.stringRef (zStr.getD i ("", 0, "", 0)).1 (zStr.getD i ("", 0, "", 0)).2.1 (zStr.getD i ("", 0, "", 0)).2.2.1) := by decide +kernel
theorem tp_eq : ∀ i, i < 42 → (zStr.getD i ("", 0, "", 0)).2.2.2 < 21 ∧ (tmT (zStr.getD i ("", 0, "", 0)).2.2.2 = Term.string (zStr.getD i ("", 0, "", 0)).1 (zStr.getD i ("", 0, "", 0)).2.1 ∨ gvF[zQs.getD i 0]? = some (Cond.eq (tmT (zStr.getD i ("", 0, "", 0)).2.2.2) (Term.string (zStr.getD i ("", 0, "", 0)).1 (zStr.getD i ("", 0, "", 0)).2.1))) := by decide +kernel
section ST
variable {args : Array Value} {s : State} {A : Nat → Prop}
theorem len_congr {t u : Term} (h : t.eval args s none [] s = u.eval args s none [] s) : (Term.length t).eval args s none [] s = (Term.length u).eval args s none [] s := by simp only [Term.eval, h]
theorem elem_congr {t u i : Term} (h : t.eval args s none [] s = u.eval args s none [] s) : (Term.elem t i).eval args s none [] s = (Term.elem u i).eval args s none [] s := by simp only [Term.eval, h]
theorem eq_refs {t u : Term} {a : Nat} (h : (Cond.eq t u).before args s = true) (ht : t.eval args s none [] s = some (.ref a)) : u.eval args s none [] s = some (.ref a) := by
  cases hv : u.eval args s none [] s with
  | none => simp [Cond.before, Cond.holds, Cond.value, hv, ht] at h
  | some w =>
    simp only [Cond.before, Cond.holds, Cond.value, hv, ht] at h
    cases w <;> simp_all
theorem st_at (h : (Cond.and given_1 narrow_1).before args s = true) {k : Nat} {w : Cond} (hk : gvF[k]? = some w) : w.before args s = true := flat_of_before _ h _ (List.mem_of_getElem? hk)
theorem st_S (h : (Cond.and given_1 narrow_1).before args s = true) (hA : ∀ a : Nat, a < s.heap.size → ¬ A a) : ∃ adK adV : Nat → Nat, vk_S zN zLen zByt adK adV A s s.heap ∧ ∀ i : Nat, i < zN → (tmT i).eval args s none [] s = some (.ref (adK i)) := by
  refine vk_Sof (tm := tmT) (fun i hi => (by decide +kernel : ∀ i, i < 21 → zLen.getD i 0 < 2 ^ 31) i hi) (fun i hi => st_at h (tp_ex i hi)) (fun i hi => st_at h (tp_co i hi)) (fun i hi => st_at h (tp_ar i hi)) (fun i hi => st_at h (tp_le i hi)) (fun i hi j hj => st_at h (tp_el i hi j hj)) (fun i j hi hj hij => ?_) hA
  left
  obtain ⟨a, c1, cA1, kA1, q1, -⟩ := Cond.exactly_spec (args := args) (first := s) (o := none) (s := s) (idx := []) (st_at h (tp_ex i hi))
  obtain ⟨b, c2, cA2, kA2, q2, -⟩ := Cond.exactly_spec (args := args) (first := s) (o := none) (s := s) (idx := []) (st_at h (tp_ex j hj))
  have hab : a ≠ b := by
    intro e
    subst e
    have hf : (Term.field (tmT i) "java/lang/String" "value" "[B").eval args s none [] s = (Term.field (tmT j) "java/lang/String" "value" "[B").eval args s none [] s := by rw [va_fe q1, va_fe q2]
    rcases tp_di i hi j hj hij with hd | ⟨k, hk1, hk2, hd⟩
    · have l1 := va_eqt (st_at h (tp_le i hi))
      have l2 := va_eqt (st_at h (tp_le j hj))
      rw [len_congr hf] at l1
      exact hd (Value.int.inj (Option.some.inj (l1.symm.trans l2)))
    · have l1 := va_eqt (st_at h (tp_el i hi k hk1))
      have l2 := va_eqt (st_at h (tp_el j hj k hk2))
      rw [elem_congr hf] at l1
      exact hd (Value.int.inj (Option.some.inj (l1.symm.trans l2)))
  simp [Cond.before, Cond.holds, Cond.value, q1, q2, hab]
theorem st_R (h : (Cond.and given_1 narrow_1).before args s = true) (hts : ∀ w ∈ lw_tbl, w.before args s = true) {adK : Nat → Nat} (hev : ∀ i : Nat, i < zN → (tmT i).eval args s none [] s = some (.ref (adK i))) (hvm : ∀ (o : String) (k : Nat), (Term.string o k).eval args s none [] s = (Term.string o k).eval #[] s none [] s) : ∀ r ∈ zStr, vk_R r.1 r.2.1 r.2.2.1 (adK r.2.2.2) s := by
  intro r hr
  obtain ⟨i, hi⟩ := List.getElem?_of_mem hr
  have hl : i < 42 := (List.getElem?_eq_some_iff.mp hi).1
  have he : zStr.getD i ("", 0, "", 0) = r := by rw [List.getD_eq_getElem?_getD, hi]; rfl
  have h1 := tp_sr i hl
  have h2 := tp_eq i hl
  rw [he] at h1 h2
  refine ⟨hts _ (List.mem_of_getElem? h1), ?_⟩
  rw [← hvm]
  rcases h2 with ⟨hn, h2 | h2⟩
  · rw [← h2]; exact hev _ hn
  · exact eq_refs (st_at h h2) (hev _ hn)
theorem st_Nc (h : (Cond.and given_1 narrow_1).before args s = true) : gNc s := va_Nc.of (st_at h (k := 30) (by decide +kernel))
theorem st_E (h : (Cond.and given_1 narrow_1).before args s = true) (hts : ∀ w ∈ lw_tbl, w.before args s = true) {V : zV} (hS : vk_S zN zLen zByt V.2.2.2.1 V.2.2.2.2 A s s.heap) (hR : ∀ r ∈ zStr, vk_R r.1 r.2.1 r.2.2.1 (V.2.2.2.1 r.2.2.2) s) (hA : ∀ a : Nat, a < s.heap.size → ¬ A a) : zEv V A s s.heap :=
  ⟨hS, hR,
   vx_Zqof (hts _ (List.mem_of_getElem? (i := 890) (by decide +kernel))) (hts _ (List.mem_of_getElem? (i := 158) (by decide +kernel))) (st_at h (k := 4) (by decide +kernel)) hA,
   vx_Zqof (hts _ (List.mem_of_getElem? (i := 892) (by decide +kernel))) (hts _ (List.mem_of_getElem? (i := 158) (by decide +kernel))) (st_at h (k := 5) (by decide +kernel)) hA,
   va_Zof (hts _ (List.mem_of_getElem? (i := 978) (by decide +kernel))) (hts _ (List.mem_of_getElem? (i := 162) (by decide +kernel))) (va_eqt (st_at h (k := 6) (by decide +kernel))) hA,
   va_Zqof (hts _ (List.mem_of_getElem? (i := 994) (by decide +kernel))) (hts _ (List.mem_of_getElem? (i := 164) (by decide +kernel))) (st_at h (k := 7) (by decide +kernel)) hA⟩
theorem st_K (hts : ∀ w ∈ lw_tbl, w.before args s = true) : ∃ D : va_G, ∀ (c : Nat) (q : vw_C), vwCl[c]? = some q → u_Kn s q.1 q.2.1 q.2.2 (D.1 c) (D.2 c) := by
  have htz : ∀ w ∈ zT, w.before args s = true := fun w hw => hts w (List.mem_filter.mp hw).1
  have key : ∀ (k : Nat) (q : vw_C), vwCl[k]? = some q → ∃ x : ClassId × (Nat → Nat), u_Kn s q.1 q.2.1 q.2.2 x.1 x.2 := by
    intro k q hq
    match k, hq with
    | 0, hq =>
      cases hq
      obtain ⟨a, b, h⟩ := u_known (n := 18) htz zin0 (hts (.instantiable RX0 18) (List.mem_of_getElem? (i := 463) (by decide +kernel)))
      exact ⟨(a, b), h⟩
    | 1, hq =>
      cases hq
      obtain ⟨a, b, h⟩ := u_known (n := 8) htz zin1 (hts (.instantiable RX1 8) (List.mem_of_getElem? (i := 185) (by decide +kernel)))
      exact ⟨(a, b), h⟩
    | 2, hq =>
      cases hq
      obtain ⟨a, b, h⟩ := u_known (n := 7) htz zin2 (hts (.instantiable RX2 7) (List.mem_of_getElem? (i := 230) (by decide +kernel)))
      exact ⟨(a, b), h⟩
    | 3, hq =>
      cases hq
      obtain ⟨a, b, h⟩ := u_known (n := 10) htz zin3 (hts (.instantiable RX3 10) (List.mem_of_getElem? (i := 342) (by decide +kernel)))
      exact ⟨(a, b), h⟩
    | 4, hq =>
      cases hq
      obtain ⟨a, b, h⟩ := u_known (n := 6) htz zin4 (hts (.instantiable RX4 6) (List.mem_of_getElem? (i := 276) (by decide +kernel)))
      exact ⟨(a, b), h⟩
    | 5, hq =>
      cases hq
      obtain ⟨a, b, h⟩ := u_known (n := 6) htz zin5 (hts (.instantiable RX5 6) (List.mem_of_getElem? (i := 179) (by decide +kernel)))
      exact ⟨(a, b), h⟩
    | 6, hq =>
      cases hq
      obtain ⟨a, b, h⟩ := u_known (n := 17) htz zin6 (hts (.instantiable RX6 17) (List.mem_of_getElem? (i := 383) (by decide +kernel)))
      exact ⟨(a, b), h⟩
    | 7, hq =>
      cases hq
      obtain ⟨a, b, h⟩ := u_known (n := 14) htz zin7 (hts (.instantiable RX7 14) (List.mem_of_getElem? (i := 171) (by decide +kernel)))
      exact ⟨(a, b), h⟩
    | 8, hq =>
      cases hq
      obtain ⟨a, b, h⟩ := u_known (n := 83) htz zin8 (hts (.instantiable RX8 83) (List.mem_of_getElem? (i := 1386) (by decide +kernel)))
      exact ⟨(a, b), h⟩
    | k + 9, hq => simp [vwCl] at hq
  have h0 : ∀ k : Nat, ∃ x : ClassId × (Nat → Nat), ∀ q : vw_C, vwCl[k]? = some q → u_Kn s q.1 q.2.1 q.2.2 x.1 x.2 := by
    intro k
    cases h : vwCl[k]? with
    | none => exact ⟨(0, fun _ => 0), fun q hq => by cases hq⟩
    | some q =>
      obtain ⟨x, hx⟩ := key k q h
      exact ⟨x, fun q' hq' => by cases hq'; exact hx⟩
  obtain ⟨g, hg⟩ := Classical.axiomOfChoice h0
  exact ⟨(fun k => (g k).1, fun k => (g k).2), fun c q hq => hg c q hq⟩
theorem st_int (hts : ∀ w ∈ lw_tbl, w.before args s = true) : ∃ c : ClassId, ArrOfT s c .int ∧ va_RA s c .int := by
  obtain ⟨c, k, comp, h1, h2, h3⟩ := Cond.arrayClass_spec (hts (.arrayClass .int) (List.mem_of_getElem? (i := 228) (by decide +kernel)))
  exact ⟨c, fun n z => ⟨fun k h => (by cases h), k, h2, comp, h3⟩, h1⟩
theorem st_str (hts : ∀ w ∈ lw_tbl, w.before args s = true) : ∃ c : ClassId, ArrOfT s c (.object "java/lang/String") ∧ va_RA s c (.object "java/lang/String") := by
  obtain ⟨comp, c, k, h1, h2, h3, h4, h5⟩ := Cond.arrayOver_spec (hts (.arrayOver (.object "java/lang/String")) (List.mem_of_getElem? (i := 1392) (by decide +kernel)))
  exact ⟨c, fun n z => ⟨fun k h => (by cases h), k, h3, comp, h4⟩, k, comp, h3, h4, h1, h5⟩
end ST
