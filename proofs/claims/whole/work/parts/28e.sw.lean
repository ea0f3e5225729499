section GC
variable {p : Program} {l : Launch} {e : Env} {s : State} {m : MethodId} {args : Array Value} {below : List Frame} {meth : Method} {c : Code} {H : Heap} {locs : List Loc} {cells slots : Nat} {Q : State → Prop} {ls : Array Slot} {V : zV} {cL : ClassId} {o : Nat} {a0 a1 : Nat → Nat} {sb L i : Nat} {xs : Nat → Int32} {σ τ : zS} {f : Nat → Int64}
set_option maxHeartbeats 4000000 in
/-- one turn of the law: from the switch to the end of the case -/
theorem gc_sw (X : gFx p l s m c args sb L xs) (hi : i + 6 ≤ L) (hRR : RR σ τ) (hZ : gZ V (gtL V cL) (fun q => s.heap.size ≤ q) (gwL V a0 a1 cL o σ τ f) s H locs) (hl : lv_has ls 7 (gLs sb a0 a1 o i)) (hc : cells + 2 ≤ 601024 ∧ slots + 12 ≤ 7293034) (kk : gNx p l e s m args below meth c Q V cL o a0 a1 sb i (cells + 2) (slots + 12)) (y : Int32) : W p l e room_1 s m args below meth c H locs cells slots Q (F0 m 40 ls [.int y]) := by
  have hx := X.2.1.1
  have hb := X.2.1.2.1
  by_cases e_0 : y = 0
  · rw [e_0]
    exact lv_tableIn (off := 160) (tgt := 200) hx hb dL_law_40 (by decide) (by decide) rfl (by decide) (gc_feed X hi hRR hZ hl hc kk)
  by_cases e_1 : y = 1
  · rw [e_1]
    exact lv_tableIn (off := 233) (tgt := 273) hx hb dL_law_40 (by decide) (by decide) rfl (by decide) (gc_shop X hi hRR hZ hl hc kk)
  by_cases e_2 : y = 2
  · rw [e_2]
    exact lv_tableIn (off := 289) (tgt := 329) hx hb dL_law_40 (by decide) (by decide) rfl (by decide) (gc_fault X hi hRR hZ hl hc kk)
  by_cases e_3 : y = 3
  · rw [e_3]
    exact lv_tableIn (off := 302) (tgt := 342) hx hb dL_law_40 (by decide) (by decide) rfl (by decide) (gc_count X hi hRR hZ hl hc kk)
  by_cases e_4 : y = 4
  · rw [e_4]
    exact lv_tableIn (off := 358) (tgt := 398) hx hb dL_law_40 (by decide) (by decide) rfl (by decide) (gc_aisle X hi hRR hZ hl hc kk)
  by_cases e_5 : y = 5
  · rw [e_5]
    exact lv_tableIn (off := 426) (tgt := 466) hx hb dL_law_40 (by decide) (by decide) rfl (by decide) (gc_person X hi hRR hZ hl hc kk)
  by_cases e_6 : y = 6
  · rw [e_6]
    exact lv_tableIn (off := 494) (tgt := 534) hx hb dL_law_40 (by decide) (by decide) rfl (by decide) (gc_route X hi hRR hZ hl hc kk)
  by_cases e_7 : y = 7
  · rw [e_7]
    exact lv_tableIn (off := 562) (tgt := 602) hx hb dL_law_40 (by decide) (by decide) rfl (by decide) (gc_far X hi hRR hZ hl hc kk)
  by_cases e_8 : y = 8
  · rw [e_8]
    exact lv_tableIn (off := 630) (tgt := 670) hx hb dL_law_40 (by decide) (by decide) rfl (by decide) (gc_watch X hi hRR hZ hl hc kk)
  by_cases e_9 : y = 9
  · rw [e_9]
    exact lv_tableIn (off := 667) (tgt := 707) hx hb dL_law_40 (by decide) (by decide) rfl (by decide) (gc_open X hi hRR hZ hl hc kk)
  by_cases e_10 : y = 10
  · rw [e_10]
    exact lv_tableIn (off := 708) (tgt := 748) hx hb dL_law_40 (by decide) (by decide) rfl (by decide) (gc_stops X hi hRR hZ hl hc kk)
  by_cases e_11 : y = 11
  · rw [e_11]
    exact lv_tableIn (off := 733) (tgt := 773) hx hb dL_law_40 (by decide) (by decide) rfl (by decide) (gc_mirror X hi hRR hZ hl hc kk)
  by_cases e_12 : y = 12
  · rw [e_12]
    exact lv_tableIn (off := 770) (tgt := 810) hx hb dL_law_40 (by decide) (by decide) rfl (by decide) (gc_stock X hi hRR hZ hl hc kk)
  by_cases e_13 : y = 13
  · rw [e_13]
    exact lv_tableIn (off := 838) (tgt := 878) hx hb dL_law_40 (by decide) (by decide) rfl (by decide) (gc_days X hi hRR hZ hl hc kk)
  by_cases e_14 : y = 14
  · rw [e_14]
    exact lv_tableIn (off := 863) (tgt := 903) hx hb dL_law_40 (by decide) (by decide) rfl (by decide) (gc_undo X hi hRR hZ hl hc kk)
  by_cases e_15 : y = 15
  · rw [e_15]
    exact lv_tableIn (off := 876) (tgt := 916) hx hb dL_law_40 (by decide) (by decide) rfl (by decide) (gc_day X hi hRR hZ hl hc kk)
  by_cases e_16 : y = 16
  · rw [e_16]
    exact lv_tableIn (off := 932) (tgt := 972) hx hb dL_law_40 (by decide) (by decide) rfl (by decide) (gc_where X hi hRR hZ hl hc kk)
  by_cases e_17 : y = 17
  · rw [e_17]
    exact lv_tableIn (off := 1000) (tgt := 1040) hx hb dL_law_40 (by decide) (by decide) rfl (by decide) (gc_eyes X hi hRR hZ hl hc kk)
  by_cases e_18 : y = 18
  · rw [e_18]
    exact lv_tableIn (off := 1056) (tgt := 1096) hx hb dL_law_40 (by decide) (by decide) rfl (by decide) (gc_has X hi hRR hZ hl hc kk)
  by_cases e_19 : y = 19
  · rw [e_19]
    exact lv_tableIn (off := 1124) (tgt := 1164) hx hb dL_law_40 (by decide) (by decide) rfl (by decide) (gc_best X hi hRR hZ hl hc kk)
  by_cases e_20 : y = 20
  · rw [e_20]
    exact lv_tableIn (off := 1192) (tgt := 1232) hx hb dL_law_40 (by decide) (by decide) rfl (by decide) (gc_cost X hi hRR hZ hl hc kk)
  by_cases e_21 : y = 21
  · rw [e_21]
    exact lv_tableIn (off := 1233) (tgt := 1273) hx hb dL_law_40 (by decide) (by decide) rfl (by decide) (gc_glass X hi hRR hZ hl hc kk)
  by_cases e_22 : y = 22
  · rw [e_22]
    exact lv_tableIn (off := 1289) (tgt := 1329) hx hb dL_law_40 (by decide) (by decide) rfl (by decide) (gc_lay X hi hRR hZ hl hc kk)
  by_cases e_23 : y = 23
  · rw [e_23]
    exact lv_tableIn (off := 1302) (tgt := 1342) hx hb dL_law_40 (by decide) (by decide) rfl (by decide) (gc_laid X hi hRR hZ hl hc kk)
  by_cases e_24 : y = 24
  · rw [e_24]
    exact lv_tableIn (off := 1358) (tgt := 1398) hx hb dL_law_40 (by decide) (by decide) rfl (by decide) (gc_without X hi hRR hZ hl hc kk)
  by_cases e_25 : y = 25
  · rw [e_25]
    exact lv_tableIn (off := 1414) (tgt := 1454) hx hb dL_law_40 (by decide) (by decide) rfl (by decide) (gc_sign X hi hRR hZ hl hc kk)
  by_cases e_26 : y = 26
  · rw [e_26]
    exact lv_tableIn (off := 1467) (tgt := 1507) hx hb dL_law_40 (by decide) (by decide) rfl (by decide) (gc_odds X hi hRR hZ hl hc kk)
  by_cases e_27 : y = 27
  · rw [e_27]
    exact lv_tableIn (off := 1535) (tgt := 1575) hx hb dL_law_40 (by decide) (by decide) rfl (by decide) (gc_line X hi hRR hZ hl hc kk)
  by_cases e_28 : y = 28
  · rw [e_28]
    exact lv_tableIn (off := 1548) (tgt := 1588) hx hb dL_law_40 (by decide) (by decide) rfl (by decide) (gc_gate X hi hRR hZ hl hc kk)
  by_cases e_29 : y = 29
  · rw [e_29]
    exact lv_tableIn (off := 1652) (tgt := 1692) hx hb dL_law_40 (by decide) (by decide) rfl (by decide) (gc_miss X hi hRR hZ hl hc kk)
  by_cases e_30 : y = 30
  · rw [e_30]
    exact lv_tableIn (off := 1689) (tgt := 1729) hx hb dL_law_40 (by decide) (by decide) rfl (by decide) (gc_forget X hi hRR hZ hl hc kk)
  by_cases e_31 : y = 31
  · rw [e_31]
    exact lv_tableIn (off := 1700) (tgt := 1740) hx hb dL_law_40 (by decide) (by decide) rfl (by decide) (gc_who X hi hRR hZ hl hc kk)
  by_cases e_32 : y = 32
  · rw [e_32]
    exact lv_tableIn (off := 1756) (tgt := 1796) hx hb dL_law_40 (by decide) (by decide) rfl (by decide) (gc_game X hi hRR hZ hl hc kk)
  by_cases e_33 : y = 33
  · rw [e_33]
    exact lv_tableIn (off := 1812) (tgt := 1852) hx hb dL_law_40 (by decide) (by decide) rfl (by decide) (gc_weeks X hi hRR hZ hl hc kk)
  by_cases e_34 : y = 34
  · rw [e_34]
    exact lv_tableIn (off := 1892) (tgt := 1932) hx hb dL_law_40 (by decide) (by decide) rfl (by decide) (gc_image X hi hRR hZ hl hc kk)
  by_cases e_35 : y = 35
  · rw [e_35]
    exact lv_tableIn (off := 1903) (tgt := 1943) hx hb dL_law_40 (by decide) (by decide) rfl (by decide) (gc_restore X hi hRR hZ hl hc kk)
  exact lv_tableOut (tgt := 1956) hx hb dL_law_40 (z_tout [0, 1, 2, 3, 4, 5, 6, 7, 8, 9, 10, 11, 12, 13, 14, 15, 16, 17, 18, 19, 20, 21, 22, 23, 24, 25, 26, 27, 28, 29, 30, 31, 32, 33, 34, 35] (by decide) (by decide) (List.forall_mem_cons.mpr ⟨e_0, List.forall_mem_cons.mpr ⟨e_1, List.forall_mem_cons.mpr ⟨e_2, List.forall_mem_cons.mpr ⟨e_3, List.forall_mem_cons.mpr ⟨e_4, List.forall_mem_cons.mpr ⟨e_5, List.forall_mem_cons.mpr ⟨e_6, List.forall_mem_cons.mpr ⟨e_7, List.forall_mem_cons.mpr ⟨e_8, List.forall_mem_cons.mpr ⟨e_9, List.forall_mem_cons.mpr ⟨e_10, List.forall_mem_cons.mpr ⟨e_11, List.forall_mem_cons.mpr ⟨e_12, List.forall_mem_cons.mpr ⟨e_13, List.forall_mem_cons.mpr ⟨e_14, List.forall_mem_cons.mpr ⟨e_15, List.forall_mem_cons.mpr ⟨e_16, List.forall_mem_cons.mpr ⟨e_17, List.forall_mem_cons.mpr ⟨e_18, List.forall_mem_cons.mpr ⟨e_19, List.forall_mem_cons.mpr ⟨e_20, List.forall_mem_cons.mpr ⟨e_21, List.forall_mem_cons.mpr ⟨e_22, List.forall_mem_cons.mpr ⟨e_23, List.forall_mem_cons.mpr ⟨e_24, List.forall_mem_cons.mpr ⟨e_25, List.forall_mem_cons.mpr ⟨e_26, List.forall_mem_cons.mpr ⟨e_27, List.forall_mem_cons.mpr ⟨e_28, List.forall_mem_cons.mpr ⟨e_29, List.forall_mem_cons.mpr ⟨e_30, List.forall_mem_cons.mpr ⟨e_31, List.forall_mem_cons.mpr ⟨e_32, List.forall_mem_cons.mpr ⟨e_33, List.forall_mem_cons.mpr ⟨e_34, List.forall_mem_cons.mpr ⟨e_35, fun _ h => absurd h List.not_mem_nil⟩⟩⟩⟩⟩⟩⟩⟩⟩⟩⟩⟩⟩⟩⟩⟩⟩⟩⟩⟩⟩⟩⟩⟩⟩⟩⟩⟩⟩⟩⟩⟩⟩⟩⟩⟩)) (by decide) (W.widen (by omega) (by omega) (kk σ τ f H locs ls hRR hZ hl))
end GC
