section GC
variable {p : Program} {l : Launch} {e : Env} {s : State} {m : MethodId} {args : Array Value} {below : List Frame} {meth : Method} {c : Code} {H : Heap} {locs : List Loc} {cells slots : Nat} {Q : State → Prop} {ls : Array Slot} {V : zV} {cL : ClassId} {o : Nat} {a0 a1 : Nat → Nat} {sb L i : Nat} {xs : Nat → Int32} {σ τ : zS} {f : Nat → Int64}
set_option maxHeartbeats 4000000 in
theorem gc_stock (X : gFx p l s m c args sb L xs) (hi : i + 6 ≤ L) (hRR : RR σ τ) (hZ : gZ V (gtL V cL) (fun q => s.heap.size ≤ q) (gwL V a0 a1 cL o σ τ f) s H locs) (hl : lv_has ls 7 (gLs sb a0 a1 o i)) (hc : cells + 2 ≤ 601024 ∧ slots + 12 ≤ 7293034) (kk : gNx p l e s m args below meth c Q V cL o a0 a1 sb i (cells + 2) (slots + 12)) : W p l e room_1 s m args below meth c H locs cells slots Q (F0 m 810 ls []) := by
  obtain ⟨hfl, C0, hN, hX, hbl, hL⟩ := X
  have hx := C0.1
  have hb := C0.2.1
  have hbA : ¬ (fun q => s.heap.size ≤ q) sb := Nat.not_le.mpr hbl
  obtain ⟨k, r, σ1, b, τ1, e1, e2, hR1, hth, hk, hr⟩ := reN_stock hRR (xs (i + 1)) (xs (i + 2))
  refine lv_aload_n hx hb dL_law_810 rfl (lv_at hl 1 rfl) ?_
  refine gl_arg (j := 1) hx hb hX hbl hbA hZ.2.2.2.1 rfl (by omega) hL (lv_at hl 0 rfl) (lv_at hl 4 rfl) dL_law_811 dL_law_812 dL_law_814 dL_law_815 dL_law_816 ?_
  refine gl_arg (j := 2) hx hb hX hbl hbA hZ.2.2.2.1 rfl (by omega) hL (lv_at hl 0 rfl) (lv_at hl 4 rfl) dL_law_817 dL_law_818 dL_law_820 dL_law_821 dL_law_822 ?_
  refine lv_aload_n hx hb dL_law_823 rfl (lv_at hl 3 rfl) ?_
  refine gl_w (code := (nI k)) (As := [.ref (a0 0), .int (xs (i + 1)), .int (xs (i + 2)), .ref o]) (rest := []) C0 hN hZ (gW_stock l hfl e1 (gk1 hk)) wL_stock rfl rfl hl.1 (Nat.zero_le _) ⟨Nat.le_of_ble_eq_true rfl, Nat.le_of_ble_eq_true rfl⟩ dL_law_824 ⟨Nat.le_trans (by omega : cells + 1 ≤ cells + 2) hc.1, Nat.le_trans (by omega : slots + 6 ≤ slots + 12) hc.2⟩ (fun f1 H1 locs1 hf1 hZ1 => ?_)
  refine lv_istore (lv' := [(5, .int (nI k)), (0, .ref sb), (1, .ref (a0 0)), (2, .ref (a1 0)), (3, .ref o), (4, .int (nI i))]) hx hb dL_law_827 hl (by decide) rfl (fun ls hl => ?_)
  replace hZ := hZ1
  clear hZ1
  refine lv_aload_n hx hb dL_law_829 rfl (lv_at hl 3 rfl) ?_
  refine gl_arg (j := 1) hx hb hX hbl hbA hZ.2.2.2.1 rfl (by omega) hL (lv_at hl 1 rfl) (lv_at hl 5 rfl) dL_law_830 dL_law_831 dL_law_833 dL_law_834 dL_law_835 ?_
  refine gl_arg (j := 2) hx hb hX hbl hbA hZ.2.2.2.1 rfl (by omega) hL (lv_at hl 1 rfl) (lv_at hl 5 rfl) dL_law_836 dL_law_837 dL_law_839 dL_law_840 dL_law_841 ?_
  refine gl_ci (L := 1) (is := [0, 1]) (As := [.int (xs (i + 1)), .int (xs (i + 2))]) (rest := []) C0 hZ.re rfl rfl (kX8_stock l  rfl e2) mL8_stock vL8_stock rfl rfl hl.1 (Nat.zero_le _) ⟨Nat.le_of_ble_eq_true rfl, Nat.le_of_ble_eq_true rfl⟩ dL_law_842 ⟨Nat.le_trans (by omega : cells + 1 ≤ cells + 2) hc.1, Nat.le_trans (by omega : slots + 6 ≤ slots + 12) hc.2⟩ (fun H1 locs1 hZ1 => ?_)
  exact gl_tail C0 hZ1.er hl hth (fun h => by rw [← hr (gk0 (Nat.le_trans hk (by omega)) h)]; exact hf1 (gk0 (Nat.le_trans hk (by omega)) h)) ⟨Nat.le_of_ble_eq_true rfl, Nat.le_of_ble_eq_true rfl⟩ ⟨Nat.le_trans (by omega : cells + 1 ≤ cells + 2) hc.1, Nat.le_trans (by omega : slots + 6 ≤ slots + 12) hc.2⟩ dL_law_845 dL_law_847 dL_law_848 dL_law_851 dL_law_853 dL_law_858 dL_law_860 dL_law_863 dL_law_864 dL_law_865 dL_law_866 dL_law_868 dL_law_869 dL_law_870 dL_law_875 (by decide) (fun H2 locs2 ls2 hZ2 hl2 => W.widen (by omega) (by omega) (kk σ1 τ1 f1 H2 locs2 ls2 hR1 hZ2 hl2))
set_option maxHeartbeats 4000000 in
theorem gc_days (X : gFx p l s m c args sb L xs) (hi : i + 6 ≤ L) (hRR : RR σ τ) (hZ : gZ V (gtL V cL) (fun q => s.heap.size ≤ q) (gwL V a0 a1 cL o σ τ f) s H locs) (hl : lv_has ls 7 (gLs sb a0 a1 o i)) (hc : cells + 2 ≤ 601024 ∧ slots + 12 ≤ 7293034) (kk : gNx p l e s m args below meth c Q V cL o a0 a1 sb i (cells + 2) (slots + 12)) : W p l e room_1 s m args below meth c H locs cells slots Q (F0 m 878 ls []) := by
  obtain ⟨hfl, C0, hN, hX, hbl, hL⟩ := X
  have hx := C0.1
  have hb := C0.2.1
  have hbA : ¬ (fun q => s.heap.size ≤ q) sb := Nat.not_le.mpr hbl
  obtain ⟨r, σ1, τ1, e1, e2, hR1⟩ := rel_days hRR (xs (i + 1))
  refine lv_aload_n hx hb dL_law_878 rfl (lv_at hl 1 rfl) ?_
  refine gl_arg (j := 1) hx hb hX hbl hbA hZ.2.2.2.1 rfl (by omega) hL (lv_at hl 0 rfl) (lv_at hl 4 rfl) dL_law_879 dL_law_880 dL_law_882 dL_law_883 dL_law_884 ?_
  refine gl_ci (L := 0) (is := [0]) (As := [.int (xs (i + 1))]) (rest := []) C0 hZ rfl rfl (kX7_days l  rfl e1) mL7_days vL7_days rfl rfl hl.1 (Nat.zero_le _) ⟨Nat.le_of_ble_eq_true rfl, Nat.le_of_ble_eq_true rfl⟩ dL_law_885 ⟨Nat.le_trans (by omega : cells ≤ cells + 2) hc.1, Nat.le_trans (by omega : slots ≤ slots + 12) hc.2⟩ (fun H1 locs1 hZ1 => ?_)
  replace hZ := hZ1
  clear hZ1
  refine lv_aload_n hx hb dL_law_888 rfl (lv_at hl 2 rfl) ?_
  refine gl_arg (j := 1) hx hb hX hbl hbA hZ.2.2.2.1 rfl (by omega) hL (lv_at hl 0 rfl) (lv_at hl 4 rfl) dL_law_889 dL_law_890 dL_law_892 dL_law_893 dL_law_894 ?_
  refine gl_ci (L := 1) (is := [0, 1]) (As := [.int (xs (i + 1))]) (rest := [.int r]) C0 hZ.re rfl rfl (kX8_days l  rfl e2) mL8_days vL8_days rfl rfl hl.1 (Nat.le_of_ble_eq_true rfl) ⟨Nat.le_of_ble_eq_true rfl, Nat.le_of_ble_eq_true rfl⟩ dL_law_895 ⟨Nat.le_trans (by omega : cells ≤ cells + 2) hc.1, Nat.le_trans (by omega : slots ≤ slots + 12) hc.2⟩ (fun H1 locs1 hZ1 => ?_)
  exact lv_icmp_eq (tgt := 1956) hx hb dL_law_898 (by decide) (fun _ => W.widen (by omega) (by omega) (kk σ1 τ1 f H1 locs1 ls hR1 hZ1.er hl)) (fun h => absurd rfl h)
set_option maxHeartbeats 4000000 in
theorem gc_undo (X : gFx p l s m c args sb L xs) (hi : i + 6 ≤ L) (hRR : RR σ τ) (hZ : gZ V (gtL V cL) (fun q => s.heap.size ≤ q) (gwL V a0 a1 cL o σ τ f) s H locs) (hl : lv_has ls 7 (gLs sb a0 a1 o i)) (hc : cells + 2 ≤ 601024 ∧ slots + 12 ≤ 7293034) (kk : gNx p l e s m args below meth c Q V cL o a0 a1 sb i (cells + 2) (slots + 12)) : W p l e room_1 s m args below meth c H locs cells slots Q (F0 m 903 ls []) := by
  obtain ⟨hfl, C0, hN, hX, hbl, hL⟩ := X
  have hx := C0.1
  have hb := C0.2.1
  have hbA : ¬ (fun q => s.heap.size ≤ q) sb := Nat.not_le.mpr hbl
  obtain ⟨r, σ1, τ1, e1, e2, hR1⟩ := rel_undo hRR 
  refine lv_aload_n hx hb dL_law_903 rfl (lv_at hl 1 rfl) ?_
  refine gl_ci (L := 0) (is := [0]) (As := []) (rest := []) C0 hZ rfl rfl (kX7_undo l  rfl e1) mL7_undo vL7_undo rfl rfl hl.1 (Nat.zero_le _) ⟨Nat.le_of_ble_eq_true rfl, Nat.le_of_ble_eq_true rfl⟩ dL_law_904 ⟨Nat.le_trans (by omega : cells ≤ cells + 2) hc.1, Nat.le_trans (by omega : slots ≤ slots + 12) hc.2⟩ (fun H1 locs1 hZ1 => ?_)
  replace hZ := hZ1
  clear hZ1
  refine lv_aload_n hx hb dL_law_907 rfl (lv_at hl 2 rfl) ?_
  refine gl_ci (L := 1) (is := [0, 1]) (As := []) (rest := [.int r]) C0 hZ.re rfl rfl (kX8_undo l  rfl e2) mL8_undo vL8_undo rfl rfl hl.1 (Nat.le_of_ble_eq_true rfl) ⟨Nat.le_of_ble_eq_true rfl, Nat.le_of_ble_eq_true rfl⟩ dL_law_908 ⟨Nat.le_trans (by omega : cells ≤ cells + 2) hc.1, Nat.le_trans (by omega : slots ≤ slots + 12) hc.2⟩ (fun H1 locs1 hZ1 => ?_)
  exact lv_icmp_eq (tgt := 1956) hx hb dL_law_911 (by decide) (fun _ => W.widen (by omega) (by omega) (kk σ1 τ1 f H1 locs1 ls hR1 hZ1.er hl)) (fun h => absurd rfl h)
set_option maxHeartbeats 4000000 in
theorem gc_day (X : gFx p l s m c args sb L xs) (hi : i + 6 ≤ L) (hRR : RR σ τ) (hZ : gZ V (gtL V cL) (fun q => s.heap.size ≤ q) (gwL V a0 a1 cL o σ τ f) s H locs) (hl : lv_has ls 7 (gLs sb a0 a1 o i)) (hc : cells + 2 ≤ 601024 ∧ slots + 12 ≤ 7293034) (kk : gNx p l e s m args below meth c Q V cL o a0 a1 sb i (cells + 2) (slots + 12)) : W p l e room_1 s m args below meth c H locs cells slots Q (F0 m 916 ls []) := by
  obtain ⟨hfl, C0, hN, hX, hbl, hL⟩ := X
  have hx := C0.1
  have hb := C0.2.1
  have hbA : ¬ (fun q => s.heap.size ≤ q) sb := Nat.not_le.mpr hbl
  obtain ⟨k, r, σ1, b, τ1, e1, e2, hR1, hth, hk, hr⟩ := reN_day hRR (xs (i + 1))
  refine lv_aload_n hx hb dL_law_916 rfl (lv_at hl 1 rfl) ?_
  refine gl_arg (j := 1) hx hb hX hbl hbA hZ.2.2.2.1 rfl (by omega) hL (lv_at hl 0 rfl) (lv_at hl 4 rfl) dL_law_917 dL_law_918 dL_law_920 dL_law_921 dL_law_922 ?_
  refine lv_aload_n hx hb dL_law_923 rfl (lv_at hl 3 rfl) ?_
  refine gl_w (code := (nI k)) (As := [.ref (a0 0), .int (xs (i + 1)), .ref o]) (rest := []) C0 hN hZ (gW_day l hfl e1 (gk1 hk)) wL_day rfl rfl hl.1 (Nat.zero_le _) ⟨Nat.le_of_ble_eq_true rfl, Nat.le_of_ble_eq_true rfl⟩ dL_law_924 ⟨Nat.le_trans (by omega : cells + 1 ≤ cells + 2) hc.1, Nat.le_trans (by omega : slots + 6 ≤ slots + 12) hc.2⟩ (fun f1 H1 locs1 hf1 hZ1 => ?_)
  refine lv_istore (lv' := [(5, .int (nI k)), (0, .ref sb), (1, .ref (a0 0)), (2, .ref (a1 0)), (3, .ref o), (4, .int (nI i))]) hx hb dL_law_927 hl (by decide) rfl (fun ls hl => ?_)
  replace hZ := hZ1
  clear hZ1
  refine lv_aload_n hx hb dL_law_929 rfl (lv_at hl 3 rfl) ?_
  refine gl_arg (j := 1) hx hb hX hbl hbA hZ.2.2.2.1 rfl (by omega) hL (lv_at hl 1 rfl) (lv_at hl 5 rfl) dL_law_930 dL_law_931 dL_law_933 dL_law_934 dL_law_935 ?_
  refine gl_ci (L := 1) (is := [0, 1]) (As := [.int (xs (i + 1))]) (rest := []) C0 hZ.re rfl rfl (kX8_day l  rfl e2) mL8_day vL8_day rfl rfl hl.1 (Nat.zero_le _) ⟨Nat.le_of_ble_eq_true rfl, Nat.le_of_ble_eq_true rfl⟩ dL_law_936 ⟨Nat.le_trans (by omega : cells + 1 ≤ cells + 2) hc.1, Nat.le_trans (by omega : slots + 6 ≤ slots + 12) hc.2⟩ (fun H1 locs1 hZ1 => ?_)
  exact gl_tail C0 hZ1.er hl hth (fun h => by rw [← hr (gk0 (Nat.le_trans hk (by omega)) h)]; exact hf1 (gk0 (Nat.le_trans hk (by omega)) h)) ⟨Nat.le_of_ble_eq_true rfl, Nat.le_of_ble_eq_true rfl⟩ ⟨Nat.le_trans (by omega : cells + 1 ≤ cells + 2) hc.1, Nat.le_trans (by omega : slots + 6 ≤ slots + 12) hc.2⟩ dL_law_939 dL_law_941 dL_law_942 dL_law_945 dL_law_947 dL_law_952 dL_law_954 dL_law_957 dL_law_958 dL_law_959 dL_law_960 dL_law_962 dL_law_963 dL_law_964 dL_law_969 (by decide) (fun H2 locs2 ls2 hZ2 hl2 => W.widen (by omega) (by omega) (kk σ1 τ1 f1 H2 locs2 ls2 hR1 hZ2 hl2))
set_option maxHeartbeats 4000000 in
theorem gc_where (X : gFx p l s m c args sb L xs) (hi : i + 6 ≤ L) (hRR : RR σ τ) (hZ : gZ V (gtL V cL) (fun q => s.heap.size ≤ q) (gwL V a0 a1 cL o σ τ f) s H locs) (hl : lv_has ls 7 (gLs sb a0 a1 o i)) (hc : cells + 2 ≤ 601024 ∧ slots + 12 ≤ 7293034) (kk : gNx p l e s m args below meth c Q V cL o a0 a1 sb i (cells + 2) (slots + 12)) : W p l e room_1 s m args below meth c H locs cells slots Q (F0 m 972 ls []) := by
  obtain ⟨hfl, C0, hN, hX, hbl, hL⟩ := X
  have hx := C0.1
  have hb := C0.2.1
  have hbA : ¬ (fun q => s.heap.size ≤ q) sb := Nat.not_le.mpr hbl
  obtain ⟨k, r, σ1, b, τ1, e1, e2, hR1, hth, hk, hr⟩ := reN_where hRR (xs (i + 1)) (xs (i + 2))
  refine lv_aload_n hx hb dL_law_972 rfl (lv_at hl 1 rfl) ?_
  refine gl_arg (j := 1) hx hb hX hbl hbA hZ.2.2.2.1 rfl (by omega) hL (lv_at hl 0 rfl) (lv_at hl 4 rfl) dL_law_973 dL_law_974 dL_law_976 dL_law_977 dL_law_978 ?_
  refine gl_arg (j := 2) hx hb hX hbl hbA hZ.2.2.2.1 rfl (by omega) hL (lv_at hl 0 rfl) (lv_at hl 4 rfl) dL_law_979 dL_law_980 dL_law_982 dL_law_983 dL_law_984 ?_
  refine lv_aload_n hx hb dL_law_985 rfl (lv_at hl 3 rfl) ?_
  refine gl_w (code := (nI k)) (As := [.ref (a0 0), .int (xs (i + 1)), .int (xs (i + 2)), .ref o]) (rest := []) C0 hN hZ (gW_where l hfl e1 (gk1 hk)) wL_where rfl rfl hl.1 (Nat.zero_le _) ⟨Nat.le_of_ble_eq_true rfl, Nat.le_of_ble_eq_true rfl⟩ dL_law_986 ⟨Nat.le_trans (by omega : cells + 2 ≤ cells + 2) hc.1, Nat.le_trans (by omega : slots + 12 ≤ slots + 12) hc.2⟩ (fun f1 H1 locs1 hf1 hZ1 => ?_)
  refine lv_istore (lv' := [(5, .int (nI k)), (0, .ref sb), (1, .ref (a0 0)), (2, .ref (a1 0)), (3, .ref o), (4, .int (nI i))]) hx hb dL_law_989 hl (by decide) rfl (fun ls hl => ?_)
  replace hZ := hZ1
  clear hZ1
  refine lv_aload_n hx hb dL_law_991 rfl (lv_at hl 3 rfl) ?_
  refine gl_arg (j := 1) hx hb hX hbl hbA hZ.2.2.2.1 rfl (by omega) hL (lv_at hl 1 rfl) (lv_at hl 5 rfl) dL_law_992 dL_law_993 dL_law_995 dL_law_996 dL_law_997 ?_
  refine gl_arg (j := 2) hx hb hX hbl hbA hZ.2.2.2.1 rfl (by omega) hL (lv_at hl 1 rfl) (lv_at hl 5 rfl) dL_law_998 dL_law_999 dL_law_1001 dL_law_1002 dL_law_1003 ?_
  refine gl_ci (L := 1) (is := [0, 1]) (As := [.int (xs (i + 1)), .int (xs (i + 2))]) (rest := []) C0 hZ.re rfl rfl (kX8_where l  rfl e2) mL8_where vL8_where rfl rfl hl.1 (Nat.zero_le _) ⟨Nat.le_of_ble_eq_true rfl, Nat.le_of_ble_eq_true rfl⟩ dL_law_1004 ⟨Nat.le_trans (by omega : cells + 2 ≤ cells + 2) hc.1, Nat.le_trans (by omega : slots + 12 ≤ slots + 12) hc.2⟩ (fun H1 locs1 hZ1 => ?_)
  exact gl_tail C0 hZ1.er hl hth (fun h => by rw [← hr (gk0 (Nat.le_trans hk (by omega)) h)]; exact hf1 (gk0 (Nat.le_trans hk (by omega)) h)) ⟨Nat.le_of_ble_eq_true rfl, Nat.le_of_ble_eq_true rfl⟩ ⟨Nat.le_trans (by omega : cells + 2 ≤ cells + 2) hc.1, Nat.le_trans (by omega : slots + 12 ≤ slots + 12) hc.2⟩ dL_law_1007 dL_law_1009 dL_law_1010 dL_law_1013 dL_law_1015 dL_law_1020 dL_law_1022 dL_law_1025 dL_law_1026 dL_law_1027 dL_law_1028 dL_law_1030 dL_law_1031 dL_law_1032 dL_law_1037 (by decide) (fun H2 locs2 ls2 hZ2 hl2 => W.widen (by omega) (by omega) (kk σ1 τ1 f1 H2 locs2 ls2 hR1 hZ2 hl2))
set_option maxHeartbeats 4000000 in
theorem gc_eyes (X : gFx p l s m c args sb L xs) (hi : i + 6 ≤ L) (hRR : RR σ τ) (hZ : gZ V (gtL V cL) (fun q => s.heap.size ≤ q) (gwL V a0 a1 cL o σ τ f) s H locs) (hl : lv_has ls 7 (gLs sb a0 a1 o i)) (hc : cells + 2 ≤ 601024 ∧ slots + 12 ≤ 7293034) (kk : gNx p l e s m args below meth c Q V cL o a0 a1 sb i (cells + 2) (slots + 12)) : W p l e room_1 s m args below meth c H locs cells slots Q (F0 m 1040 ls []) := by
  obtain ⟨hfl, C0, hN, hX, hbl, hL⟩ := X
  have hx := C0.1
  have hb := C0.2.1
  have hbA : ¬ (fun q => s.heap.size ≤ q) sb := Nat.not_le.mpr hbl
  obtain ⟨k, r, σ1, b, τ1, e1, e2, hR1, hth, hk, hr⟩ := reN_eyes hRR (xs (i + 1))
  refine lv_aload_n hx hb dL_law_1040 rfl (lv_at hl 1 rfl) ?_
  refine gl_arg (j := 1) hx hb hX hbl hbA hZ.2.2.2.1 rfl (by omega) hL (lv_at hl 0 rfl) (lv_at hl 4 rfl) dL_law_1041 dL_law_1042 dL_law_1044 dL_law_1045 dL_law_1046 ?_
  refine lv_aload_n hx hb dL_law_1047 rfl (lv_at hl 3 rfl) ?_
  refine gl_w (code := (nI k)) (As := [.ref (a0 0), .int (xs (i + 1)), .ref o]) (rest := []) C0 hN hZ (gW_eyes l hfl e1 (gk1 hk)) wL_eyes rfl rfl hl.1 (Nat.zero_le _) ⟨Nat.le_of_ble_eq_true rfl, Nat.le_of_ble_eq_true rfl⟩ dL_law_1048 ⟨Nat.le_trans (by omega : cells + 1 ≤ cells + 2) hc.1, Nat.le_trans (by omega : slots + 6 ≤ slots + 12) hc.2⟩ (fun f1 H1 locs1 hf1 hZ1 => ?_)
  refine lv_istore (lv' := [(5, .int (nI k)), (0, .ref sb), (1, .ref (a0 0)), (2, .ref (a1 0)), (3, .ref o), (4, .int (nI i))]) hx hb dL_law_1051 hl (by decide) rfl (fun ls hl => ?_)
  replace hZ := hZ1
  clear hZ1
  refine lv_aload_n hx hb dL_law_1053 rfl (lv_at hl 3 rfl) ?_
  refine gl_arg (j := 1) hx hb hX hbl hbA hZ.2.2.2.1 rfl (by omega) hL (lv_at hl 1 rfl) (lv_at hl 5 rfl) dL_law_1054 dL_law_1055 dL_law_1057 dL_law_1058 dL_law_1059 ?_
  refine gl_ci (L := 1) (is := [0, 1]) (As := [.int (xs (i + 1))]) (rest := []) C0 hZ.re rfl rfl (kX8_eyes l  rfl e2) mL8_eyes vL8_eyes rfl rfl hl.1 (Nat.zero_le _) ⟨Nat.le_of_ble_eq_true rfl, Nat.le_of_ble_eq_true rfl⟩ dL_law_1060 ⟨Nat.le_trans (by omega : cells + 1 ≤ cells + 2) hc.1, Nat.le_trans (by omega : slots + 6 ≤ slots + 12) hc.2⟩ (fun H1 locs1 hZ1 => ?_)
  exact gl_tail C0 hZ1.er hl hth (fun h => by rw [← hr (gk0 (Nat.le_trans hk (by omega)) h)]; exact hf1 (gk0 (Nat.le_trans hk (by omega)) h)) ⟨Nat.le_of_ble_eq_true rfl, Nat.le_of_ble_eq_true rfl⟩ ⟨Nat.le_trans (by omega : cells + 1 ≤ cells + 2) hc.1, Nat.le_trans (by omega : slots + 6 ≤ slots + 12) hc.2⟩ dL_law_1063 dL_law_1065 dL_law_1066 dL_law_1069 dL_law_1071 dL_law_1076 dL_law_1078 dL_law_1081 dL_law_1082 dL_law_1083 dL_law_1084 dL_law_1086 dL_law_1087 dL_law_1088 dL_law_1093 (by decide) (fun H2 locs2 ls2 hZ2 hl2 => W.widen (by omega) (by omega) (kk σ1 τ1 f1 H2 locs2 ls2 hR1 hZ2 hl2))
set_option maxHeartbeats 4000000 in
theorem gc_has (X : gFx p l s m c args sb L xs) (hi : i + 6 ≤ L) (hRR : RR σ τ) (hZ : gZ V (gtL V cL) (fun q => s.heap.size ≤ q) (gwL V a0 a1 cL o σ τ f) s H locs) (hl : lv_has ls 7 (gLs sb a0 a1 o i)) (hc : cells + 2 ≤ 601024 ∧ slots + 12 ≤ 7293034) (kk : gNx p l e s m args below meth c Q V cL o a0 a1 sb i (cells + 2) (slots + 12)) : W p l e room_1 s m args below meth c H locs cells slots Q (F0 m 1096 ls []) := by
  obtain ⟨hfl, C0, hN, hX, hbl, hL⟩ := X
  have hx := C0.1
  have hb := C0.2.1
  have hbA : ¬ (fun q => s.heap.size ≤ q) sb := Nat.not_le.mpr hbl
  obtain ⟨k, r, σ1, b, τ1, e1, e2, hR1, hth, hk, hr⟩ := reN_has hRR (xs (i + 1)) (xs (i + 2))
  refine lv_aload_n hx hb dL_law_1096 rfl (lv_at hl 1 rfl) ?_
  refine gl_arg (j := 1) hx hb hX hbl hbA hZ.2.2.2.1 rfl (by omega) hL (lv_at hl 0 rfl) (lv_at hl 4 rfl) dL_law_1097 dL_law_1098 dL_law_1100 dL_law_1101 dL_law_1102 ?_
  refine gl_arg (j := 2) hx hb hX hbl hbA hZ.2.2.2.1 rfl (by omega) hL (lv_at hl 0 rfl) (lv_at hl 4 rfl) dL_law_1103 dL_law_1104 dL_law_1106 dL_law_1107 dL_law_1108 ?_
  refine lv_aload_n hx hb dL_law_1109 rfl (lv_at hl 3 rfl) ?_
  refine gl_w (code := (nI k)) (As := [.ref (a0 0), .int (xs (i + 1)), .int (xs (i + 2)), .ref o]) (rest := []) C0 hN hZ (gW_has l hfl e1 (gk1 hk)) wL_has rfl rfl hl.1 (Nat.zero_le _) ⟨Nat.le_of_ble_eq_true rfl, Nat.le_of_ble_eq_true rfl⟩ dL_law_1110 ⟨Nat.le_trans (by omega : cells + 2 ≤ cells + 2) hc.1, Nat.le_trans (by omega : slots + 12 ≤ slots + 12) hc.2⟩ (fun f1 H1 locs1 hf1 hZ1 => ?_)
  refine lv_istore (lv' := [(5, .int (nI k)), (0, .ref sb), (1, .ref (a0 0)), (2, .ref (a1 0)), (3, .ref o), (4, .int (nI i))]) hx hb dL_law_1113 hl (by decide) rfl (fun ls hl => ?_)
  replace hZ := hZ1
  clear hZ1
  refine lv_aload_n hx hb dL_law_1115 rfl (lv_at hl 3 rfl) ?_
  refine gl_arg (j := 1) hx hb hX hbl hbA hZ.2.2.2.1 rfl (by omega) hL (lv_at hl 1 rfl) (lv_at hl 5 rfl) dL_law_1116 dL_law_1117 dL_law_1119 dL_law_1120 dL_law_1121 ?_
  refine gl_arg (j := 2) hx hb hX hbl hbA hZ.2.2.2.1 rfl (by omega) hL (lv_at hl 1 rfl) (lv_at hl 5 rfl) dL_law_1122 dL_law_1123 dL_law_1125 dL_law_1126 dL_law_1127 ?_
  refine gl_ci (L := 1) (is := [0, 1]) (As := [.int (xs (i + 1)), .int (xs (i + 2))]) (rest := []) C0 hZ.re rfl rfl (kX8_has l  rfl e2) mL8_has vL8_has rfl rfl hl.1 (Nat.zero_le _) ⟨Nat.le_of_ble_eq_true rfl, Nat.le_of_ble_eq_true rfl⟩ dL_law_1128 ⟨Nat.le_trans (by omega : cells + 2 ≤ cells + 2) hc.1, Nat.le_trans (by omega : slots + 12 ≤ slots + 12) hc.2⟩ (fun H1 locs1 hZ1 => ?_)
  exact gl_tail C0 hZ1.er hl hth (fun h => by rw [← hr (gk0 (Nat.le_trans hk (by omega)) h)]; exact hf1 (gk0 (Nat.le_trans hk (by omega)) h)) ⟨Nat.le_of_ble_eq_true rfl, Nat.le_of_ble_eq_true rfl⟩ ⟨Nat.le_trans (by omega : cells + 2 ≤ cells + 2) hc.1, Nat.le_trans (by omega : slots + 12 ≤ slots + 12) hc.2⟩ dL_law_1131 dL_law_1133 dL_law_1134 dL_law_1137 dL_law_1139 dL_law_1144 dL_law_1146 dL_law_1149 dL_law_1150 dL_law_1151 dL_law_1152 dL_law_1154 dL_law_1155 dL_law_1156 dL_law_1161 (by decide) (fun H2 locs2 ls2 hZ2 hl2 => W.widen (by omega) (by omega) (kk σ1 τ1 f1 H2 locs2 ls2 hR1 hZ2 hl2))
set_option maxHeartbeats 4000000 in
theorem gc_best (X : gFx p l s m c args sb L xs) (hi : i + 6 ≤ L) (hRR : RR σ τ) (hZ : gZ V (gtL V cL) (fun q => s.heap.size ≤ q) (gwL V a0 a1 cL o σ τ f) s H locs) (hl : lv_has ls 7 (gLs sb a0 a1 o i)) (hc : cells + 2 ≤ 601024 ∧ slots + 12 ≤ 7293034) (kk : gNx p l e s m args below meth c Q V cL o a0 a1 sb i (cells + 2) (slots + 12)) : W p l e room_1 s m args below meth c H locs cells slots Q (F0 m 1164 ls []) := by
  obtain ⟨hfl, C0, hN, hX, hbl, hL⟩ := X
  have hx := C0.1
  have hb := C0.2.1
  have hbA : ¬ (fun q => s.heap.size ≤ q) sb := Nat.not_le.mpr hbl
  obtain ⟨k, r, σ1, b, τ1, e1, e2, hR1, hth, hk, hr⟩ := reN_best hRR (xs (i + 1)) (xs (i + 2))
  refine lv_aload_n hx hb dL_law_1164 rfl (lv_at hl 1 rfl) ?_
  refine gl_arg (j := 1) hx hb hX hbl hbA hZ.2.2.2.1 rfl (by omega) hL (lv_at hl 0 rfl) (lv_at hl 4 rfl) dL_law_1165 dL_law_1166 dL_law_1168 dL_law_1169 dL_law_1170 ?_
  refine gl_arg (j := 2) hx hb hX hbl hbA hZ.2.2.2.1 rfl (by omega) hL (lv_at hl 0 rfl) (lv_at hl 4 rfl) dL_law_1171 dL_law_1172 dL_law_1174 dL_law_1175 dL_law_1176 ?_
  refine lv_aload_n hx hb dL_law_1177 rfl (lv_at hl 3 rfl) ?_
  refine gl_w (code := (nI k)) (As := [.ref (a0 0), .int (xs (i + 1)), .int (xs (i + 2)), .ref o]) (rest := []) C0 hN hZ (gW_best l hfl e1 (gk1 hk)) wL_best rfl rfl hl.1 (Nat.zero_le _) ⟨Nat.le_of_ble_eq_true rfl, Nat.le_of_ble_eq_true rfl⟩ dL_law_1178 ⟨Nat.le_trans (by omega : cells + 1 ≤ cells + 2) hc.1, Nat.le_trans (by omega : slots + 6 ≤ slots + 12) hc.2⟩ (fun f1 H1 locs1 hf1 hZ1 => ?_)
  refine lv_istore (lv' := [(5, .int (nI k)), (0, .ref sb), (1, .ref (a0 0)), (2, .ref (a1 0)), (3, .ref o), (4, .int (nI i))]) hx hb dL_law_1181 hl (by decide) rfl (fun ls hl => ?_)
  replace hZ := hZ1
  clear hZ1
  refine lv_aload_n hx hb dL_law_1183 rfl (lv_at hl 3 rfl) ?_
  refine gl_arg (j := 1) hx hb hX hbl hbA hZ.2.2.2.1 rfl (by omega) hL (lv_at hl 1 rfl) (lv_at hl 5 rfl) dL_law_1184 dL_law_1185 dL_law_1187 dL_law_1188 dL_law_1189 ?_
  refine gl_arg (j := 2) hx hb hX hbl hbA hZ.2.2.2.1 rfl (by omega) hL (lv_at hl 1 rfl) (lv_at hl 5 rfl) dL_law_1190 dL_law_1191 dL_law_1193 dL_law_1194 dL_law_1195 ?_
  refine gl_ci (L := 1) (is := [0, 1]) (As := [.int (xs (i + 1)), .int (xs (i + 2))]) (rest := []) C0 hZ.re rfl rfl (kX8_best l  rfl e2) mL8_best vL8_best rfl rfl hl.1 (Nat.zero_le _) ⟨Nat.le_of_ble_eq_true rfl, Nat.le_of_ble_eq_true rfl⟩ dL_law_1196 ⟨Nat.le_trans (by omega : cells + 1 ≤ cells + 2) hc.1, Nat.le_trans (by omega : slots + 6 ≤ slots + 12) hc.2⟩ (fun H1 locs1 hZ1 => ?_)
  exact gl_tail C0 hZ1.er hl hth (fun h => by rw [← hr (gk0 (Nat.le_trans hk (by omega)) h)]; exact hf1 (gk0 (Nat.le_trans hk (by omega)) h)) ⟨Nat.le_of_ble_eq_true rfl, Nat.le_of_ble_eq_true rfl⟩ ⟨Nat.le_trans (by omega : cells + 1 ≤ cells + 2) hc.1, Nat.le_trans (by omega : slots + 6 ≤ slots + 12) hc.2⟩ dL_law_1199 dL_law_1201 dL_law_1202 dL_law_1205 dL_law_1207 dL_law_1212 dL_law_1214 dL_law_1217 dL_law_1218 dL_law_1219 dL_law_1220 dL_law_1222 dL_law_1223 dL_law_1224 dL_law_1229 (by decide) (fun H2 locs2 ls2 hZ2 hl2 => W.widen (by omega) (by omega) (kk σ1 τ1 f1 H2 locs2 ls2 hR1 hZ2 hl2))
set_option maxHeartbeats 4000000 in
theorem gc_cost (X : gFx p l s m c args sb L xs) (hi : i + 6 ≤ L) (hRR : RR σ τ) (hZ : gZ V (gtL V cL) (fun q => s.heap.size ≤ q) (gwL V a0 a1 cL o σ τ f) s H locs) (hl : lv_has ls 7 (gLs sb a0 a1 o i)) (hc : cells + 2 ≤ 601024 ∧ slots + 12 ≤ 7293034) (kk : gNx p l e s m args below meth c Q V cL o a0 a1 sb i (cells + 2) (slots + 12)) : W p l e room_1 s m args below meth c H locs cells slots Q (F0 m 1232 ls []) := by
  obtain ⟨hfl, C0, hN, hX, hbl, hL⟩ := X
  have hx := C0.1
  have hb := C0.2.1
  have hbA : ¬ (fun q => s.heap.size ≤ q) sb := Nat.not_le.mpr hbl
  obtain ⟨r, σ1, τ1, e1, e2, hR1⟩ := rel_cost hRR (if xs (i + 1) = 0 then 0 else 1)
  refine lv_aload_n hx hb dL_law_1232 rfl (lv_at hl 1 rfl) ?_
  refine gl_arg (j := 1) hx hb hX hbl hbA hZ.2.2.2.1 rfl (by omega) hL (lv_at hl 0 rfl) (lv_at hl 4 rfl) dL_law_1233 dL_law_1234 dL_law_1236 dL_law_1237 dL_law_1238 ?_
  refine gl_bool hx hb dL_law_1239 dL_law_1242 dL_law_1243 dL_law_1246 ?_
  refine gl_ci (L := 0) (is := [0]) (As := [.int (if xs (i + 1) = 0 then 0 else 1)]) (rest := []) C0 hZ rfl rfl (kX7_cost l  rfl e1) mL7_cost vL7_cost rfl rfl hl.1 (Nat.zero_le _) ⟨Nat.le_of_ble_eq_true rfl, Nat.le_of_ble_eq_true rfl⟩ dL_law_1247 ⟨Nat.le_trans (by omega : cells ≤ cells + 2) hc.1, Nat.le_trans (by omega : slots ≤ slots + 12) hc.2⟩ (fun H1 locs1 hZ1 => ?_)
  replace hZ := hZ1
  clear hZ1
  refine lv_aload_n hx hb dL_law_1250 rfl (lv_at hl 2 rfl) ?_
  refine gl_arg (j := 1) hx hb hX hbl hbA hZ.2.2.2.1 rfl (by omega) hL (lv_at hl 0 rfl) (lv_at hl 4 rfl) dL_law_1251 dL_law_1252 dL_law_1254 dL_law_1255 dL_law_1256 ?_
  refine gl_bool hx hb dL_law_1257 dL_law_1260 dL_law_1261 dL_law_1264 ?_
  refine gl_ci (L := 1) (is := [0, 1]) (As := [.int (if xs (i + 1) = 0 then 0 else 1)]) (rest := [.int r]) C0 hZ.re rfl rfl (kX8_cost l  rfl e2) mL8_cost vL8_cost rfl rfl hl.1 (Nat.le_of_ble_eq_true rfl) ⟨Nat.le_of_ble_eq_true rfl, Nat.le_of_ble_eq_true rfl⟩ dL_law_1265 ⟨Nat.le_trans (by omega : cells ≤ cells + 2) hc.1, Nat.le_trans (by omega : slots ≤ slots + 12) hc.2⟩ (fun H1 locs1 hZ1 => ?_)
  exact lv_icmp_eq (tgt := 1956) hx hb dL_law_1268 (by decide) (fun _ => W.widen (by omega) (by omega) (kk σ1 τ1 f H1 locs1 ls hR1 hZ1.er hl)) (fun h => absurd rfl h)
set_option maxHeartbeats 4000000 in
theorem gc_glass (X : gFx p l s m c args sb L xs) (hi : i + 6 ≤ L) (hRR : RR σ τ) (hZ : gZ V (gtL V cL) (fun q => s.heap.size ≤ q) (gwL V a0 a1 cL o σ τ f) s H locs) (hl : lv_has ls 7 (gLs sb a0 a1 o i)) (hc : cells + 2 ≤ 601024 ∧ slots + 12 ≤ 7293034) (kk : gNx p l e s m args below meth c Q V cL o a0 a1 sb i (cells + 2) (slots + 12)) : W p l e room_1 s m args below meth c H locs cells slots Q (F0 m 1273 ls []) := by
  obtain ⟨hfl, C0, hN, hX, hbl, hL⟩ := X
  have hx := C0.1
  have hb := C0.2.1
  have hbA : ¬ (fun q => s.heap.size ≤ q) sb := Nat.not_le.mpr hbl
  obtain ⟨k, r, σ1, b, τ1, e1, e2, hR1, hth, hk, hr⟩ := reN_glass hRR (xs (i + 1))
  refine lv_aload_n hx hb dL_law_1273 rfl (lv_at hl 1 rfl) ?_
  refine gl_arg (j := 1) hx hb hX hbl hbA hZ.2.2.2.1 rfl (by omega) hL (lv_at hl 0 rfl) (lv_at hl 4 rfl) dL_law_1274 dL_law_1275 dL_law_1277 dL_law_1278 dL_law_1279 ?_
  refine lv_aload_n hx hb dL_law_1280 rfl (lv_at hl 3 rfl) ?_
  refine gl_w (code := (nI k)) (As := [.ref (a0 0), .int (xs (i + 1)), .ref o]) (rest := []) C0 hN hZ (gW_glass l hfl e1 (gk1 hk)) wL_glass rfl rfl hl.1 (Nat.zero_le _) ⟨Nat.le_of_ble_eq_true rfl, Nat.le_of_ble_eq_true rfl⟩ dL_law_1281 ⟨Nat.le_trans (by omega : cells + 1 ≤ cells + 2) hc.1, Nat.le_trans (by omega : slots + 6 ≤ slots + 12) hc.2⟩ (fun f1 H1 locs1 hf1 hZ1 => ?_)
  refine lv_istore (lv' := [(5, .int (nI k)), (0, .ref sb), (1, .ref (a0 0)), (2, .ref (a1 0)), (3, .ref o), (4, .int (nI i))]) hx hb dL_law_1284 hl (by decide) rfl (fun ls hl => ?_)
  replace hZ := hZ1
  clear hZ1
  refine lv_aload_n hx hb dL_law_1286 rfl (lv_at hl 3 rfl) ?_
  refine gl_arg (j := 1) hx hb hX hbl hbA hZ.2.2.2.1 rfl (by omega) hL (lv_at hl 1 rfl) (lv_at hl 5 rfl) dL_law_1287 dL_law_1288 dL_law_1290 dL_law_1291 dL_law_1292 ?_
  refine gl_ci (L := 1) (is := [0, 1]) (As := [.int (xs (i + 1))]) (rest := []) C0 hZ.re rfl rfl (kX8_glass l  rfl e2) mL8_glass vL8_glass rfl rfl hl.1 (Nat.zero_le _) ⟨Nat.le_of_ble_eq_true rfl, Nat.le_of_ble_eq_true rfl⟩ dL_law_1293 ⟨Nat.le_trans (by omega : cells + 1 ≤ cells + 2) hc.1, Nat.le_trans (by omega : slots + 6 ≤ slots + 12) hc.2⟩ (fun H1 locs1 hZ1 => ?_)
  exact gl_tail C0 hZ1.er hl hth (fun h => by rw [← hr (gk0 (Nat.le_trans hk (by omega)) h)]; exact hf1 (gk0 (Nat.le_trans hk (by omega)) h)) ⟨Nat.le_of_ble_eq_true rfl, Nat.le_of_ble_eq_true rfl⟩ ⟨Nat.le_trans (by omega : cells + 1 ≤ cells + 2) hc.1, Nat.le_trans (by omega : slots + 6 ≤ slots + 12) hc.2⟩ dL_law_1296 dL_law_1298 dL_law_1299 dL_law_1302 dL_law_1304 dL_law_1309 dL_law_1311 dL_law_1314 dL_law_1315 dL_law_1316 dL_law_1317 dL_law_1319 dL_law_1320 dL_law_1321 dL_law_1326 (by decide) (fun H2 locs2 ls2 hZ2 hl2 => W.widen (by omega) (by omega) (kk σ1 τ1 f1 H2 locs2 ls2 hR1 hZ2 hl2))
set_option maxHeartbeats 4000000 in
theorem gc_lay (X : gFx p l s m c args sb L xs) (hi : i + 6 ≤ L) (hRR : RR σ τ) (hZ : gZ V (gtL V cL) (fun q => s.heap.size ≤ q) (gwL V a0 a1 cL o σ τ f) s H locs) (hl : lv_has ls 7 (gLs sb a0 a1 o i)) (hc : cells + 2 ≤ 601024 ∧ slots + 12 ≤ 7293034) (kk : gNx p l e s m args below meth c Q V cL o a0 a1 sb i (cells + 2) (slots + 12)) : W p l e room_1 s m args below meth c H locs cells slots Q (F0 m 1329 ls []) := by
  obtain ⟨hfl, C0, hN, hX, hbl, hL⟩ := X
  have hx := C0.1
  have hb := C0.2.1
  have hbA : ¬ (fun q => s.heap.size ≤ q) sb := Nat.not_le.mpr hbl
  obtain ⟨r, σ1, τ1, e1, e2, hR1⟩ := rel_lay hRR 
  refine lv_aload_n hx hb dL_law_1329 rfl (lv_at hl 1 rfl) ?_
  refine gl_ci (L := 0) (is := [0]) (As := []) (rest := []) C0 hZ rfl rfl (kX7_lay l  rfl e1) mL7_lay vL7_lay rfl rfl hl.1 (Nat.zero_le _) ⟨Nat.le_of_ble_eq_true rfl, Nat.le_of_ble_eq_true rfl⟩ dL_law_1330 ⟨Nat.le_trans (by omega : cells ≤ cells + 2) hc.1, Nat.le_trans (by omega : slots ≤ slots + 12) hc.2⟩ (fun H1 locs1 hZ1 => ?_)
  replace hZ := hZ1
  clear hZ1
  refine lv_aload_n hx hb dL_law_1333 rfl (lv_at hl 2 rfl) ?_
  refine gl_ci (L := 1) (is := [0, 1]) (As := []) (rest := [.int r]) C0 hZ.re rfl rfl (kX8_lay l  rfl e2) mL8_lay vL8_lay rfl rfl hl.1 (Nat.le_of_ble_eq_true rfl) ⟨Nat.le_of_ble_eq_true rfl, Nat.le_of_ble_eq_true rfl⟩ dL_law_1334 ⟨Nat.le_trans (by omega : cells ≤ cells + 2) hc.1, Nat.le_trans (by omega : slots ≤ slots + 12) hc.2⟩ (fun H1 locs1 hZ1 => ?_)
  exact lv_icmp_eq (tgt := 1956) hx hb dL_law_1337 (by decide) (fun _ => W.widen (by omega) (by omega) (kk σ1 τ1 f H1 locs1 ls hR1 hZ1.er hl)) (fun h => absurd rfl h)
set_option maxHeartbeats 4000000 in
theorem gc_laid (X : gFx p l s m c args sb L xs) (hi : i + 6 ≤ L) (hRR : RR σ τ) (hZ : gZ V (gtL V cL) (fun q => s.heap.size ≤ q) (gwL V a0 a1 cL o σ τ f) s H locs) (hl : lv_has ls 7 (gLs sb a0 a1 o i)) (hc : cells + 2 ≤ 601024 ∧ slots + 12 ≤ 7293034) (kk : gNx p l e s m args below meth c Q V cL o a0 a1 sb i (cells + 2) (slots + 12)) : W p l e room_1 s m args below meth c H locs cells slots Q (F0 m 1342 ls []) := by
  obtain ⟨hfl, C0, hN, hX, hbl, hL⟩ := X
  have hx := C0.1
  have hb := C0.2.1
  have hbA : ¬ (fun q => s.heap.size ≤ q) sb := Nat.not_le.mpr hbl
  obtain ⟨k, r, σ1, b, τ1, e1, e2, hR1, hth, hk, hr⟩ := reN_laid hRR (xs (i + 1))
  refine lv_aload_n hx hb dL_law_1342 rfl (lv_at hl 1 rfl) ?_
  refine gl_arg (j := 1) hx hb hX hbl hbA hZ.2.2.2.1 rfl (by omega) hL (lv_at hl 0 rfl) (lv_at hl 4 rfl) dL_law_1343 dL_law_1344 dL_law_1346 dL_law_1347 dL_law_1348 ?_
  refine lv_aload_n hx hb dL_law_1349 rfl (lv_at hl 3 rfl) ?_
  refine gl_w (code := (nI k)) (As := [.ref (a0 0), .int (xs (i + 1)), .ref o]) (rest := []) C0 hN hZ (gW_laid l hfl e1 (gk1 hk)) wL_laid rfl rfl hl.1 (Nat.zero_le _) ⟨Nat.le_of_ble_eq_true rfl, Nat.le_of_ble_eq_true rfl⟩ dL_law_1350 ⟨Nat.le_trans (by omega : cells + 2 ≤ cells + 2) hc.1, Nat.le_trans (by omega : slots + 12 ≤ slots + 12) hc.2⟩ (fun f1 H1 locs1 hf1 hZ1 => ?_)
  refine lv_istore (lv' := [(5, .int (nI k)), (0, .ref sb), (1, .ref (a0 0)), (2, .ref (a1 0)), (3, .ref o), (4, .int (nI i))]) hx hb dL_law_1353 hl (by decide) rfl (fun ls hl => ?_)
  replace hZ := hZ1
  clear hZ1
  refine lv_aload_n hx hb dL_law_1355 rfl (lv_at hl 3 rfl) ?_
  refine gl_arg (j := 1) hx hb hX hbl hbA hZ.2.2.2.1 rfl (by omega) hL (lv_at hl 1 rfl) (lv_at hl 5 rfl) dL_law_1356 dL_law_1357 dL_law_1359 dL_law_1360 dL_law_1361 ?_
  refine gl_ci (L := 1) (is := [0, 1]) (As := [.int (xs (i + 1))]) (rest := []) C0 hZ.re rfl rfl (kX8_laid l  rfl e2) mL8_laid vL8_laid rfl rfl hl.1 (Nat.zero_le _) ⟨Nat.le_of_ble_eq_true rfl, Nat.le_of_ble_eq_true rfl⟩ dL_law_1362 ⟨Nat.le_trans (by omega : cells + 2 ≤ cells + 2) hc.1, Nat.le_trans (by omega : slots + 12 ≤ slots + 12) hc.2⟩ (fun H1 locs1 hZ1 => ?_)
  exact gl_tail C0 hZ1.er hl hth (fun h => by rw [← hr (gk0 (Nat.le_trans hk (by omega)) h)]; exact hf1 (gk0 (Nat.le_trans hk (by omega)) h)) ⟨Nat.le_of_ble_eq_true rfl, Nat.le_of_ble_eq_true rfl⟩ ⟨Nat.le_trans (by omega : cells + 2 ≤ cells + 2) hc.1, Nat.le_trans (by omega : slots + 12 ≤ slots + 12) hc.2⟩ dL_law_1365 dL_law_1367 dL_law_1368 dL_law_1371 dL_law_1373 dL_law_1378 dL_law_1380 dL_law_1383 dL_law_1384 dL_law_1385 dL_law_1386 dL_law_1388 dL_law_1389 dL_law_1390 dL_law_1395 (by decide) (fun H2 locs2 ls2 hZ2 hl2 => W.widen (by omega) (by omega) (kk σ1 τ1 f1 H2 locs2 ls2 hR1 hZ2 hl2))
end GC
