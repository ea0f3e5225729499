/-! the JDK's own methods that a text's length() and charAt(k) come to: proved over their code, for the texts that the programs name -/
theorem zlen_ok : ∀ i, i < zN → zLen.getD i 0 < 2 ^ 31 ∧ (zByt.getD i []).length = zLen.getD i 0 ∧ ∀ b ∈ zByt.getD i [], (((b &&& 255).toUInt32 % 65536).toInt32 = b ∧ narrow .char (.int b) = .int b) := by decide +kernel
def FJ_coder (i : Nat) (σ : zS) : Option (Int32 × zS) := if i < zN then some (0, σ) else none
def FJ_latin (i : Nat) (σ : zS) : Option (Int32 × zS) := if i < zN then some (1, σ) else none
def FJ0_length_8abf5 (i : Nat) (σ : zS) : Option (Int32 × zS) := if i < zN then some (nI (zLen.getD i 0), σ) else none
def FJ0_charAt_5068e (i : Nat) (k : Int32) (σ : zS) : Option (Int32 × zS) := if i < zN then zin (zLen.getD i 0) k (some ((zByt.getD i []).getD k.toNatClampNeg 0, σ)) else none
def FJ_check (k n : Int32) (σ : zS) : Option (Int32 × zS) := if k < 0 then none else if k < n then some (k, σ) else none
theorem z_some {β : Type} {P : Prop} [Decidable P] {x t : β} (h : (if P then some x else none) = some t) : P ∧ x = t := by
  by_cases hP : P
  · rw [if_pos hP] at h; exact ⟨hP, Option.some.inj h⟩
  · rw [if_neg hP] at h; cases h
set_option maxHeartbeats 4000000 in
set_option maxRecDepth 100000 in
theorem kJ_coder (l : Launch) {L : Nat} {V : zV} {σ : zS} {t0 : Int32 × zS} {i : Nat} (h1 : FJ_coder i σ = some t0) : zMi l yJ0_coder_7d493 cJ0_coder_7d493 1 (some .byte) 0 0 L V σ t0 [.ref (V.2.2.2.1 i)] := by
  refine zMi_of (by decide) (Nat.le_of_ble_eq_true rfl) ?_
  intro p e s m below meth c A C0 hr hlk hZ ls hl
  generalize ([.ref (V.2.2.2.1 i)] : List Value).toArray = args at C0 ⊢
  have hl : lv_has ls 1 [(0, .ref (V.2.2.2.1 i))] := hl
  obtain ⟨hi, h1⟩ := z_some h1
  subst h1
  have hE := hZ.2.2.2.2.2
  refine va_gets C0.1 C0.2.1 hE.2.2.2.2.1 hZ.2.2.2.1 C0.2.2.2.1 (C0.2.2.2.2 _ (zmem 977 (by decide +kernel) (by decide +kernel))) (fun _ h => h) dJ0_coder_7d493_0 ?_
  refine lv_if_eq (tgt := 13) C0.1 C0.2.1 dJ0_coder_7d493_3 (by decide) (fun h => absurd h (by decide)) (fun _ => ?_)
  refine lv_aload_n C0.1 C0.2.1 dJ0_coder_7d493_6 rfl (lv_at hl 0 rfl) ?_
  refine vk_getf C0.1 C0.2.1 (hE.1.1 i hi).2.1 hZ.2.2.2.1 C0.2.2.2.1 (C0.2.2.2.2 _ (zmem 2100 (by decide +kernel) (by decide +kernel))) (fun _ h => h) dJ0_coder_7d493_7 ?_
  refine lv_goto (tgt := 14) C0.1 C0.2.1 dJ0_coder_7d493_10 (by decide) ?_
  exact z_tret C0 hr rfl hlk hZ rfl dJ0_coder_7d493_14
set_option maxHeartbeats 4000000 in
set_option maxRecDepth 100000 in
theorem kJ_latin (l : Launch) {L : Nat} {V : zV} {σ : zS} {t0 : Int32 × zS} {i : Nat} (h1 : FJ_latin i σ = some t0) : zMi l yJ0_isLatin1_aae02 cJ0_isLatin1_aae02 1 (some .boolean) 0 0 L V σ t0 [.ref (V.2.2.2.1 i)] := by
  refine zMi_of (by decide) (Nat.le_of_ble_eq_true rfl) ?_
  intro p e s m below meth c A C0 hr hlk hZ ls hl
  generalize ([.ref (V.2.2.2.1 i)] : List Value).toArray = args at C0 ⊢
  have hl : lv_has ls 1 [(0, .ref (V.2.2.2.1 i))] := hl
  obtain ⟨hi, h1⟩ := z_some h1
  subst h1
  have hE := hZ.2.2.2.2.2
  refine va_gets C0.1 C0.2.1 hE.2.2.2.2.1 hZ.2.2.2.1 C0.2.2.2.1 (C0.2.2.2.2 _ (zmem 977 (by decide +kernel) (by decide +kernel))) (fun _ h => h) dJ0_isLatin1_aae02_0 ?_
  refine lv_if_eq (tgt := 17) C0.1 C0.2.1 dJ0_isLatin1_aae02_3 (by decide) (fun h => absurd h (by decide)) (fun _ => ?_)
  refine lv_aload_n C0.1 C0.2.1 dJ0_isLatin1_aae02_6 rfl (lv_at hl 0 rfl) ?_
  refine vk_getf C0.1 C0.2.1 (hE.1.1 i hi).2.1 hZ.2.2.2.1 C0.2.2.2.1 (C0.2.2.2.2 _ (zmem 2100 (by decide +kernel) (by decide +kernel))) (fun _ h => h) dJ0_isLatin1_aae02_7 ?_
  refine lv_if_ne (tgt := 17) C0.1 C0.2.1 dJ0_isLatin1_aae02_10 (by decide) (fun h => absurd rfl h) (fun _ => ?_)
  refine lv_iconst (v := 1) C0.1 C0.2.1 dJ0_isLatin1_aae02_13 (by decide) ?_
  refine lv_goto (tgt := 18) C0.1 C0.2.1 dJ0_isLatin1_aae02_14 (by decide) ?_
  exact z_tret C0 hr rfl hlk hZ rfl dJ0_isLatin1_aae02_18
theorem zcod_m : zwM RJ0 335 yJ0_coder_7d493 cJ0_coder_7d493 1 (some .byte) 0 := ⟨Or.inl (zmem 973 (by decide +kernel) (by decide +kernel)), (zmem 162 (by decide +kernel) (by decide +kernel)), (zmem 976 (by decide +kernel) (by decide +kernel)), by decide +kernel⟩
theorem zcod_r : zwR yJ0_coder_7d493 := ⟨(zmem 974 (by decide +kernel) (by decide +kernel)), (zmem 975 (by decide +kernel) (by decide +kernel))⟩
theorem zlat_m : zwM RJ0 492 yJ0_isLatin1_aae02 cJ0_isLatin1_aae02 1 (some .boolean) 0 := ⟨Or.inl (zmem 983 (by decide +kernel) (by decide +kernel)), (zmem 162 (by decide +kernel) (by decide +kernel)), (zmem 986 (by decide +kernel) (by decide +kernel)), by decide +kernel⟩
theorem zlat_r : zwR yJ0_isLatin1_aae02 := ⟨(zmem 984 (by decide +kernel) (by decide +kernel)), (zmem 985 (by decide +kernel) (by decide +kernel))⟩
theorem zl1_m : zwM RJ0 495 yJ1_charAt_3b067 cJ1_charAt_3b067 2 (some .char) 2 := ⟨Or.inl (zmem 987 (by decide +kernel) (by decide +kernel)), (zmem 163 (by decide +kernel) (by decide +kernel)), (zmem 989 (by decide +kernel) (by decide +kernel)), by decide +kernel⟩
theorem zci_m : zwM RJ1 9 yJ0_checkIndex_df160 cJ0_checkIndex_df160 2 none 2 := ⟨Or.inl (zmem 990 (by decide +kernel) (by decide +kernel)), (zmem 162 (by decide +kernel) (by decide +kernel)), (zmem 992 (by decide +kernel) (by decide +kernel)), by decide +kernel⟩
theorem zpc_m : zwM RJ0 1059 yJ3_checkIndex_8e157 cJ3_checkIndex_8e157 3 (some .int) 3 := ⟨Or.inl (zmem 995 (by decide +kernel) (by decide +kernel)), (zmem 164 (by decide +kernel) (by decide +kernel)), (zmem 997 (by decide +kernel) (by decide +kernel)), by decide +kernel⟩
set_option maxHeartbeats 4000000 in
set_option maxRecDepth 100000 in
theorem kJ0_length_8abf5 (l : Launch) {L : Nat} {V : zV} {σ : zS} {t0 : Int32 × zS} {i : Nat} (h1 : FJ0_length_8abf5 i σ = some t0) : zMi l yJ0_length_8abf5 cJ0_length_8abf5 1 (some .int) 1 20 L V σ t0 [.ref (V.2.2.2.1 i)] := by
  refine zMi_of (by decide) (Nat.le_of_ble_eq_true rfl) ?_
  intro p e s m below meth c A C0 hr hlk hZ ls hl
  generalize ([.ref (V.2.2.2.1 i)] : List Value).toArray = args at C0 ⊢
  have hl : lv_has ls 1 [(0, .ref (V.2.2.2.1 i))] := hl
  obtain ⟨hi, h1⟩ := z_some h1
  subst h1
  have hE := hZ.2.2.2.2.2
  refine lv_aload_n C0.1 C0.2.1 dJ0_length_8abf5_0 rfl (lv_at hl 0 rfl) ?_
  refine vk_getf C0.1 C0.2.1 (hE.1.1 i hi).2.2.1 hZ.2.2.2.1 C0.2.2.2.1 (C0.2.2.2.2 _ (zmem 2099 (by decide +kernel) (by decide +kernel))) (fun _ h => h) dJ0_length_8abf5_1 ?_
  refine va_tlen (v := nI (zLen.getD i 0)) C0.1 C0.2.1 (hE.1.1 i hi).2.2.2 hZ.2.2.2.1 rfl dJ0_length_8abf5_4 ?_
  refine lv_aload_n C0.1 C0.2.1 dJ0_length_8abf5_5 rfl (lv_at hl 0 rfl) ?_
  refine z_cTi (t := (0, σ)) (As := []) (rest := [.int (nI (zLen.getD i 0))]) (Fc := FJ_coder i σ) (g := fun r σ1 => some (r, σ1)) C0 hZ (by unfold FJ_coder; rw [if_pos hi]; rfl) (fun _ hf => kJ_coder l hf) zcod_m zcod_r hi rfl rfl rfl hl.1 (Nat.le_of_ble_eq_true rfl) ⟨Nat.le_of_ble_eq_true rfl, Nat.le_of_ble_eq_true rfl⟩ dJ0_length_8abf5_6 ⟨Nat.zero_le _, Nat.zero_le _⟩ (fun r σ1 H locs h1 hZ => ?_)
  cases h1
  refine lv_ishr C0.1 C0.2.1 dJ0_length_8abf5_9 ?_
  rw [sb_shr0]
  exact z_iret C0 hr hlk hZ rfl dJ0_length_8abf5_10
set_option maxHeartbeats 4000000 in
set_option maxRecDepth 100000 in
theorem kJ3_check (l : Launch) {L : Nat} {V : zV} {σ : zS} {t0 : Int32 × zS} {k n : Int32} {v : Value} (hv : v = .null ∨ ∃ q, v = .ref q) (h1 : FJ_check k n σ = some t0) : zMi l yJ3_checkIndex_8e157 cJ3_checkIndex_8e157 3 (some .int) 0 0 L V σ t0 [.int k, .int n, v] := by
  refine zMi_of (by decide) (by rcases hv with rfl | ⟨q, rfl⟩ <;> exact Nat.le_of_ble_eq_true rfl) ?_
  intro p e s m below meth c A C0 hr hlk hZ ls hl
  generalize ([.int k, .int n, v] : List Value).toArray = args at C0 ⊢
  have hl : lv_has ls 3 [(0, .int k), (1, .int n), (2, v)] := hl
  unfold FJ_check at h1
  refine lv_iload_n C0.1 C0.2.1 dJ3_checkIndex_8e157_0 rfl (lv_at hl 0 rfl) ?_
  refine z_if_lt (tgt := 9) C0 h1 dJ3_checkIndex_8e157_1 (by decide) (fun h1 => ?_) (fun h1 => ?_)
  · cases h1
  refine lv_iload_n C0.1 C0.2.1 dJ3_checkIndex_8e157_4 rfl (lv_at hl 0 rfl) ?_
  refine lv_iload_n C0.1 C0.2.1 dJ3_checkIndex_8e157_5 rfl (lv_at hl 1 rfl) ?_
  refine z_ic_lt (tgt := 16) C0 h1 dJ3_checkIndex_8e157_6 (by decide) (fun h1 => ?_) (fun h1 => ?_)
  · refine lv_iload_n C0.1 C0.2.1 dJ3_checkIndex_8e157_16 rfl (lv_at hl 0 rfl) ?_
    exact z_iret C0 hr hlk hZ h1 dJ3_checkIndex_8e157_17
  · cases h1
set_option maxHeartbeats 4000000 in
set_option maxRecDepth 100000 in
theorem kJ0_check (l : Launch) {L : Nat} {V : zV} {σ : zS} {t0 : Int32 × zS} {k n : Int32} (h1 : zbd (FJ_check k n σ) (fun _ σ1 => some ((0 : Int32), σ1)) = some t0) : zMv l yJ0_checkIndex_df160 cJ0_checkIndex_df160 2 1 22 L V σ t0 [.int k, .int n] := by
  refine zMv_of (by decide) (Nat.le_of_ble_eq_true rfl) ?_
  intro p e s m below meth c A C0 hr hlk hZ ls hl
  generalize ([.int k, .int n] : List Value).toArray = args at C0 ⊢
  have hl : lv_has ls 2 [(0, .int k), (1, .int n)] := hl
  have hE := hZ.2.2.2.2.2
  refine lv_iload_n C0.1 C0.2.1 dJ0_checkIndex_df160_0 rfl (lv_at hl 0 rfl) ?_
  refine lv_iload_n C0.1 C0.2.1 dJ0_checkIndex_df160_1 rfl (lv_at hl 1 rfl) ?_
  have go : ∀ v : Value, (v = .null ∨ ∃ q, v = .ref q) → W p l e (zrm 1 22) s m args below meth c s.heap [] 0 0 (MQ below (zQv L V t0 A) args s 0 0 A) (F0 m (0 + 1 + 1 + 3) ls [v, .int n, .int k]) := by
    intro v hv
    refine z_cSi (As := [.int k, .int n, v]) (rest := []) C0 hZ h1 (fun _ hf => kJ3_check l hv hf) zpc_m (zmem 996 (by decide +kernel) (by decide +kernel)) rfl rfl hl.1 (Nat.le_of_ble_eq_true rfl) ⟨Nat.le_of_ble_eq_true rfl, Nat.le_of_ble_eq_true rfl⟩ dJ0_checkIndex_df160_5 ⟨Nat.zero_le _, Nat.zero_le _⟩ (fun r σ1 H locs h1 hZ => ?_)
    refine lv_pop C0.1 C0.2.1 dJ0_checkIndex_df160_8 rfl ?_
    exact z_vret C0 hr hlk hZ h1 dJ0_checkIndex_df160_9
  rcases hE.2.2.2.2.2 with hq | ⟨q, hq⟩
  · exact va_gets C0.1 C0.2.1 hq hZ.2.2.2.1 C0.2.2.2.1 (C0.2.2.2.2 _ (zmem 993 (by decide +kernel) (by decide +kernel))) (fun _ h => h) dJ0_checkIndex_df160_2 (go _ (Or.inl rfl))
  · exact va_gets C0.1 C0.2.1 hq hZ.2.2.2.1 C0.2.2.2.1 (C0.2.2.2.2 _ (zmem 993 (by decide +kernel) (by decide +kernel))) (fun _ h => h) dJ0_checkIndex_df160_2 (go _ (Or.inr ⟨q, rfl⟩))
theorem zby_in {i : Nat} {k : Int32} (hi : i < zN) (hk : vp_in k (zLen.getD i 0)) : (zByt.getD i []).getD k.toNatClampNeg 0 ∈ zByt.getD i [] := by
  have hlt : k.toNatClampNeg < (zByt.getD i []).length := by rw [(zlen_ok i hi).2.1]; exact Nat.not_le.mp fun q => hk (Or.inr q)
  generalize zByt.getD i [] = z at hlt ⊢
  rw [List.getD_eq_getElem?_getD, List.getElem?_eq_getElem hlt]
  exact List.getElem_mem hlt
theorem zch_ok {i : Nat} {k n : Int32} (hi : i < zN) (hk : vp_in k (zLen.getD i 0)) (hn : n = nI (zLen.getD i 0)) (σ : zS) : FJ_check k n σ = some (k, σ) := by
  obtain ⟨j, hj, rfl⟩ := vp_in_of hk (zlen_ok i hi).1
  have h2 := (zlen_ok i hi).1
  unfold FJ_check
  rw [hn, if_neg (nI_pos (by omega)), if_pos (nI_lt hj h2)]
set_option maxHeartbeats 4000000 in
set_option maxRecDepth 100000 in
theorem kJ1_charAt (l : Launch) {L : Nat} {V : zV} {σ : zS} {t0 : Int32 × zS} {i : Nat} {k : Int32} (h1 : FJ0_charAt_5068e i k σ = some t0) : zMi l yJ1_charAt_3b067 cJ1_charAt_3b067 2 (some .char) 2 43 L V σ t0 [.ref (V.2.2.2.2 i), .int k] := by
  refine zMi_of (by decide) (Nat.le_of_ble_eq_true rfl) ?_
  intro p e s m below meth c A C0 hr hlk hZ ls hl
  generalize ([.ref (V.2.2.2.2 i), .int k] : List Value).toArray = args at C0 ⊢
  have hl : lv_has ls 2 [(0, .ref (V.2.2.2.2 i)), (1, .int k)] := hl
  unfold FJ0_charAt_5068e at h1
  by_cases hi : i < zN
  · rw [if_pos hi] at h1
    obtain ⟨hk, h1⟩ := zin_some h1
    have hE := hZ.2.2.2.2.2
    refine lv_iload_n C0.1 C0.2.1 dJ1_charAt_3b067_0 rfl (lv_at hl 1 rfl) ?_
    refine lv_aload_n C0.1 C0.2.1 dJ1_charAt_3b067_1 rfl (lv_at hl 0 rfl) ?_
    refine va_tlen (v := nI (zLen.getD i 0)) C0.1 C0.2.1 (hE.1.1 i hi).2.2.2 hZ.2.2.2.1 rfl dJ1_charAt_3b067_2 ?_
    refine z_cSv (t := t0) (As := [.int k, .int (nI (zLen.getD i 0))]) (rest := []) (Fc := zbd (FJ_check k (nI (zLen.getD i 0)) σ) (fun _ σ1 => some ((0 : Int32), σ1))) (g := fun _ σ1 => some ((zByt.getD i []).getD k.toNatClampNeg 0, σ1)) C0 hZ (by rw [zch_ok hi hk rfl σ]; exact h1) (fun _ hf => kJ0_check l hf) zci_m (zmem 991 (by decide +kernel) (by decide +kernel)) rfl rfl hl.1 (Nat.le_of_ble_eq_true rfl) ⟨Nat.le_of_ble_eq_true rfl, Nat.le_of_ble_eq_true rfl⟩ dJ1_charAt_3b067_3 ⟨Nat.zero_le _, Nat.zero_le _⟩ (fun r σ1 H locs h1 hZ => ?_)
    refine lv_aload_n C0.1 C0.2.1 dJ1_charAt_3b067_6 rfl (lv_at hl 0 rfl) ?_
    refine lv_iload_n C0.1 C0.2.1 dJ1_charAt_3b067_7 rfl (lv_at hl 1 rfl) ?_
    refine va_tb C0.1 C0.2.1 (hE.1.1 i hi).2.2.2 hZ.2.2.2.1 hk rfl dJ1_charAt_3b067_8 ?_
    refine lv_sipush (v := 255) C0.1 C0.2.1 dJ1_charAt_3b067_9 (by decide) ?_
    refine lv_iand C0.1 C0.2.1 dJ1_charAt_3b067_12 ?_
    have hb := (zlen_ok i hi).2.2 _ (zby_in hi hk)
    refine lv_i2c C0.1 C0.2.1 dJ1_charAt_3b067_13 hb.1 ?_
    exact z_tret C0 hr hb.2 hlk hZ h1 dJ1_charAt_3b067_14
  · rw [if_neg hi] at h1; cases h1
set_option maxHeartbeats 4000000 in
set_option maxRecDepth 100000 in
theorem kJ0_charAt_5068e (l : Launch) {L : Nat} {V : zV} {σ : zS} {t0 : Int32 × zS} {i : Nat} {k : Int32} (h1 : FJ0_charAt_5068e i k σ = some t0) : zMi l yJ0_charAt_5068e cJ0_charAt_5068e 2 (some .char) 3 64 L V σ t0 [.ref (V.2.2.2.1 i), .int k] := by
  refine zMi_of (by decide) (Nat.le_of_ble_eq_true rfl) ?_
  intro p e s m below meth c A C0 hr hlk hZ ls hl
  generalize ([.ref (V.2.2.2.1 i), .int k] : List Value).toArray = args at C0 ⊢
  have hl : lv_has ls 2 [(0, .ref (V.2.2.2.1 i)), (1, .int k)] := hl
  have h2 := h1
  unfold FJ0_charAt_5068e at h2
  by_cases hi : i < zN
  · rw [if_pos hi] at h2
    obtain ⟨hk, h2⟩ := zin_some h2
    have hE := hZ.2.2.2.2.2
    refine lv_aload_n C0.1 C0.2.1 dJ0_charAt_5068e_0 rfl (lv_at hl 0 rfl) ?_
    refine z_cTi (t := (0, σ)) (As := []) (rest := []) (Fc := FJ_latin i σ) (g := fun r σ1 => if r = 1 then some (0, σ1) else none) C0 hZ (by unfold FJ_latin; rw [if_pos hi]; rfl) (fun _ hf => kJ_latin l hf) zlat_m zlat_r hi rfl rfl rfl hl.1 (Nat.le_of_ble_eq_true rfl) ⟨Nat.le_of_ble_eq_true rfl, Nat.le_of_ble_eq_true rfl⟩ dJ0_charAt_5068e_1 ⟨Nat.zero_le _, Nat.zero_le _⟩ (fun r σ1 H locs h3 hZ => ?_)
    obtain ⟨rfl, h3⟩ := z_some h3
    cases h3
    refine lv_if_eq (tgt := 16) C0.1 C0.2.1 dJ0_charAt_5068e_4 (by decide) (fun h => absurd h (by decide)) (fun _ => ?_)
    refine lv_aload_n C0.1 C0.2.1 dJ0_charAt_5068e_7 rfl (lv_at hl 0 rfl) ?_
    refine vk_getf C0.1 C0.2.1 (hE.1.1 i hi).2.2.1 hZ.2.2.2.1 C0.2.2.2.1 (C0.2.2.2.2 _ (zmem 2099 (by decide +kernel) (by decide +kernel))) (fun _ h => h) dJ0_charAt_5068e_8 ?_
    refine lv_iload_n C0.1 C0.2.1 dJ0_charAt_5068e_11 rfl (lv_at hl 1 rfl) ?_
    refine z_cSi (t := t0) (As := [.ref (V.2.2.2.2 i), .int k]) (rest := []) (Fc := FJ0_charAt_5068e i k σ) (g := fun r σ1 => if r = t0.1 then some (r, σ1) else none) C0 hZ (by rw [h1]; exact if_pos rfl) (fun _ hf => kJ1_charAt l hf) zl1_m (zmem 988 (by decide +kernel) (by decide +kernel)) rfl rfl hl.1 (Nat.le_of_ble_eq_true rfl) ⟨Nat.le_of_ble_eq_true rfl, Nat.le_of_ble_eq_true rfl⟩ dJ0_charAt_5068e_12 ⟨Nat.zero_le _, Nat.zero_le _⟩ (fun r σ1 H locs h3 hZ => ?_)
    obtain ⟨hr1, h3⟩ := z_some h3
    have hb := (zlen_ok i hi).2.2 _ (zby_in hi hk)
    have hn : narrow .char (.int r) = .int r := by
      rw [hr1]
      cases h2
      exact hb.2
    exact z_tret C0 hr hn hlk hZ (congrArg some h3) dJ0_charAt_5068e_15
  · rw [if_neg hi] at h2; cases h2
