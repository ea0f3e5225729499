/-! lay: the orders, one after the other -/
def rsM (g : Nat → Nat) : Nat → Option Nat
  | 0 => none
  | k + 1 => if g k < g (k + 1) then some k else rsM g k
def abM (g : Nat → Nat) (r : Nat) : Nat → Nat
  | 0 => 0
  | k + 1 => if r < k + 1 ∧ g (k + 1) ≤ g r then abM g r k else k + 1
def swM (g : Nat → Nat) (i k : Nat) : Nat → Nat := fun j => if j = i then g k else if j = k then g i else g j
def rvM : Nat → (Nat → Nat) → Nat → Nat → Nat → Nat
  | 0, g, _, _ => g
  | f + 1, g, i, k => if i < k then rvM f (swM g i k) (i + 1) (k - 1) else g
def nxM (g : Nat → Nat) (n : Nat) : Option (Nat → Nat) := match rsM g (n - 1) with
  | none => none
  | some r => some (rvM 5 (swM g r (abM g r (n - 1))) (r + 1) (n - 1))
/-- all orders, as the reference goes through them -/
def ordF (na : Nat) : Nat → (Nat → Bool) → (Nat → Nat) → Nat → List (Nat → Nat)
  | 0, _, π, _ => [π]
  | m + 1, L, π, a => (List.range na).flatMap (fun b => if L b = true then ordF na m (fun x => L x && !decide (x = b)) (fun j => if j = a then b else π j) (a + 1) else [])
def ordA (na : Nat) : List (Nat → Nat) := ordF na na (fun _ => true) (fun _ => 0) 0
def ordN (na k : Nat) : Nat → Nat := (ordA na).getD k (fun _ => 0)
def okN (na k : Nat) : Bool := match nxM (ordN na k) na with
  | none => decide (k + 1 = (ordA na).length)
  | some g => decide (k + 1 < (ordA na).length) && (List.range na).all (fun j => decide (g j = ordN na (k + 1) j))
theorem ord_ok : ∀ na, na ≤ 5 → 1 ≤ (ordA na).length ∧ (ordA na).length ≤ 120 ∧ (List.range na).all (fun j => decide (ordN na 0 j = j)) = true ∧ (List.range (ordA na).length).all (fun k => okN na k && (List.range na).all (fun j => decide (ordN na k j < na))) = true := by decide +kernel
theorem ord_n {na k : Nat} (h : na ≤ 5) (hk : k < (ordA na).length) : okN na k = true ∧ ∀ j, j < na → ordN na k j < na := by
  have h1 := (ord_ok na h).2.2.2
  rw [List.all_eq_true] at h1
  have h2 := h1 k (List.mem_range.mpr hk)
  rw [Bool.and_eq_true, List.all_eq_true] at h2
  exact ⟨h2.1, fun j hj => of_decide_eq_true (h2.2 j (List.mem_range.mpr hj))⟩
theorem ord_0 {na : Nat} (h : na ≤ 5) : ∀ j, j < na → ordN na 0 j = j := by
  have h1 := (ord_ok na h).2.2.1
  rw [List.all_eq_true] at h1
  exact fun j hj => of_decide_eq_true (h1 j (List.mem_range.mpr hj))
/-! the class's next order -/
def rowG (s : zS) (n : Nat) (g : Nat → Nat) : Prop := ∀ j, j < n → s 1 j = nI (g j)
def only1 (s s' : zS) : Prop := ∀ k, k ≠ 1 → s' k = s k
theorem only1.tr {a b c : zS} (h : only1 a b) (h2 : only1 b c) : only1 a c := fun k hk => (h2 k hk).trans (h k hk)
theorem fsw {s : zS} {n i k : Nat} {g : Nat → Nat} (h5 : n ≤ 5) (h : rowG s n g) (hi : i < n) (hk : k < n) : ∃ s', FX7_swap 1 (nI i) (nI k) s = some (0, s') ∧ rowG s' n (swM g i k) ∧ only1 s s' := by
  have l1 : ln 0 1 = 5 := rfl
  refine ⟨zup (zup s 1 i (s 1 k)) 1 k (s 1 i), ?_, fun j hj => ?_, fun k hk => by rw [zup_n hk, zup_n hk]⟩
  · unfold FX7_swap
    rw [fat', l1, rd_n (by omega : i < 5) (by decide), zbd_s, zlet_eq, fat', l1, rd_n (by omega : k < 5) (by decide), zbd_s, fput', l1, pt_n (by omega : i < 5) (by decide), zbd_s, fput', l1, pt_n (by omega : k < 5) (by decide), zbd_s]
  · unfold swM
    rw [zup_at, zup_at]
    by_cases c1 : j = k
    · rw [if_pos ⟨rfl, c1⟩]
      by_cases c2 : j = i
      · rw [if_pos c2, h i hi, show i = k by omega]
      · rw [if_neg c2, if_pos c1, h i hi]
    · rw [if_neg (fun z => c1 z.2)]
      by_cases c2 : j = i
      · rw [if_pos ⟨rfl, c2⟩, if_pos c2, h k hk]
      · rw [if_neg (fun z => c2 z.2), if_neg c2, if_neg c1, h j hj]
theorem frv {n : Nat} (h5 : n ≤ 5) : ∀ f s g i k, k < n → i ≤ k + 1 → k < i + 2 * f → rowG s n g → ∃ s', zlp (fun q : Int32 × Int32 × zS => FX7_nextOrder_L79 1 q.1 q.2.1 q.2.2) (nI i, nI k, s) = some (1, s') ∧ rowG s' n (rvM f g i k) ∧ only1 s s' := by
  intro f
  induction f with
  | zero =>
    intro s g i k hk hik hf h
    refine ⟨s, zlp_end ?_, h, fun _ _ => rfl⟩
    show FX7_nextOrder_L79 1 (nI i) (nI k) s = _
    unfold FX7_nextOrder_L79 FX7_nextOrder_b103
    rw [if_pos (nI_le (by omega) (by omega)), zgd_n1]
    rfl
  | succ f ih =>
    intro s g i k hk hik hf h
    show ∃ s', _ ∧ rowG s' n (if i < k then rvM f (swM g i k) (i + 1) (k - 1) else g) ∧ _
    by_cases c : i < k
    · rw [if_pos c]
      obtain ⟨s1, e1, e2, e3⟩ := fsw h5 h (by omega : i < n) hk
      have st : FX7_nextOrder_L79 1 (nI i) (nI k) s = some (.inl (nI (i + 1), nI (k - 1), s1)) := by
        unfold FX7_nextOrder_L79
        rw [if_neg (nI_ge c (by omega)), e1, zbd_s, zlet_eq, zlet_eq, nI_1]
        obtain ⟨j, rfl⟩ : ∃ j, k = j + 1 := ⟨k - 1, by omega⟩
        rw [pk_m1]
        rfl
      obtain ⟨s', g1, g2, g3⟩ := ih s1 (swM g i k) (i + 1) (k - 1) (by omega) (by omega) (by omega) e2
      exact ⟨s', (zlp_step (f := fun q : Int32 × Int32 × zS => FX7_nextOrder_L79 1 q.1 q.2.1 q.2.2) (a := (nI i, nI k, s)) st).trans g1, g2, e3.tr g3⟩
    · rw [if_neg c]
      refine ⟨s, zlp_end ?_, h, fun _ _ => rfl⟩
      show FX7_nextOrder_L79 1 (nI i) (nI k) s = _
      unfold FX7_nextOrder_L79 FX7_nextOrder_b103
      rw [if_pos (nI_le (by omega) (by omega)), zgd_n1]
      rfl
theorem abM_b {g : Nat → Nat} {r : Nat} : ∀ k, r ≤ k → r ≤ abM g r k ∧ abM g r k ≤ k := by
  intro k
  induction k with
  | zero => intro h; exact ⟨h, Nat.le_refl 0⟩
  | succ k ih =>
    intro h
    show r ≤ (if r < k + 1 ∧ g (k + 1) ≤ g r then abM g r k else k + 1) ∧ (if r < k + 1 ∧ g (k + 1) ≤ g r then abM g r k else k + 1) ≤ k + 1
    split
    · next c => have := ih (by omega); omega
    · omega
theorem rsM_b {g : Nat → Nat} : ∀ k r, rsM g k = some r → r < k := by
  intro k
  induction k with
  | zero => intro r h; cases h
  | succ k ih =>
    intro r h
    have h : (if g k < g (k + 1) then some k else rsM g k) = some r := h
    split at h
    · cases h; omega
    · have := ih r h; omega
theorem fnx {s : zS} {n : Nat} {g : Nat → Nat} (h5 : n ≤ 5) (h : rowG s n g) (hg : ∀ j, j < n → g j < n) : match nxM g n with
    | none => FX7_nextOrder 1 (nI n) s = some (0, s)
    | some g' => ∃ s', FX7_nextOrder 1 (nI n) s = some (1, s') ∧ rowG s' n g' ∧ only1 s s' := by
  have l1 : ln 0 1 = 5 := rfl
  -- above
  have ab : ∀ r k, r ≤ k → k < n → zlp (fun q : Int32 × zS => FX7_nextOrder_L39 1 (nI n) (nI r) q.1 q.2) (nI k, s) = FX7_nextOrder_b63 1 (nI n) (nI r) (nI (abM g r k)) s := by
    intro r k
    induction k with
    | zero =>
      intro hr hk
      refine zlp_exit ?_
      show FX7_nextOrder_L39 1 (nI n) (nI r) (nI 0) s = _
      unfold FX7_nextOrder_L39
      rw [if_pos (nI_le (by omega) (by omega))]
      rfl
    | succ k ih =>
      intro hr hk
      have st : FX7_nextOrder_L39 1 (nI n) (nI r) (nI (k + 1)) s = if r < k + 1 ∧ g (k + 1) ≤ g r then some (.inl (nI k, s)) else zinr (FX7_nextOrder_b63 1 (nI n) (nI r) (nI (k + 1)) s) := by
        unfold FX7_nextOrder_L39
        by_cases c : r < k + 1
        · rw [if_neg (nI_ge c (by omega)), fat', l1, rd_n (by omega : k + 1 < 5) (by decide), zbd_s, fat', l1, rd_n (by omega : r < 5) (by decide), zbd_s, h _ hk, h r (by omega), zlet_eq, pk_m1]
          have g1 := hg (k + 1) hk
          have g2 := hg r (by omega)
          by_cases c2 : g (k + 1) ≤ g r
          · rw [if_neg (nI_nlt c2 (by omega)), if_pos ⟨c, c2⟩]
          · rw [if_pos (nI_lt (by omega) (by omega)), if_neg (fun z => c2 z.2)]
        · rw [if_pos (nI_le (by omega) (by omega)), if_neg (fun z => c z.1)]
      show _ = FX7_nextOrder_b63 1 (nI n) (nI r) (nI (if r < k + 1 ∧ g (k + 1) ≤ g r then abM g r k else k + 1)) s
      by_cases c : r < k + 1 ∧ g (k + 1) ≤ g r
      · rw [if_pos c] at st ⊢
        exact (zlp_step (f := fun q : Int32 × zS => FX7_nextOrder_L39 1 (nI n) (nI r) q.1 q.2) (a := (nI (k + 1), s)) st).trans (ih (by omega) (by omega))
      · rw [if_neg c] at st ⊢
        exact zlp_exit st
  -- rise
  have rs : ∀ k x, k < n → (k = 0 → x = -1) → (∀ j, k = j + 1 → x = nI j) → zlp (fun q : Int32 × zS => FX7_nextOrder_L4 1 (nI n) q.1 q.2) (x, s) = (match rsM g k with | none => some (0, s) | some r => FX7_nextOrder_b29 1 (nI n) (nI r) s) := by
    intro k
    induction k with
    | zero =>
      intro x hk h0 _
      have hx := h0 rfl
      subst hx
      refine (zlp_exit (x := FX7_nextOrder_b29 1 (nI n) (-1) s) ?_).trans ?_
      · show FX7_nextOrder_L4 1 (nI n) (-1) s = _
        unfold FX7_nextOrder_L4
        rw [if_pos (by decide)]
      · unfold FX7_nextOrder_b29
        rw [if_neg (by decide), zgd_n0]
        rfl
    | succ k ih =>
      intro x hk _ h1
      have hx := h1 k rfl
      subst hx
      have st : FX7_nextOrder_L4 1 (nI n) (nI k) s = if g k < g (k + 1) then zinr (FX7_nextOrder_b29 1 (nI n) (nI k) s) else some (.inl (nI k + (-1), s)) := by
        unfold FX7_nextOrder_L4
        rw [if_neg (nI_pos (by omega)), fat', l1, rd_n (by omega : k < 5) (by decide), zbd_s, nI_1, fat', l1, rd_n (by omega : k + 1 < 5) (by decide), zbd_s, h k (by omega), h _ hk, zlet_eq]
        have g1 := hg (k + 1) hk
        have g2 := hg k (by omega)
        by_cases c2 : g k < g (k + 1)
        · rw [if_pos (nI_lt c2 (by omega)), if_pos c2]
        · rw [if_neg (nI_nlt (by omega) (by omega)), if_neg c2]
      show _ = (match (if g k < g (k + 1) then some k else rsM g k) with | none => some (0, s) | some r => FX7_nextOrder_b29 1 (nI n) (nI r) s)
      by_cases c : g k < g (k + 1)
      · rw [if_pos c] at st ⊢
        exact zlp_exit st
      · rw [if_neg c] at st ⊢
        refine (zlp_step (f := fun q : Int32 × zS => FX7_nextOrder_L4 1 (nI n) q.1 q.2) (a := (nI k, s)) st).trans (ih _ (by omega) (fun z => by rw [z]; rfl) (fun j hj => by rw [hj, pk_m1]))
  have e0 : FX7_nextOrder 1 (nI n) s = (match rsM g (n - 1) with | none => some (0, s) | some r => FX7_nextOrder_b29 1 (nI n) (nI r) s) := by
    unfold FX7_nextOrder
    rw [zlet_eq]
    by_cases c : n = 0
    · subst c
      refine (zlp_exit (x := FX7_nextOrder_b29 1 (nI 0) (nI 0 - 2) s) ?_).trans ?_
      · show FX7_nextOrder_L4 1 (nI 0) (nI 0 - 2) s = _
        unfold FX7_nextOrder_L4
        rw [if_pos (by decide)]
      · unfold FX7_nextOrder_b29
        rw [if_neg (by decide), zgd_n0]
        rfl
    · refine rs (n - 1) _ (by omega) (fun z => ?_) (fun j hj => ?_)
      · rw [show n = 1 by omega]; rfl
      · rw [show n = j + 2 by omega, show (2 : Int32) = nI 2 from rfl, pk_sub (by omega)]; rfl
  unfold nxM
  rw [e0]
  cases hr : rsM g (n - 1) with
  | none => rfl
  | some r =>
    have hrb := rsM_b (n - 1) r hr
    show ∃ s', FX7_nextOrder_b29 1 (nI n) (nI r) s = some (1, s') ∧ rowG s' n (rvM 5 (swM g r (abM g r (n - 1))) (r + 1) (n - 1)) ∧ only1 s s'
    have hb := abM_b (g := g) (r := r) (n - 1) (by omega)
    obtain ⟨s1, e1, e2, e3⟩ := fsw h5 h (by omega : r < n) (by omega : abM g r (n - 1) < n)
    obtain ⟨s2, g1, g2, g3⟩ := frv h5 5 s1 _ (r + 1) (n - 1) (by omega) (by omega) (by omega) e2
    refine ⟨s2, ?_, g2, e3.tr g3⟩
    unfold FX7_nextOrder_b29
    have hn1 : nI n - 1 = nI (n - 1) := by rw [show (1 : Int32) = nI 1 from rfl, pk_sub (by omega)]
    rw [if_pos (nI_pos' (by omega)), zlet_eq, hn1, ab r (n - 1) (by omega) (by omega)]
    unfold FX7_nextOrder_b63
    rw [e1, zbd_s, zlet_eq, zlet_eq, nI_1, hn1]
    exact g1
