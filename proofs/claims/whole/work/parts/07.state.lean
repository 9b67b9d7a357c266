/-! the class's state: its cells, by blocks: the object a .. a + 4, a taster bT i .. + 2, a test bS j .. + 3 -/
def okN (k n : Nat) : Prop := (k = 0 ∧ n = 3) ∨ ((k = 1 ∨ k = 2) ∧ n = 2) ∨ (k = 3 ∧ 2 ≤ n ∧ n ≤ 5)
/-- bounds and places of the class's state -/
def RCb (base a : Nat) (nT nS : Nat) (bT bS : Nat → Nat) (td fd : Nat → Nat → Nat) (ta tr kd sp ca cr : Nat → Nat) (od aw rk : Nat → Nat → Nat) (h : Nat) : Prop :=
  (nT ≤ 26 ∧ nS ≤ 40 ∧ base ≤ a ∧ a + 5 ≤ h) ∧ (∀ j, j < nS → okN (kd j) (sp j) ∧ ca j ≤ 26 ∧ cr j ≤ ca j ∧ (∀ i, i < 26 → od j i < cntO (kd j) (sp j) ∧ aw j i ≤ 1) ∧ ∀ x, x < 130 → rk j x ≤ 5) ∧
  (∀ i, i < nT → ta i ≤ 40 ∧ tr i ≤ ta i ∧ ∀ k, k < 16 → td i k ≤ 1 ∧ fd i k ≤ 1) ∧
  (∀ i, i < nT → a + 5 ≤ bT i ∧ bT i + 3 ≤ h) ∧ (∀ j, j < nS → a + 5 ≤ bS j ∧ bS j + 4 ≤ h) ∧ (∀ i i', i < i' → i' < nT → bT i + 3 ≤ bT i') ∧ (∀ j j', j < j' → j' < nS → bS j + 4 ≤ bS j') ∧ ∀ i j, i < nT → j < nS → bT i + 3 ≤ bS j ∨ bS j + 4 ≤ bT i
def RC (D : va_G) (κ : Nat → ClassId) (base a : Nat) (sd : Int64) (nT nS : Nat) (bT bS : Nat → Nat) (td fd : Nat → Nat → Nat) (ta tr kd sp ca cr : Nat → Nat) (od aw rk : Nat → Nat → Nat) (H : Heap) : Prop :=
  (∃ (fT fS : Nat → Option Nat) (mx : Nat → Int32) (sw : Nat → Int64), va_P D vwCl [(a, .inr (2, [.long sd, .ref (a + 1), .ref (a + 2), .int (nI nT), .int (nI nS), .ref (a + 3), .ref (a + 4)])), ((a + 1), .inl (κ 3, 26, .inr (.inr (.inr (.inr fT))))), ((a + 2), .inl (κ 4, 40, .inr (.inr (.inr (.inr fS))))), ((a + 3), .inl (κ 0, 120, .inl mx)), ((a + 4), .inl (κ 2, 131, .inr (.inl sw)))] H ∧ (∀ i, i < 26 → fT i = if i < nT then some (bT i) else none) ∧ ∀ j, j < 40 → fS j = if j < nS then some (bS j) else none) ∧
  (∀ i, i < nT → va_P D vwCl [((bT i), .inr (0, [.ref ((bT i) + 1), .ref ((bT i) + 2), .int (nI (ta i)), .int (nI (tr i))])), (((bT i) + 1), .inl (κ 1, 16, .inl (fun k => nI (td i k)))), (((bT i) + 2), .inl (κ 1, 16, .inl (fun k => nI (fd i k))))] H) ∧ (∀ j, j < nS → va_P D vwCl [((bS j), .inr (1, [.int (nI (kd j)), .int (nI (sp j)), .ref ((bS j) + 1), .ref ((bS j) + 2), .ref ((bS j) + 3), .int (nI (ca j)), .int (nI (cr j))])), (((bS j) + 1), .inl (κ 0, 26, .inl (fun i => nI (od j i)))), (((bS j) + 2), .inl (κ 1, 26, .inl (fun i => nI (aw j i)))), (((bS j) + 3), .inl (κ 0, 130, .inl (fun x => nI (rk j x))))] H) ∧ RCb base a nT nS bT bS td fd ta tr kd sp ca cr od aw rk H.size
theorem okN.lt {k n : Nat} (h : okN k n) : k < 4 ∧ 2 ≤ n ∧ n ≤ 5 := by
  rcases h with h | h | h <;> omega
theorem vp_cell_congr {c : ClassId} {n : Nat} {f g : Nat → Int32} (h : ∀ j, j < n → f j = g j) : vp_cell c (n, .inl f) = vp_cell c (n, .inl g) := by
  simp only [vp_cell_i, arrV]
  congr 2
  funext j
  rw [h j.val j.isLt]
theorem vp_cell_congrQ {c : ClassId} {n : Nat} {f g : Nat → Option Nat} (h : ∀ j, j < n → f j = g j) : vp_cell c (n, .inr (.inr (.inr (.inr f)))) = vp_cell c (n, .inr (.inr (.inr (.inr g)))) := by
  simp only [vp_cell_q, arrV]
  congr 2
  funext j
  rw [h j.val j.isLt]
/-- no such test -/
def noS (nS : Nat) (x : Int32) : Prop := (x < 0 ∨ nI 40 ≤ x) ∨ ∃ j, j < 40 ∧ x = nI j ∧ nS ≤ j
theorem whoS (nS : Nat) (x : Int32) : noS nS x ∨ ∃ j, j < nS ∧ j < 40 ∧ x = nI j := by
  rcases pk_ix x (show 40 < 2 ^ 31 by decide) with h | h | ⟨j, hj, h⟩
  · exact Or.inl (Or.inl (Or.inl h))
  · exact Or.inl (Or.inl (Or.inr h))
  · by_cases q : j < nS
    · exact Or.inr ⟨j, q, hj, h⟩
    · exact Or.inl (Or.inr ⟨j, hj, h, by omega⟩)
def noT (nT : Nat) (x : Int32) : Prop := (x < 0 ∨ nI 26 ≤ x) ∨ ∃ j, j < 26 ∧ x = nI j ∧ nT ≤ j
theorem whoT (nT : Nat) (x : Int32) : noT nT x ∨ ∃ j, j < nT ∧ j < 26 ∧ x = nI j := by
  rcases pk_ix x (show 26 < 2 ^ 31 by decide) with h | h | ⟨j, hj, h⟩
  · exact Or.inl (Or.inl (Or.inl h))
  · exact Or.inl (Or.inl (Or.inr h))
  · by_cases q : j < nT
    · exact Or.inr ⟨j, q, hj, h⟩
    · exact Or.inl (Or.inr ⟨j, hj, h, by omega⟩)
theorem noS_fr {nS : Nat} {bS : Nat → Nat} {fS : Nat → Option Nat} {x : Int32} (h : noS nS x) (hf : ∀ j, j < 40 → fS j = if j < nS then some (bS j) else none) : (x < 0 ∨ nI 40 ≤ x) ∨ ∃ j, j < 40 ∧ x = nI j ∧ fS j = none := by
  rcases h with h | ⟨j, h1, h2, h3⟩
  · exact Or.inl h
  · exact Or.inr ⟨j, h1, h2, by rw [hf j h1, if_neg (by omega)]⟩
theorem noT_fr {nT : Nat} {bT : Nat → Nat} {fT : Nat → Option Nat} {x : Int32} (h : noT nT x) (hf : ∀ j, j < 26 → fT j = if j < nT then some (bT j) else none) : (x < 0 ∨ nI 26 ≤ x) ∨ ∃ j, j < 26 ∧ x = nI j ∧ fT j = none := by
  rcases h with h | ⟨j, h1, h2, h3⟩
  · exact Or.inl h
  · exact Or.inr ⟨j, h1, h2, by rw [hf j h1, if_neg (by omega)]⟩
