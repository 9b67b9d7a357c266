/-! lifting: the state behind a write -/
def u2 (f : Nat → Nat → Nat) (i k v : Nat) : Nat → Nat → Nat := fun i' k' => if i' = i ∧ k' = k then v else f i' k'
def u1 (f : Nat → Nat) (i v : Nat) : Nat → Nat := fun i' => if i' = i then v else f i'
theorem u2_ne {f : Nat → Nat → Nat} {i k v i' : Nat} (h : i' ≠ i) : u2 f i k v i' = f i' := by
  funext k'
  simp [u2, h]
theorem u1_ne {f : Nat → Nat} {i v i' : Nat} (h : i' ≠ i) : u1 f i v i' = f i' := by simp [u1, h]
theorem u1_eq {f : Nat → Nat} {i v : Nat} : u1 f i v i = v := by simp [u1]
theorem u2_upd {f : Nat → Nat → Nat} {i k v : Nat} : upd (fun k' => nI (f i k')) k (nI v) = fun k' => nI (u2 f i k v i k') := by
  funext k'
  by_cases h : k' = k
  · simp [upd, u2, h]
  · simp [upd, u2, h]
theorem u2_le {f : Nat → Nat → Nat} {i k v i' k' B : Nat} (h : f i' k' ≤ B) (hv : v ≤ B) : u2 f i k v i' k' ≤ B := by
  unfold u2
  split <;> assumption
theorem D_of {Z : Nat → Prop} {ws : va_W} (h : (ws.map Prod.fst).Nodup) (hb : ∀ x ∈ ws.map Prod.fst, Z x) : va_D Z ws := by
  refine ⟨fun i j p q hi hj e => ?_, fun k q hk => hb _ (List.mem_map.mpr ⟨q, List.mem_of_getElem? hk, rfl⟩)⟩
  have h1 : (ws.map Prod.fst)[i]? = some p.1 := by rw [List.getElem?_map, hi]; rfl
  have h2 : (ws.map Prod.fst)[j]? = some p.1 := by rw [List.getElem?_map, hj, e]; rfl
  have l1 := (List.getElem?_eq_some_iff.mp h1).1
  exact (List.getElem?_inj l1 h).mp (h1.trans h2.symm)
theorem A_addr {ws : va_W} {sz q : Nat} (h : va_A ws sz q) : q ∈ ws.map Prod.fst ∨ sz ≤ q := by
  rcases h with ⟨k, e, h⟩ | h
  · exact Or.inl (List.mem_map.mpr ⟨_, List.mem_of_getElem? h, rfl⟩)
  · exact Or.inr h
theorem keepW {D : va_G} {ws : va_W} {A : Nat → Prop} {H0 H : Heap} (hk : ∀ q : Nat, q < H0.size → ¬ A q → H[q]? = H0[q]?) (hP : va_P D vwCl ws H0) (hn : ∀ x ∈ ws.map Prod.fst, ¬ A x) : va_P D vwCl ws H :=
  hP.kept (fun k q h => hk q.1 (hP k q h).lt (hn _ (List.mem_map.mpr ⟨q, List.mem_of_getElem? h, rfl⟩)))
/-- the class's own cells, and new ones -/
def OwnC (a nT nS : Nat) (bT bS : Nat → Nat) (sz q : Nat) : Prop := (a ≤ q ∧ q < a + 5) ∨ (∃ i, i < nT ∧ bT i ≤ q ∧ q < bT i + 3) ∨ (∃ j, j < nS ∧ bS j ≤ q ∧ q < bS j + 4) ∨ sz ≤ q
def FrC (a nT nS : Nat) (bT bS : Nat → Nat) (H0 H : Heap) : Prop := H0.size ≤ H.size ∧ ∀ q : Nat, q < H0.size → ¬ OwnC a nT nS bT bS H0.size q → H[q]? = H0[q]?
theorem FrC.rf {a nT nS : Nat} {bT bS : Nat → Nat} {H0 : Heap} : FrC a nT nS bT bS H0 H0 := ⟨Nat.le_refl _, fun _ _ _ => rfl⟩
theorem ownTS {a nT nS sz q i j : Nat} {bT bS : Nat → Nat} (hi : i < nT) (hj : j < nS) (h : (a ≤ q ∧ q < a + 5) ∨ (bT i ≤ q ∧ q < bT i + 3) ∨ (bS j ≤ q ∧ q < bS j + 4) ∨ sz ≤ q) : OwnC a nT nS bT bS sz q := by
  rcases h with h | h | h | h
  · exact Or.inl h
  · exact Or.inr (Or.inl ⟨i, hi, h⟩)
  · exact Or.inr (Or.inr (Or.inl ⟨j, hj, h⟩))
  · exact Or.inr (Or.inr (Or.inr h))
theorem ownT {a nT nS sz q i : Nat} {bT bS : Nat → Nat} (hi : i < nT) (h : (a ≤ q ∧ q < a + 5) ∨ (bT i ≤ q ∧ q < bT i + 3) ∨ sz ≤ q) : OwnC a nT nS bT bS sz q := by
  rcases h with h | h | h
  · exact Or.inl h
  · exact Or.inr (Or.inl ⟨i, hi, h⟩)
  · exact Or.inr (Or.inr (Or.inr h))
theorem ownS {a nT nS sz q j : Nat} {bT bS : Nat → Nat} (hj : j < nS) (h : (a ≤ q ∧ q < a + 5) ∨ (bS j ≤ q ∧ q < bS j + 4) ∨ sz ≤ q) : OwnC a nT nS bT bS sz q := by
  rcases h with h | h | h
  · exact Or.inl h
  · exact Or.inr (Or.inr (Or.inl ⟨j, hj, h⟩))
  · exact Or.inr (Or.inr (Or.inr h))
theorem ownR {a nT nS sz q : Nat} {bT bS : Nat → Nat} (h : (a ≤ q ∧ q < a + 5) ∨ sz ≤ q) : OwnC a nT nS bT bS sz q := by
  rcases h with h | h
  · exact Or.inl h
  · exact Or.inr (Or.inr (Or.inr h))
theorem OwnC.base {base a nT nS h : Nat} {bT bS : Nat → Nat} {q : Nat} (ha : base ≤ a) (hah : a ≤ h) (h1 : ∀ i, i < nT → a + 5 ≤ bT i ∧ bT i + 3 ≤ h) (h2 : ∀ j, j < nS → a + 5 ≤ bS j ∧ bS j + 4 ≤ h) (hq : OwnC a nT nS bT bS h q) : base ≤ q := by
  rcases hq with h | ⟨i, hi, h⟩ | ⟨j, hj, h⟩ | h
  · omega
  · have := h1 i hi; omega
  · have := h2 j hj; omega
  · omega
theorem RC_level {D : va_G} {κ : Nat → ClassId} {base a : Nat} {sd : Int64} {nT nS : Nat} {bT bS : Nat → Nat} {td fd : Nat → Nat → Nat} {ta tr kd sp ca cr : Nat → Nat} {od aw rk : Nat → Nat → Nat} {H0 H : Heap} {A : Nat → Prop} {fT : Nat → Option Nat} (hR : RC D κ base a sd nT nS bT bS td fd ta tr kd sp ca cr od aw rk H0) {i k z : Nat} (hi : i < nT) (hz : z ≤ 1) (hAq : ∀ x9, A x9 → (x9 = a ∨ x9 = (a + 1) ∨ x9 = (bT i) ∨ x9 = ((bT i) + 1) ∨ x9 = ((bT i) + 2)) ∨ H0.size ≤ x9)
    (hsz : H0.size ≤ H.size) (hk : ∀ q : Nat, q < H0.size → ¬ A q → H[q]? = H0[q]?) (hf : ∀ i, i < 26 → fT i = if i < nT then some (bT i) else none) (hP : va_P D vwCl [(a, .inr (2, [.long sd, .ref (a + 1), .ref (a + 2), .int (nI nT), .int (nI nS), .ref (a + 3), .ref (a + 4)])), ((a + 1), .inl (κ 3, 26, .inr (.inr (.inr (.inr fT))))), ((bT i), .inr (0, [.ref ((bT i) + 1), .ref ((bT i) + 2), .int (nI (ta i)), .int (nI (tr i))])), (((bT i) + 1), .inl (κ 1, 16, .inl (upd (fun k => nI (td i k)) k (nI 1)))), (((bT i) + 2), .inl (κ 1, 16, .inl (upd (fun k => nI (fd i k)) k (nI z))))] H) :
    RC D κ base a sd nT nS bT bS (u2 td i k 1) (u2 fd i k z) ta tr kd sp ca cr od aw rk H := by
  obtain ⟨⟨fT0, fS, mx, sw, hP0, hfT, hfS⟩, hTas, hTes, ⟨hnT, hnS, hba, hah⟩, hb1, hb2, hs1, hs2, hs3, hs4, hs5⟩ := hR
  refine ⟨⟨fT, fS, mx, sw, ?_, hf, hfS⟩, fun i' hi' => ?_, fun j hj => keepW hk (hTes j hj) ?_, ⟨⟨hnT, hnS, hba, by omega⟩, hb1, fun i' hi' => ?_, fun i' hi' => ?_, fun j hj => ?_, hs3, hs4, hs5⟩⟩
  · have h1 := hP.sub (ws' := [(a, .inr (2, [.long sd, .ref (a + 1), .ref (a + 2), .int (nI nT), .int (nI nS), .ref (a + 3), .ref (a + 4)])), ((a + 1), .inl (κ 3, 26, .inr (.inr (.inr (.inr fT)))))]) [0, 1] rfl
    have h2 := keepW hk (hP0.sub (ws' := [((a + 2), .inl (κ 4, 40, .inr (.inr (.inr (.inr fS))))), ((a + 3), .inl (κ 0, 120, .inl mx)), ((a + 4), .inl (κ 2, 131, .inr (.inl sw)))]) [2, 3, 4] rfl) (by
      simp only [List.map, List.nodup_cons, List.mem_cons, List.not_mem_nil, or_false, not_or, List.nodup_nil, and_true, not_false_eq_true, List.forall_mem_cons, forall_eq_or_imp, forall_eq]
      have := hs1 i hi
      refine ⟨fun q => ?_, fun q => ?_, fun q => ?_⟩ <;> (have := hAq _ q; omega))
    exact h1.app h2
  · by_cases e : i' = i
    · subst e
      have h3 := hP.sub (ws' := [((bT i'), .inr (0, [.ref ((bT i') + 1), .ref ((bT i') + 2), .int (nI (ta i')), .int (nI (tr i'))])), (((bT i') + 1), .inl (κ 1, 16, .inl (upd (fun k => nI (td i' k)) k (nI 1)))), (((bT i') + 2), .inl (κ 1, 16, .inl (upd (fun k => nI (fd i' k)) k (nI z))))]) [2, 3, 4] rfl
      rw [u2_upd, u2_upd] at h3
      exact h3
    · rw [u2_ne e, u2_ne e]
      refine keepW hk (hTas i' hi') ?_
      simp only [List.map, List.nodup_cons, List.mem_cons, List.not_mem_nil, or_false, not_or, List.nodup_nil, and_true, not_false_eq_true, List.forall_mem_cons, forall_eq_or_imp, forall_eq]
      have b1 := hs1 i hi
      have b2 := hs1 i' hi'
      have b3 : bT i + 3 ≤ bT i' ∨ bT i' + 3 ≤ bT i := by
        rcases Nat.lt_or_gt_of_ne e with q | q
        · exact Or.inr (hs3 i' i q hi)
        · exact Or.inl (hs3 i i' q hi')
      refine ⟨fun q => ?_, fun q => ?_, fun q => ?_⟩ <;> (have := hAq _ q; omega)
  · simp only [List.map, List.nodup_cons, List.mem_cons, List.not_mem_nil, or_false, not_or, List.nodup_nil, and_true, not_false_eq_true, List.forall_mem_cons, forall_eq_or_imp, forall_eq]
    have b1 := hs1 i hi
    have b2 := hs2 j hj
    have b3 := hs5 i j hi hj
    refine ⟨fun q => ?_, fun q => ?_, fun q => ?_, fun q => ?_⟩ <;> (have := hAq _ q; omega)
  · obtain ⟨c1, c2, c3⟩ := hb2 i' hi'
    exact ⟨c1, c2, fun k' hk' => ⟨u2_le (c3 k' hk').1 (Nat.le_refl 1), u2_le (c3 k' hk').2 hz⟩⟩
  · have := hs1 i' hi'; omega
  · have := hs2 j hj; omega
theorem RC_rank {D : va_G} {κ : Nat → ClassId} {base a : Nat} {sd : Int64} {nT nS : Nat} {bT bS : Nat → Nat} {td fd : Nat → Nat → Nat} {ta tr kd sp ca cr : Nat → Nat} {od aw rk : Nat → Nat → Nat} {H0 H : Heap} {A : Nat → Prop} {fT fS : Nat → Option Nat} (hR : RC D κ base a sd nT nS bT bS td fd ta tr kd sp ca cr od aw rk H0) {j x v : Nat} (hj : j < nS) (hv : v ≤ 5) (hAq : ∀ x9, A x9 → (x9 = a ∨ x9 = (a + 1) ∨ x9 = (a + 2) ∨ x9 = (bS j) ∨ x9 = ((bS j) + 3)) ∨ H0.size ≤ x9)
    (hsz : H0.size ≤ H.size) (hk : ∀ q : Nat, q < H0.size → ¬ A q → H[q]? = H0[q]?) (hf : ∀ i, i < 26 → fT i = if i < nT then some (bT i) else none) (hf2 : ∀ j, j < 40 → fS j = if j < nS then some (bS j) else none) (hP : va_P D vwCl [(a, .inr (2, [.long sd, .ref (a + 1), .ref (a + 2), .int (nI nT), .int (nI nS), .ref (a + 3), .ref (a + 4)])), ((a + 1), .inl (κ 3, 26, .inr (.inr (.inr (.inr fT))))), ((a + 2), .inl (κ 4, 40, .inr (.inr (.inr (.inr fS))))), ((bS j), .inr (1, [.int (nI (kd j)), .int (nI (sp j)), .ref ((bS j) + 1), .ref ((bS j) + 2), .ref ((bS j) + 3), .int (nI (ca j)), .int (nI (cr j))])), (((bS j) + 3), .inl (κ 0, 130, .inl (upd (fun x => nI (rk j x)) x (nI v))))] H) :
    RC D κ base a sd nT nS bT bS td fd ta tr kd sp ca cr od aw (u2 rk j x v) H := by
  obtain ⟨⟨fT0, fS0, mx, sw, hP0, hfT, hfS⟩, hTas, hTes, ⟨hnT, hnS, hba, hah⟩, hb1, hb2, hs1, hs2, hs3, hs4, hs5⟩ := hR
  refine ⟨⟨fT, fS, mx, sw, ?_, hf, hf2⟩, fun i hi => keepW hk (hTas i hi) ?_, fun j' hj' => ?_, ⟨⟨hnT, hnS, hba, by omega⟩, fun j' hj' => ?_, hb2, fun i' hi' => ?_, fun j hj => ?_, hs3, hs4, hs5⟩⟩
  · have h1 := hP.sub (ws' := [(a, .inr (2, [.long sd, .ref (a + 1), .ref (a + 2), .int (nI nT), .int (nI nS), .ref (a + 3), .ref (a + 4)])), ((a + 1), .inl (κ 3, 26, .inr (.inr (.inr (.inr fT))))), ((a + 2), .inl (κ 4, 40, .inr (.inr (.inr (.inr fS)))))]) [0, 1, 2] rfl
    have h2 := keepW hk (hP0.sub (ws' := [((a + 3), .inl (κ 0, 120, .inl mx)), ((a + 4), .inl (κ 2, 131, .inr (.inl sw)))]) [3, 4] rfl) (by
      simp only [List.map, List.nodup_cons, List.mem_cons, List.not_mem_nil, or_false, not_or, List.nodup_nil, and_true, not_false_eq_true, List.forall_mem_cons, forall_eq_or_imp, forall_eq]
      have := hs2 j hj
      refine ⟨fun q => ?_, fun q => ?_⟩ <;> (have := hAq _ q; omega))
    exact h1.app h2
  · simp only [List.map, List.nodup_cons, List.mem_cons, List.not_mem_nil, or_false, not_or, List.nodup_nil, and_true, not_false_eq_true, List.forall_mem_cons, forall_eq_or_imp, forall_eq]
    have b1 := hs1 i hi
    have b2 := hs2 j hj
    have b3 := hs5 i j hi hj
    refine ⟨fun q => ?_, fun q => ?_, fun q => ?_⟩ <;> (have := hAq _ q; omega)
  · by_cases e : j' = j
    · subst e
      have b2 := hs2 j' hj'
      have h3 := hP.sub (ws' := [((bS j'), .inr (1, [.int (nI (kd j')), .int (nI (sp j')), .ref ((bS j') + 1), .ref ((bS j') + 2), .ref ((bS j') + 3), .int (nI (ca j')), .int (nI (cr j'))]))]) [3] rfl
      have h4 := hP.sub (ws' := [(((bS j') + 3), .inl (κ 0, 130, .inl (upd (fun x => nI (rk j' x)) x (nI v))))]) [4] rfl
      have h5 := keepW hk ((hTes j' hj').sub (ws' := [(((bS j') + 1), .inl (κ 0, 26, .inl (fun i => nI (od j' i)))), (((bS j') + 2), .inl (κ 1, 26, .inl (fun i => nI (aw j' i))))]) [1, 2] rfl) (by
        simp only [List.map, List.nodup_cons, List.mem_cons, List.not_mem_nil, or_false, not_or, List.nodup_nil, and_true, not_false_eq_true, List.forall_mem_cons, forall_eq_or_imp, forall_eq]
        refine ⟨fun q => ?_, fun q => ?_⟩ <;> (have := hAq _ q; omega))
      rw [u2_upd] at h4
      exact (h3.app h5).app h4
    · rw [u2_ne e]
      refine keepW hk (hTes j' hj') ?_
      simp only [List.map, List.nodup_cons, List.mem_cons, List.not_mem_nil, or_false, not_or, List.nodup_nil, and_true, not_false_eq_true, List.forall_mem_cons, forall_eq_or_imp, forall_eq]
      have b1 := hs2 j hj
      have b2 := hs2 j' hj'
      have b3 : bS j + 4 ≤ bS j' ∨ bS j' + 4 ≤ bS j := by
        rcases Nat.lt_or_gt_of_ne e with q | q
        · exact Or.inr (hs4 j' j q hj)
        · exact Or.inl (hs4 j j' q hj')
      refine ⟨fun q => ?_, fun q => ?_, fun q => ?_, fun q => ?_⟩ <;> (have := hAq _ q; omega)
  · obtain ⟨c1, c2, c3, c4, c5⟩ := hb1 j' hj'
    exact ⟨c1, c2, c3, c4, fun y hy => u2_le (c5 y hy) hv⟩
  · have := hs1 i' hi'; omega
  · have := hs2 j hj; omega
theorem RC_answer {D : va_G} {κ : Nat → ClassId} {base a : Nat} {sd : Int64} {nT nS : Nat} {bT bS : Nat → Nat} {td fd : Nat → Nat → Nat} {ta tr kd sp ca cr : Nat → Nat} {od aw rk : Nat → Nat → Nat} {H0 H : Heap} {A : Nat → Prop} {fT fS : Nat → Option Nat} (hR : RC D κ base a sd nT nS bT bS td fd ta tr kd sp ca cr od aw rk H0) {i j c t : Nat} (hi : i < nT) (hi2 : i < 26) (hj : j < nS) (hc : ca j + 1 ≤ 26) (ht : ta i + 1 ≤ 40) (hc2 : c ≤ ca j + 1) (ht2 : t ≤ ta i + 1) (hAq : ∀ x9, A x9 → (x9 = a ∨ x9 = (a + 1) ∨ x9 = (a + 2) ∨ x9 = (bS j) ∨ x9 = ((bS j) + 1) ∨ x9 = ((bS j) + 2) ∨ x9 = (bT i)) ∨ H0.size ≤ x9)
    (hsz : H0.size ≤ H.size) (hk : ∀ q : Nat, q < H0.size → ¬ A q → H[q]? = H0[q]?) (hf : ∀ i, i < 26 → fT i = if i < nT then some (bT i) else none) (hf2 : ∀ j, j < 40 → fS j = if j < nS then some (bS j) else none) (hP : va_P D vwCl [(a, .inr (2, [.long sd, .ref (a + 1), .ref (a + 2), .int (nI nT), .int (nI nS), .ref (a + 3), .ref (a + 4)])), ((a + 1), .inl (κ 3, 26, .inr (.inr (.inr (.inr fT))))), ((a + 2), .inl (κ 4, 40, .inr (.inr (.inr (.inr fS))))), ((bS j), .inr (1, [.int (nI (kd j)), .int (nI (sp j)), .ref ((bS j) + 1), .ref ((bS j) + 2), .ref ((bS j) + 3), .int (nI (ca j + 1)), .int (nI c)])), (((bS j) + 1), .inl (κ 0, 26, .inl (fun i => nI (od j i)))), (((bS j) + 2), .inl (κ 1, 26, .inl (upd (fun i => nI (aw j i)) i (nI 1)))), ((bT i), .inr (0, [.ref ((bT i) + 1), .ref ((bT i) + 2), .int (nI (ta i + 1)), .int (nI t)]))] H) :
    RC D κ base a sd nT nS bT bS td fd (u1 ta i (ta i + 1)) (u1 tr i t) kd sp (u1 ca j (ca j + 1)) (u1 cr j c) od (u2 aw j i 1) rk H := by
  obtain ⟨⟨fT0, fS0, mx, sw, hP0, hfT, hfS⟩, hTas, hTes, ⟨hnT, hnS, hba, hah⟩, hb1, hb2, hs1, hs2, hs3, hs4, hs5⟩ := hR
  have b1 := hs1 i hi
  have b2 := hs2 j hj
  have b3 := hs5 i j hi hj
  refine ⟨⟨fT, fS, mx, sw, ?_, hf, hf2⟩, fun i' hi' => ?_, fun j' hj' => ?_, ⟨⟨hnT, hnS, hba, by omega⟩, fun j' hj' => ?_, fun i' hi' => ?_, fun i' hi' => ?_, fun j hj => ?_, hs3, hs4, hs5⟩⟩
  · have h1 := hP.sub (ws' := [(a, .inr (2, [.long sd, .ref (a + 1), .ref (a + 2), .int (nI nT), .int (nI nS), .ref (a + 3), .ref (a + 4)])), ((a + 1), .inl (κ 3, 26, .inr (.inr (.inr (.inr fT))))), ((a + 2), .inl (κ 4, 40, .inr (.inr (.inr (.inr fS)))))]) [0, 1, 2] rfl
    have h2 := keepW hk (hP0.sub (ws' := [((a + 3), .inl (κ 0, 120, .inl mx)), ((a + 4), .inl (κ 2, 131, .inr (.inl sw)))]) [3, 4] rfl) (by
      simp only [List.map, List.nodup_cons, List.mem_cons, List.not_mem_nil, or_false, not_or, List.nodup_nil, and_true, not_false_eq_true, List.forall_mem_cons, forall_eq_or_imp, forall_eq]
      refine ⟨fun q => ?_, fun q => ?_⟩ <;> (have := hAq _ q; omega))
    exact h1.app h2
  · by_cases e : i' = i
    · subst e
      have h3 := hP.sub (ws' := [((bT i'), .inr (0, [.ref ((bT i') + 1), .ref ((bT i') + 2), .int (nI (ta i' + 1)), .int (nI t)]))]) [6] rfl
      have h5 := keepW hk ((hTas i' hi').sub (ws' := [(((bT i') + 1), .inl (κ 1, 16, .inl (fun k => nI (td i' k)))), (((bT i') + 2), .inl (κ 1, 16, .inl (fun k => nI (fd i' k))))]) [1, 2] rfl) (by
        simp only [List.map, List.nodup_cons, List.mem_cons, List.not_mem_nil, or_false, not_or, List.nodup_nil, and_true, not_false_eq_true, List.forall_mem_cons, forall_eq_or_imp, forall_eq]
        refine ⟨fun q => ?_, fun q => ?_⟩ <;> (have := hAq _ q; omega))
      rw [u1_eq, u1_eq]
      exact h3.app h5
    · rw [u1_ne e, u1_ne e]
      refine keepW hk (hTas i' hi') ?_
      simp only [List.map, List.nodup_cons, List.mem_cons, List.not_mem_nil, or_false, not_or, List.nodup_nil, and_true, not_false_eq_true, List.forall_mem_cons, forall_eq_or_imp, forall_eq]
      have c2 := hs1 i' hi'
      have c3 := hs5 i' j hi' hj
      have c4 : bT i + 3 ≤ bT i' ∨ bT i' + 3 ≤ bT i := by
        rcases Nat.lt_or_gt_of_ne e with q | q
        · exact Or.inr (hs3 i' i q hi)
        · exact Or.inl (hs3 i i' q hi')
      refine ⟨fun q => ?_, fun q => ?_, fun q => ?_⟩ <;> (have := hAq _ q; omega)
  · by_cases e : j' = j
    · subst e
      have h3 := hP.sub (ws' := [((bS j'), .inr (1, [.int (nI (kd j')), .int (nI (sp j')), .ref ((bS j') + 1), .ref ((bS j') + 2), .ref ((bS j') + 3), .int (nI (ca j' + 1)), .int (nI c)])), (((bS j') + 1), .inl (κ 0, 26, .inl (fun i => nI (od j' i)))), (((bS j') + 2), .inl (κ 1, 26, .inl (upd (fun i => nI (aw j' i)) i (nI 1))))]) [3, 4, 5] rfl
      have h5 := keepW hk ((hTes j' hj').sub (ws' := [(((bS j') + 3), .inl (κ 0, 130, .inl (fun x => nI (rk j' x))))]) [3] rfl) (by
        simp only [List.map, List.nodup_cons, List.mem_cons, List.not_mem_nil, or_false, not_or, List.nodup_nil, and_true, not_false_eq_true, List.forall_mem_cons, forall_eq_or_imp, forall_eq]
        exact fun q => by have := hAq _ q; omega)
      rw [u2_upd] at h3
      rw [u1_eq, u1_eq]
      exact h3.app h5
    · rw [u1_ne e, u1_ne e, u2_ne e]
      refine keepW hk (hTes j' hj') ?_
      simp only [List.map, List.nodup_cons, List.mem_cons, List.not_mem_nil, or_false, not_or, List.nodup_nil, and_true, not_false_eq_true, List.forall_mem_cons, forall_eq_or_imp, forall_eq]
      have c2 := hs2 j' hj'
      have c3 := hs5 i j' hi hj'
      have c4 : bS j + 4 ≤ bS j' ∨ bS j' + 4 ≤ bS j := by
        rcases Nat.lt_or_gt_of_ne e with q | q
        · exact Or.inr (hs4 j' j q hj)
        · exact Or.inl (hs4 j j' q hj')
      refine ⟨fun q => ?_, fun q => ?_, fun q => ?_, fun q => ?_⟩ <;> (have := hAq _ q; omega)
  · obtain ⟨c1, c2, c3, c4, c5⟩ := hb1 j' hj'
    refine ⟨c1, ?_, ?_, fun y hy => ⟨(c4 y hy).1, u2_le (c4 y hy).2 (Nat.le_refl 1)⟩, c5⟩
    · unfold u1; split <;> omega
    · by_cases e : j' = j
      · subst e; rw [u1_eq, u1_eq]; exact hc2
      · rw [u1_ne e, u1_ne e]; exact c3
  · obtain ⟨c1, c2, c3⟩ := hb2 i' hi'
    refine ⟨?_, ?_, c3⟩
    · unfold u1; split <;> omega
    · by_cases e : i' = i
      · subst e; rw [u1_eq, u1_eq]; exact ht2
      · rw [u1_ne e, u1_ne e]; exact c2
  · have := hs1 i' hi'; omega
  · have := hs2 j hj; omega
