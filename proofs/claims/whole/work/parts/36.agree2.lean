/-! answers agree, and the tie stays: answer, rank, level -/
section AG2
variable {sd : Int64} {nT nS : Nat} {td fd : Nat → Nat → Nat} {ta tr kd sp ca cr : Nat → Nat} {od aw rk : Nat → Nat → Nat} {mk ms ma mr mt : Nat → Nat}
theorem ag_answer (hT : Tie sd nT nS td fd ta tr kd sp ca cr od aw rk mk ms ma mr mt) (hn : nT ≤ 26) (hs : nS ≤ 40) (hok : ∀ j, j < nS → okN (mk j) (ms j)) (x y z : Int32) : ∃ (r : Nat) (ma2 : Nat → Nat) (aw2 : Nat → Nat → Nat) (ca2 cr2 ta2 tr2 : Nat → Nat),
    ((noS nS x → r = 0 ∧ aw2 = aw ∧ ca2 = ca ∧ cr2 = cr ∧ ta2 = ta ∧ tr2 = tr) ∧ (noT nT y → r = 0 ∧ aw2 = aw ∧ ca2 = ca ∧ cr2 = cr ∧ ta2 = ta ∧ tr2 = tr) ∧ (∀ j, j < nS → x = nI j → kd j = 3 → r = 0 ∧ aw2 = aw ∧ ca2 = ca ∧ cr2 = cr ∧ ta2 = ta ∧ tr2 = tr) ∧ (∀ j, j < nS → x = nI j → (z < 0 ∨ nI (sp j) ≤ z) → r = 0 ∧ aw2 = aw ∧ ca2 = ca ∧ cr2 = cr ∧ ta2 = ta ∧ tr2 = tr) ∧ (∀ j i, j < nS → i < nT → x = nI j → y = nI i → ¬ aw j i = 0 → r = 0 ∧ aw2 = aw ∧ ca2 = ca ∧ cr2 = cr ∧ ta2 = ta ∧ tr2 = tr) ∧ (∀ j i k, j < nS → i < nT → k < sp j → x = nI j → y = nI i → z = nI k → ¬ kd j = 3 → aw j i = 0 → (ca j + 1 ≤ 26 ∧ ta i + 1 ≤ 40) ∧ r = 1 ∧ aw2 = u2 aw j i 1 ∧ ca2 = u1 ca j (ca j + 1) ∧ ta2 = u1 ta i (ta i + 1) ∧ (k = rgtN (kd j) (od j i) → cr2 = u1 cr j (cr j + 1) ∧ tr2 = u1 tr i (tr i + 1)) ∧ (k ≠ rgtN (kd j) (od j i) → cr2 = u1 cr j (cr j) ∧ tr2 = u1 tr i (tr i)))) ∧
    ((noS nS x → r = 0 ∧ ma2 = ma) ∧ (noT nT y → r = 0 ∧ ma2 = ma) ∧ (∀ j, j < nS → x = nI j → mk j = 3 → r = 0 ∧ ma2 = ma) ∧ (∀ j, j < nS → x = nI j → (z < 0 ∨ nI (ms j) ≤ z) → r = 0 ∧ ma2 = ma) ∧ (∀ j i, j < nS → i < nT → x = nI j → y = nI i → ¬ ma (26 * j + i) = 0 → r = 0 ∧ ma2 = ma) ∧ (∀ j i k, j < nS → i < nT → k < ms j → x = nI j → y = nI i → z = nI k → ¬ mk j = 3 → ma (26 * j + i) = 0 → r = 1 ∧ ma2 = u1 ma (26 * j + i) (k + 1))) ∧
    Tie sd nT nS td fd ta2 tr2 kd sp ca2 cr2 od aw2 rk mk ms ma2 mr mt := by
  obtain ⟨v, hv⟩ : ∃ v : Nat → Nat → Nat → Nat, ∀ j i k, v j i k = if k = rgV sd (mk j) (ms j) j i then 1 else 0 := ⟨_, fun _ _ _ => rfl⟩
  obtain ⟨d, hd⟩ : ∃ d : Nat × (Nat → Nat) × (Nat → Nat → Nat) × (Nat → Nat) × (Nat → Nat) × (Nat → Nat) × (Nat → Nat), d = (0, ma, aw, ca, cr, ta, tr) := ⟨_, rfl⟩
  obtain ⟨G, hG⟩ : ∃ G : Nat → Nat → Nat → Nat × (Nat → Nat) × (Nat → Nat → Nat) × (Nat → Nat) × (Nat → Nat) × (Nat → Nat) × (Nat → Nat), ∀ j i k, G j i k = (1, u1 ma (26 * j + i) (k + 1), u2 aw j i 1, u1 ca j (ca j + 1), u1 cr j (cr j + v j i k), u1 ta i (ta i + 1), u1 tr i (tr i + v j i k)) := ⟨_, fun _ _ _ => rfl⟩
  obtain ⟨t, ht⟩ : ∃ t, t = pkd nS x d (fun j => pkd nT y d (fun i => if mk j = 3 ∨ ¬ ma (26 * j + i) = 0 then d else pkd (ms j) z d (fun k => G j i k))) := ⟨_, rfl⟩
  have n1 : noS nS x → t = d := fun h => by rw [ht]; exact pkd_noS hs h
  have n2 : noT nT y → t = d := fun h => by rw [ht]; exact pkd_const (fun j => pkd_noT hn h)
  have n3 : ∀ j, j < nS → x = nI j → mk j = 3 → t = d := fun j hj e h => by
    rw [ht, e, pkd_at hj (by omega)]
    exact pkd_const (fun i => if_pos (Or.inl h))
  have n4 : ∀ j, j < nS → x = nI j → (z < 0 ∨ nI (ms j) ≤ z) → t = d := fun j hj e h => by
    rw [ht, e, pkd_at hj (by omega)]
    refine pkd_const (fun i => ?_)
    split
    · rfl
    · exact pkd_bad h
  have n5 : ∀ j i, j < nS → i < nT → x = nI j → y = nI i → ¬ ma (26 * j + i) = 0 → t = d := fun j i hj hi e1 e2 h => by
    rw [ht, e1, pkd_at hj (by omega), e2, pkd_at hi (by omega), if_pos (Or.inr h)]
  have n6 : ∀ j i k, j < nS → i < nT → k < ms j → x = nI j → y = nI i → z = nI k → ¬ mk j = 3 → ma (26 * j + i) = 0 → t = G j i k := fun j i k hj hi hk e1 e2 e3 h3 h0 => by
    have h9 := (hok j hj).lt
    rw [ht, e1, pkd_at hj (by omega), e2, pkd_at hi (by omega), if_neg (fun h => h.elim h3 (fun q => q h0)), e3, pkd_at hk (by omega)]
  have dP : t = d → t.1 = 0 ∧ t.2.2.1 = aw ∧ t.2.2.2.1 = ca ∧ t.2.2.2.2.1 = cr ∧ t.2.2.2.2.2.1 = ta ∧ t.2.2.2.2.2.2 = tr := fun h => by
    rw [h, hd]
    exact ⟨rfl, rfl, rfl, rfl, rfl, rfl⟩
  have dM : t = d → t.1 = 0 ∧ t.2.1 = ma := fun h => by
    rw [h, hd]
    exact ⟨rfl, rfl⟩
  refine ⟨t.1, t.2.1, t.2.2.1, t.2.2.2.1, t.2.2.2.2.1, t.2.2.2.2.2.1, t.2.2.2.2.2.2, ⟨fun h => dP (n1 h), fun h => dP (n2 h), fun j hj e h => dP (n3 j hj e (by rw [← (hT.1 j hj).1]; exact h)), fun j hj e h => dP (n4 j hj e (by rw [← (hT.1 j hj).2.1]; exact h)), fun j i hj hi e1 e2 h => dP (n5 j i hj hi e1 e2 (fun q => h (((hT.1 j hj).2.2.2.1 i (by omega)).mpr q))), fun j i k hj hi hk e1 e2 e3 h3 h0 => ?_⟩, ⟨fun h => dM (n1 h), fun h => dM (n2 h), fun j hj e h => dM (n3 j hj e h), fun j hj e h => dM (n4 j hj e h), fun j i hj hi e1 e2 h => dM (n5 j i hj hi e1 e2 h), fun j i k hj hi hk e1 e2 e3 h3 h0 => ?_⟩, ?_⟩
  · obtain ⟨a1, a2, a3, a4, a5, a6, a7⟩ := hT.1 j hj
    rw [a2] at hk
    rw [a1] at h3
    have h0' := (a4 i (by omega)).mp h0
    rw [n6 j i k hj hi hk e1 e2 e3 h3 h0', hG]
    have e9 : rgV sd (mk j) (ms j) j i = rgtN (kd j) (od j i) := by rw [rgV, a1, a3 i (by omega)]
    refine ⟨tie_ub hT hj hi hn hs h3 h0', rfl, rfl, rfl, rfl, fun q => ?_, fun q => ?_⟩
    · show u1 cr j (cr j + v j i k) = _ ∧ u1 tr i (tr i + v j i k) = _
      rw [hv, e9, if_pos q]
      exact ⟨rfl, rfl⟩
    · show u1 cr j (cr j + v j i k) = _ ∧ u1 tr i (tr i + v j i k) = _
      rw [hv, e9, if_neg q]
      exact ⟨rfl, rfl⟩
  · rw [n6 j i k hj hi hk e1 e2 e3 h3 h0, hG]
    exact ⟨rfl, rfl⟩
  · rw [ht]
    have hTd : Tie sd nT nS td fd d.2.2.2.2.2.1 d.2.2.2.2.2.2 kd sp d.2.2.2.1 d.2.2.2.2.1 od d.2.2.1 rk mk ms d.2.1 mr mt := by
      rw [hd]
      exact hT
    refine pkd_ind (P := fun t : Nat × (Nat → Nat) × (Nat → Nat → Nat) × (Nat → Nat) × (Nat → Nat) × (Nat → Nat) × (Nat → Nat) => Tie sd nT nS td fd t.2.2.2.2.2.1 t.2.2.2.2.2.2 kd sp t.2.2.2.1 t.2.2.2.2.1 od t.2.2.1 rk mk ms t.2.1 mr mt) (by omega) hTd (fun j hj => ?_)
    refine pkd_ind (P := fun t : Nat × (Nat → Nat) × (Nat → Nat → Nat) × (Nat → Nat) × (Nat → Nat) × (Nat → Nat) × (Nat → Nat) => Tie sd nT nS td fd t.2.2.2.2.2.1 t.2.2.2.2.2.2 kd sp t.2.2.2.1 t.2.2.2.2.1 od t.2.2.1 rk mk ms t.2.1 mr mt) (by omega) hTd (fun i hi => ?_)
    by_cases h : mk j = 3 ∨ ¬ ma (26 * j + i) = 0
    · rw [if_pos h]
      exact hTd
    · rw [if_neg h]
      have h9 := (hok j hj).lt
      refine pkd_ind (P := fun t : Nat × (Nat → Nat) × (Nat → Nat → Nat) × (Nat → Nat) × (Nat → Nat) × (Nat → Nat) × (Nat → Nat) => Tie sd nT nS td fd t.2.2.2.2.2.1 t.2.2.2.2.2.2 kd sp t.2.2.2.1 t.2.2.2.2.1 od t.2.2.1 rk mk ms t.2.1 mr mt) (by omega) hTd (fun k hk => ?_)
      rw [hG]
      exact tie_answer hT hj hi hn (fun q => h (Or.inl q)) (Nat.eq_zero_of_not_pos (fun q => h (Or.inr (by omega)))) _ 0 (hv j i k)
theorem wbad {α : Type} {n : Nat} {w : Int32} {d : α} {X : Nat → Prop} {hX : ∀ v, Decidable (v = 0 ∨ X v)} {g : Nat → α} (hn : n < 1000) (h : w < nI 1 ∨ nI n < w) : pkd (n + 1) w d (fun v => @ite _ (v = 0 ∨ X v) (hX v) d (g v)) = d := by
  rcases pk_ix w (show n + 1 < 2 ^ 31 by omega) with q | q | ⟨v, hv, rfl⟩
  · exact pkd_bad (Or.inl q)
  · exact pkd_bad (Or.inr q)
  · rw [pkd_at hv (by omega)]
    rcases h with h | h
    · exact if_pos (Or.inl (by have := (nI_ltI (by omega) (by omega)).mp h; omega))
    · have := (nI_ltI (by omega) (by omega)).mp h
      omega
theorem fr_iff (hT : Tie sd nT nS td fd ta tr kd sp ca cr od aw rk mk ms ma mr mt) (hn : nT ≤ 26) (hs : nS ≤ 40) {j i k v : Nat} (hj : j < nS) (hi : i < nT) (hk : k < 5) (hv : 1 ≤ v) (h5 : ms j ≤ 5) : ¬ frB mr (5 * (26 * j + i)) k v 5 = 0 ↔ (rk j (i * 5 + k) = 0 ∧ ¬ ∃ n, n < sp j ∧ rk j (i * 5 + n) = v) := by
  obtain ⟨a1, a2, a3, a4, a5, a6, a7⟩ := hT.1 j hj
  have e : ∀ n, n < 5 → rk j (i * 5 + n) = mr (5 * (26 * j + i) + n) := fun n h => by
    rw [a5 _ (by omega), show 130 * j + (i * 5 + n) = 5 * (26 * j + i) + n by omega]
  rw [frB_iff, e k hk, a2]
  refine ⟨fun q => ⟨q.1, fun ⟨n, h1, h2⟩ => q.2 n (by omega) (by rw [← e n (by omega)]; exact h2)⟩, fun q => ⟨q.1, fun n h1 h2 => ?_⟩⟩
  by_cases h3 : n < ms j
  · exact q.2 ⟨n, h3, by rw [e n h1]; exact h2⟩
  · have := hT.2.2.2.1 j i n (by omega) (by omega) h1 (Or.inr (Or.inr (by omega)))
    rw [show 130 * j + (i * 5 + n) = 5 * (26 * j + i) + n by omega, h2] at this
    omega
theorem ag_rank (hT : Tie sd nT nS td fd ta tr kd sp ca cr od aw rk mk ms ma mr mt) (hn : nT ≤ 26) (hs : nS ≤ 40) (hok : ∀ j, j < nS → okN (mk j) (ms j)) (x y z w : Int32) : ∃ (r : Nat) (mr2 : Nat → Nat) (rk2 : Nat → Nat → Nat),
    ((noS nS x → r = 0 ∧ rk2 = rk) ∧ (noT nT y → r = 0 ∧ rk2 = rk) ∧ (∀ j, j < nS → x = nI j → ¬ kd j = 3 → r = 0 ∧ rk2 = rk) ∧ (∀ j, j < nS → x = nI j → (z < 0 ∨ nI (sp j) ≤ z) → r = 0 ∧ rk2 = rk) ∧ (∀ j, j < nS → x = nI j → (w < nI 1 ∨ nI (sp j) < w) → r = 0 ∧ rk2 = rk) ∧ (∀ j i k v, j < nS → i < nT → k < sp j → x = nI j → y = nI i → z = nI k → w = nI v → 1 ≤ v → v ≤ sp j → (¬ rk j (i * 5 + k) = 0 ∨ ∃ n, n < sp j ∧ rk j (i * 5 + n) = v) → r = 0 ∧ rk2 = rk) ∧ (∀ j i k v, j < nS → i < nT → k < sp j → x = nI j → y = nI i → z = nI k → w = nI v → 1 ≤ v → v ≤ sp j → kd j = 3 → rk j (i * 5 + k) = 0 → (¬ ∃ n, n < sp j ∧ rk j (i * 5 + n) = v) → r = 1 ∧ rk2 = u2 rk j (i * 5 + k) v)) ∧
    ((noS nS x → r = 0 ∧ mr2 = mr) ∧ (noT nT y → r = 0 ∧ mr2 = mr) ∧ (∀ j, j < nS → x = nI j → ¬ mk j = 3 → r = 0 ∧ mr2 = mr) ∧ (∀ j, j < nS → x = nI j → (z < 0 ∨ nI (ms j) ≤ z) → r = 0 ∧ mr2 = mr) ∧ (∀ j, j < nS → x = nI j → (w < nI 1 ∨ nI (ms j) < w) → r = 0 ∧ mr2 = mr) ∧ (∀ j i k v, j < nS → i < nT → k < ms j → x = nI j → y = nI i → z = nI k → w = nI v → 1 ≤ v → v ≤ ms j → frB mr (5 * (26 * j + i)) k v 5 = 0 → r = 0 ∧ mr2 = mr) ∧ (∀ j i k v, j < nS → i < nT → k < ms j → x = nI j → y = nI i → z = nI k → w = nI v → 1 ≤ v → v ≤ ms j → mk j = 3 → ¬ frB mr (5 * (26 * j + i)) k v 5 = 0 → r = 1 ∧ mr2 = u1 mr (5 * (26 * j + i) + k) v)) ∧
    Tie sd nT nS td fd ta tr kd sp ca cr od aw rk2 mk ms ma mr2 mt := by
  obtain ⟨d, hd⟩ : ∃ d : Nat × (Nat → Nat) × (Nat → Nat → Nat), d = (0, mr, rk) := ⟨_, rfl⟩
  obtain ⟨G, hG⟩ : ∃ G : Nat → Nat → Nat → Nat → Nat × (Nat → Nat) × (Nat → Nat → Nat), ∀ j i k v, G j i k v = (1, u1 mr (5 * (26 * j + i) + k) v, u2 rk j (i * 5 + k) v) := ⟨_, fun _ _ _ _ => rfl⟩
  obtain ⟨t, ht⟩ : ∃ t, t = pkd nS x d (fun j => if ¬ mk j = 3 then d else pkd nT y d (fun i => pkd (ms j) z d (fun k => pkd (ms j + 1) w d (fun v => if v = 0 ∨ frB mr (5 * (26 * j + i)) k v 5 = 0 then d else G j i k v)))) := ⟨_, rfl⟩
  have n1 : noS nS x → t = d := fun h => by rw [ht]; exact pkd_noS hs h
  have n2 : noT nT y → t = d := fun h => by
    rw [ht]
    refine pkd_const (fun j => ?_)
    split
    · rfl
    · exact pkd_noT hn h
  have n3 : ∀ j, j < nS → x = nI j → ¬ mk j = 3 → t = d := fun j hj e h => by rw [ht, e, pkd_at hj (by omega), if_pos h]
  have n4 : ∀ j, j < nS → x = nI j → (z < 0 ∨ nI (ms j) ≤ z) → t = d := fun j hj e h => by
    rw [ht, e, pkd_at hj (by omega)]
    split
    · rfl
    · exact pkd_const (fun i => pkd_bad h)
  have n5 : ∀ j, j < nS → x = nI j → (w < nI 1 ∨ nI (ms j) < w) → t = d := fun j hj e h => by
    have h9 := (hok j hj).lt
    rw [ht, e, pkd_at hj (by omega)]
    split
    · rfl
    · exact pkd_const (fun i => pkd_const (fun k => wbad (by omega) h))
  have n6 : ∀ j i k v, j < nS → i < nT → k < ms j → x = nI j → y = nI i → z = nI k → w = nI v → 1 ≤ v → v ≤ ms j → frB mr (5 * (26 * j + i)) k v 5 = 0 → t = d := fun j i k v hj hi hk e1 e2 e3 e4 h1 h2 h => by
    have h9 := (hok j hj).lt
    rw [ht, e1, pkd_at hj (by omega)]
    split
    · rfl
    · rw [e2, pkd_at hi (by omega), e3, pkd_at hk (by omega), e4, pkd_at (show v < ms j + 1 by omega) (by omega), if_pos (Or.inr h)]
  have n7 : ∀ j i k v, j < nS → i < nT → k < ms j → x = nI j → y = nI i → z = nI k → w = nI v → 1 ≤ v → v ≤ ms j → mk j = 3 → ¬ frB mr (5 * (26 * j + i)) k v 5 = 0 → t = G j i k v := fun j i k v hj hi hk e1 e2 e3 e4 h1 h2 h3 h => by
    have h9 := (hok j hj).lt
    rw [ht, e1, pkd_at hj (by omega), if_neg (fun q => q h3), e2, pkd_at hi (by omega), e3, pkd_at hk (by omega), e4, pkd_at (show v < ms j + 1 by omega) (by omega), if_neg (fun q => q.elim (fun q => by omega) h)]
  have dP : t = d → t.1 = 0 ∧ t.2.2 = rk := fun h => by rw [h, hd]; exact ⟨rfl, rfl⟩
  have dM : t = d → t.1 = 0 ∧ t.2.1 = mr := fun h => by rw [h, hd]; exact ⟨rfl, rfl⟩
  have sj : ∀ j, j < nS → sp j = ms j := fun j hj => (hT.1 j hj).2.1
  have fr : ∀ j i k v, j < nS → i < nT → k < ms j → 1 ≤ v → (¬ frB mr (5 * (26 * j + i)) k v 5 = 0 ↔ (rk j (i * 5 + k) = 0 ∧ ¬ ∃ n, n < sp j ∧ rk j (i * 5 + n) = v)) := fun j i k v hj hi hk hv => by
    have h9 := (hok j hj).lt
    exact fr_iff hT hn hs hj hi (by omega) hv (by omega)
  refine ⟨t.1, t.2.1, t.2.2, ⟨fun h => dP (n1 h), fun h => dP (n2 h), fun j hj e h => dP (n3 j hj e (by rw [← (hT.1 j hj).1]; exact h)), fun j hj e h => dP (n4 j hj e (by rw [← sj j hj]; exact h)), fun j hj e h => dP (n5 j hj e (by rw [← sj j hj]; exact h)), fun j i k v hj hi hk e1 e2 e3 e4 h1 h2 h => ?_, fun j i k v hj hi hk e1 e2 e3 e4 h1 h2 h3 h4 h5 => ?_⟩, ⟨fun h => dM (n1 h), fun h => dM (n2 h), fun j hj e h => dM (n3 j hj e h), fun j hj e h => dM (n4 j hj e h), fun j hj e h => dM (n5 j hj e h), fun j i k v hj hi hk e1 e2 e3 e4 h1 h2 h => dM (n6 j i k v hj hi hk e1 e2 e3 e4 h1 h2 h), fun j i k v hj hi hk e1 e2 e3 e4 h1 h2 h3 h => by rw [n7 j i k v hj hi hk e1 e2 e3 e4 h1 h2 h3 h, hG]; exact ⟨rfl, rfl⟩⟩, ?_⟩
  · have hk' : k < ms j := by rw [← sj j hj]; exact hk
    have h2' : v ≤ ms j := by rw [← sj j hj]; exact h2
    refine dP (n6 j i k v hj hi hk' e1 e2 e3 e4 h1 h2' ?_)
    have q := fr j i k v hj hi hk' h1
    by_cases g : frB mr (5 * (26 * j + i)) k v 5 = 0
    · exact g
    · exact absurd h (fun h => h.elim (fun q2 => q2 (q.mp g).1) (q.mp g).2)
  · have hk' : k < ms j := by rw [← sj j hj]; exact hk
    have h2' : v ≤ ms j := by rw [← sj j hj]; exact h2
    rw [n7 j i k v hj hi hk' e1 e2 e3 e4 h1 h2' (by rw [← (hT.1 j hj).1]; exact h3) ((fr j i k v hj hi hk' h1).mpr ⟨h4, h5⟩), hG]
    exact ⟨rfl, rfl⟩
  · rw [ht]
    have hTd : Tie sd nT nS td fd ta tr kd sp ca cr od aw d.2.2 mk ms ma d.2.1 mt := by rw [hd]; exact hT
    refine pkd_ind (P := fun t : Nat × (Nat → Nat) × (Nat → Nat → Nat) => Tie sd nT nS td fd ta tr kd sp ca cr od aw t.2.2 mk ms ma t.2.1 mt) (by omega) hTd (fun j hj => ?_)
    have h9 := (hok j hj).lt
    by_cases h : ¬ mk j = 3
    · rw [if_pos h]
      exact hTd
    · rw [if_neg h]
      refine pkd_ind (P := fun t : Nat × (Nat → Nat) × (Nat → Nat → Nat) => Tie sd nT nS td fd ta tr kd sp ca cr od aw t.2.2 mk ms ma t.2.1 mt) (by omega) hTd (fun i hi => ?_)
      refine pkd_ind (P := fun t : Nat × (Nat → Nat) × (Nat → Nat → Nat) => Tie sd nT nS td fd ta tr kd sp ca cr od aw t.2.2 mk ms ma t.2.1 mt) (by omega) hTd (fun k hk => ?_)
      refine pkd_ind (P := fun t : Nat × (Nat → Nat) × (Nat → Nat → Nat) => Tie sd nT nS td fd ta tr kd sp ca cr od aw t.2.2 mk ms ma t.2.1 mt) (by omega) hTd (fun v hv => ?_)
      by_cases h2 : v = 0 ∨ frB mr (5 * (26 * j + i)) k v 5 = 0
      · rw [if_pos h2]
        exact hTd
      · rw [if_neg h2, hG]
        exact tie_rank hT hj hi hk (by omega) hn v
theorem ag_level (hT : Tie sd nT nS td fd ta tr kd sp ca cr od aw rk mk ms ma mr mt) (hn : nT ≤ 26) (x y : Int32) (z : Nat) (hz : z ≤ 1) : ∃ (r : Nat) (td2 fd2 : Nat → Nat → Nat) (mt2 : Nat → Nat),
    (((noT nT x ∨ y < 0 ∨ nI 16 ≤ y) → r = 0 ∧ td2 = td ∧ fd2 = fd) ∧ (∀ i k, i < nT → k < 16 → x = nI i → y = nI k → r = 1 ∧ td2 = u2 td i k 1 ∧ fd2 = u2 fd i k z)) ∧
    (((noT nT x ∨ y < 0 ∨ nI 16 ≤ y) → r = 0 ∧ mt2 = mt) ∧ (∀ i k, i < nT → k < 16 → x = nI i → y = nI k → r = 1 ∧ mt2 = u1 mt (16 * i + k) (z + 1))) ∧
    Tie sd nT nS td2 fd2 ta tr kd sp ca cr od aw rk mk ms ma mr mt2 := by
  obtain ⟨d, hd⟩ : ∃ d : Nat × (Nat → Nat → Nat) × (Nat → Nat → Nat) × (Nat → Nat), d = (0, td, fd, mt) := ⟨_, rfl⟩
  obtain ⟨G, hG⟩ : ∃ G : Nat → Nat → Nat × (Nat → Nat → Nat) × (Nat → Nat → Nat) × (Nat → Nat), ∀ i k, G i k = (1, u2 td i k 1, u2 fd i k z, u1 mt (16 * i + k) (z + 1)) := ⟨_, fun _ _ => rfl⟩
  obtain ⟨t, ht⟩ : ∃ t, t = pkd nT x d (fun i => pkd 16 y d (fun k => G i k)) := ⟨_, rfl⟩
  have n0 : (noT nT x ∨ y < 0 ∨ nI 16 ≤ y) → t = d := fun h => by
    rw [ht]
    rcases h with h | h
    · exact pkd_noT hn h
    · exact pkd_const (fun i => pkd_bad h)
  have n1 : ∀ i k, i < nT → k < 16 → x = nI i → y = nI k → t = G i k := fun i k hi hk e1 e2 => by
    rw [ht, e1, pkd_at hi (by omega), e2, pkd_at hk (by decide)]
  refine ⟨t.1, t.2.1, t.2.2.1, t.2.2.2, ⟨fun h => by rw [n0 h, hd]; exact ⟨rfl, rfl, rfl⟩, fun i k hi hk e1 e2 => by rw [n1 i k hi hk e1 e2, hG]; exact ⟨rfl, rfl, rfl⟩⟩, ⟨fun h => by rw [n0 h, hd]; exact ⟨rfl, rfl⟩, fun i k hi hk e1 e2 => by rw [n1 i k hi hk e1 e2, hG]; exact ⟨rfl, rfl⟩⟩, ?_⟩
  rw [ht]
  have hTd : Tie sd nT nS d.2.1 d.2.2.1 ta tr kd sp ca cr od aw rk mk ms ma mr d.2.2.2 := by rw [hd]; exact hT
  refine pkd_ind (P := fun t : Nat × (Nat → Nat → Nat) × (Nat → Nat → Nat) × (Nat → Nat) => Tie sd nT nS t.2.1 t.2.2.1 ta tr kd sp ca cr od aw rk mk ms ma mr t.2.2.2) (by omega) hTd (fun i hi => ?_)
  refine pkd_ind (P := fun t : Nat × (Nat → Nat → Nat) × (Nat → Nat → Nat) × (Nat → Nat) => Tie sd nT nS t.2.1 t.2.2.1 ta tr kd sp ca cr od aw rk mk ms ma mr t.2.2.2) (by decide) hTd (fun k hk => ?_)
  rw [hG]
  exact tie_level hT hi hk hz
end AG2
/-! the two states lie apart -/
def Sep (base a nT nS : Nat) (bT bS : Nat → Nat) : Prop := base = a ∧ (∀ i, i < nT → a + 15 ≤ bT i) ∧ ∀ j, j < nS → a + 15 ≤ bS j
section SEP
variable {D : va_G} {κ : Nat → ClassId} {base a : Nat} {sd : Int64} {nT nS th : Nat} {bT bS : Nat → Nat} {td fd : Nat → Nat → Nat} {ta tr kd sp ca cr : Nat → Nat} {od aw rk : Nat → Nat → Nat} {mk ms ma mr mt : Nat → Nat} {H H1 : Heap}
theorem RC.ownB (hR : RC D κ base a sd nT nS bT bS td fd ta tr kd sp ca cr od aw rk H) : ∀ q, OwnC a nT nS bT bS H.size q → base ≤ q := by
  obtain ⟨-, -, -, ⟨h1, h2, h3, h4⟩, -, -, h5, h6, -⟩ := hR
  rintro q (h | ⟨i, hi, h⟩ | ⟨j, hj, h⟩ | h)
  · omega
  · have := h5 i hi; omega
  · have := h6 j hj; omega
  · omega
theorem RMo.ownB {b : Nat} (hR : RMo D κ base b sd nT nS mk ms ma mr mt th H) : ∀ q, OwnM b H.size q → base ≤ q := by
  obtain ⟨-, ⟨h1, h2, h3, h4, h5⟩, -⟩ := hR
  rintro q (h | h) <;> omega
theorem RMo.keep (hR : RMo D κ base (a + 5) sd nT nS mk ms ma mr mt th H) (hsz : H.size ≤ H1.size) (hk : ∀ q : Nat, a + 5 ≤ q → q < a + 14 → H1[q]? = H[q]?) : RMo D κ base (a + 5) sd nT nS mk ms ma mr mt th H1 := by
  obtain ⟨⟨F, wy, nx, hP⟩, ⟨h1, h2, h3, h4, h5⟩, h6⟩ := hR
  refine ⟨⟨F, wy, nx, hP.kept (fun k q hq => hk q.1 ?_ ?_)⟩, ⟨h1, h2, h3, by omega, h5⟩, h6⟩
  all_goals
    have hz : k < 9 := (List.getElem?_eq_some_iff.mp hq).1
    rcases (show k = 0 ∨ k = 1 ∨ k = 2 ∨ k = 3 ∨ k = 4 ∨ k = 5 ∨ k = 6 ∨ k = 7 ∨ k = 8 by omega) with rfl | rfl | rfl | rfl | rfl | rfl | rfl | rfl | rfl <;> (cases hq; dsimp only; omega)
theorem RC.keep (hR : RC D κ base a sd nT nS bT bS td fd ta tr kd sp ca cr od aw rk H) (hS : Sep base a nT nS bT bS) (hsz : H.size ≤ H1.size) (hk : ∀ q : Nat, q < H.size → (q < a + 5 ∨ a + 15 ≤ q) → H1[q]? = H[q]?) : RC D κ base a sd nT nS bT bS td fd ta tr kd sp ca cr od aw rk H1 := by
  obtain ⟨⟨fT, fS, mx, sw, hP0, hfT, hfS⟩, hTas, hTes, ⟨hnT, hnS, hba, hah⟩, hb1, hb2, hs1, hs2, hs3⟩ := hR
  refine ⟨⟨fT, fS, mx, sw, hP0.kept (fun k q hq => hk q.1 ((hP0 k q hq).lt) (Or.inl ?_)), hfT, hfS⟩, fun i hi => (hTas i hi).kept (fun k q hq => hk q.1 (((hTas i hi) k q hq).lt) (Or.inr ?_)), fun j hj => (hTes j hj).kept (fun k q hq => hk q.1 (((hTes j hj) k q hq).lt) (Or.inr ?_)), ⟨hnT, hnS, hba, by omega⟩, hb1, hb2, fun i hi => ?_, fun j hj => ?_, hs3⟩
  · have hz : k < 5 := (List.getElem?_eq_some_iff.mp hq).1
    rcases (show k = 0 ∨ k = 1 ∨ k = 2 ∨ k = 3 ∨ k = 4 by omega) with rfl | rfl | rfl | rfl | rfl <;> (cases hq; dsimp only; omega)
  · have hz : k < 3 := (List.getElem?_eq_some_iff.mp hq).1
    have h9 := hS.2.1 i hi
    rcases (show k = 0 ∨ k = 1 ∨ k = 2 by omega) with rfl | rfl | rfl <;> (cases hq; dsimp only; omega)
  · have hz : k < 4 := (List.getElem?_eq_some_iff.mp hq).1
    have h9 := hS.2.2 j hj
    rcases (show k = 0 ∨ k = 1 ∨ k = 2 ∨ k = 3 by omega) with rfl | rfl | rfl | rfl <;> (cases hq; dsimp only; omega)
  · have := hs1 i hi; omega
  · have := hs2 j hj; omega
theorem FrC.apart (hS : Sep base a nT nS bT bS) (hz : a + 15 ≤ H.size) (hF : FrC a nT nS bT bS H H1) : ∀ q : Nat, a + 5 ≤ q → q < a + 15 → H1[q]? = H[q]? := by
  intro q h1 h2
  refine hF.2 q (by omega) ?_
  rintro (h | ⟨i, hi, h⟩ | ⟨j, hj, h⟩ | h)
  · omega
  · have := hS.2.1 i hi; omega
  · have := hS.2.2 j hj; omega
  · omega
theorem FrM.apart (hF : FrM (a + 5) H H1) : ∀ q : Nat, q < H.size → (q < a + 5 ∨ a + 14 ≤ q) → H1[q]? = H[q]? := by
  intro q h1 h2
  refine hF.2 q h1 ?_
  rintro (h | h) <;> omega
end SEP
