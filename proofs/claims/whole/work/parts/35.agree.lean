/-! answers agree -/
def pkd {α : Type} (n : Nat) (x : Int32) (d : α) (f : Nat → α) : α := if x < 0 ∨ nI n ≤ x then d else f x.toNatClampNeg
section PK
variable {α : Type} {n j : Nat} {x : Int32} {d : α} {f : Nat → α}
theorem pkd_bad (h : x < 0 ∨ nI n ≤ x) : pkd n x d f = d := if_pos h
theorem pkd_at (hj : j < n) (hn : n < 2 ^ 31) : pkd n (nI j) d f = f j := by
  unfold pkd
  rw [if_neg (fun h => at_out hn hj h rfl), nI_clamp (by omega)]
theorem pkd_const (h : ∀ j, f j = d) : pkd n x d f = d := by
  unfold pkd
  split
  · rfl
  · exact h _
theorem pkd_noS (hn : n ≤ 40) (h : noS n x) : pkd n x d f = d := by
  refine pkd_bad ?_
  rcases h with (h | h) | ⟨j, hj, rfl, h⟩
  · exact Or.inl h
  · exact Or.inr (Int32.le_trans ((nI_leI (by omega) (by omega)).mpr hn) h)
  · exact Or.inr ((nI_leI (by omega) (by omega)).mpr h)
theorem pkd_noT (hn : n ≤ 26) (h : noT n x) : pkd n x d f = d := by
  refine pkd_bad ?_
  rcases h with (h | h) | ⟨j, hj, rfl, h⟩
  · exact Or.inl h
  · exact Or.inr (Int32.le_trans ((nI_leI (by omega) (by omega)).mpr hn) h)
  · exact Or.inr ((nI_leI (by omega) (by omega)).mpr h)
theorem pkd_ind {P : α → Prop} (hn : n < 2 ^ 31) (h0 : P d) (h1 : ∀ j, j < n → P (f j)) : P (pkd n x d f) := by
  rcases pk_ix x hn with h | h | ⟨j, hj, rfl⟩
  · rw [pkd_bad (Or.inl h)]; exact h0
  · rw [pkd_bad (Or.inr h)]; exact h0
  · rw [pkd_at hj hn]; exact h1 j hj
end PK
theorem part_bad {y : Int32} (h : ¬ y = 0 ∧ ¬ y = 1) : y < 0 ∨ nI 2 ≤ y := by
  rcases pk_ix y (show 2 < 2 ^ 31 by decide) with q | q | ⟨j, hj, rfl⟩
  · exact Or.inl q
  · exact Or.inr q
  · rcases (show j = 0 ∨ j = 1 by omega) with rfl | rfl
    · exact absurd rfl h.1
    · exact absurd rfl h.2
section AG
variable {sd : Int64} {nT nS : Nat} {td fd : Nat → Nat → Nat} {ta tr kd sp ca cr : Nat → Nat} {od aw rk : Nat → Nat → Nat} {mk ms ma mr mt : Nat → Nat}
theorem ag_right (hT : Tie sd nT nS td fd ta tr kd sp ca cr od aw rk mk ms ma mr mt) (hs : nS ≤ 40) (x : Int32) : ∃ r : Int32, ((noS nS x → r = -1) ∧ (∀ j, j < nS → x = nI j → kd j = 3 → r = -1) ∧ (∀ j, j < nS → x = nI j → ¬ kd j = 3 → r = nI (cr j))) ∧
    ((noS nS x → r = -1) ∧ (∀ j, j < nS → x = nI j → mk j = 3 → r = -1) ∧ (∀ j, j < nS → x = nI j → ¬ mk j = 3 → r = nI (cnR ma (rgV sd (mk j) (ms j) j) j nT))) := by
  refine ⟨pkd nS x (-1) (fun j => if mk j = 3 then -1 else nI (cnR ma (rgV sd (mk j) (ms j) j) j nT)), ⟨fun h => pkd_noS hs h, fun j hj e h => ?_, fun j hj e h => ?_⟩, fun h => pkd_noS hs h, fun j hj e h => ?_, fun j hj e h => ?_⟩
  · obtain ⟨a1, a2, a3, a4, a5, a6, a7⟩ := hT.1 j hj
    rw [e, pkd_at hj (by omega), if_pos (by rw [← a1]; exact h)]
  · obtain ⟨a1, a2, a3, a4, a5, a6, a7⟩ := hT.1 j hj
    rw [e, pkd_at hj (by omega), if_neg (by rw [← a1]; exact h), a7, cnR_tot]
  · rw [e, pkd_at hj (by omega), if_pos h]
  · rw [e, pkd_at hj (by omega), if_neg h]
theorem ag_order (hT : Tie sd nT nS td fd ta tr kd sp ca cr od aw rk mk ms ma mr mt) (hn : nT ≤ 26) (hs : nS ≤ 40) (hok : ∀ j, j < nS → okN (mk j) (ms j)) (x y z : Int32) : ∃ r : Int32,
    ((noS nS x → r = -1) ∧ (noT nT y → r = -1) ∧ (∀ j, j < nS → x = nI j → (z < 0 ∨ nI (srvN (kd j) (sp j)) ≤ z) → r = -1) ∧ (∀ j i k, j < nS → i < nT → x = nI j → y = nI i → z = nI k → k < srvN (kd j) (sp j) → r = srvI (kd j) (sp j) (od j i) k)) ∧
    ((noS nS x → r = -1) ∧ (noT nT y → r = -1) ∧ (∀ j, j < nS → x = nI j → (z < 0 ∨ nI (srvN (mk j) (ms j)) ≤ z) → r = -1) ∧ (∀ j i k, j < nS → i < nT → x = nI j → y = nI i → z = nI k → k < srvN (mk j) (ms j) → r = srvI (mk j) (ms j) (ordv (cntO (mk j) (ms j)) sd j i) k)) := by
  have m2 : ∀ j, j < nS → x = nI j → (z < 0 ∨ nI (srvN (mk j) (ms j)) ≤ z) → pkd nS x (-1) (fun j => pkd nT y (-1) (fun i => pkd (srvN (mk j) (ms j)) z (-1) (fun k => srvI (mk j) (ms j) (ordv (cntO (mk j) (ms j)) sd j i) k))) = -1 := fun j hj e h => by
    rw [e, pkd_at hj (by omega)]
    exact pkd_const (fun i => pkd_bad h)
  have m3 : ∀ j i k, j < nS → i < nT → x = nI j → y = nI i → z = nI k → k < srvN (mk j) (ms j) → pkd nS x (-1) (fun j => pkd nT y (-1) (fun i => pkd (srvN (mk j) (ms j)) z (-1) (fun k => srvI (mk j) (ms j) (ordv (cntO (mk j) (ms j)) sd j i) k))) = srvI (mk j) (ms j) (ordv (cntO (mk j) (ms j)) sd j i) k := fun j i k hj hi e1 e2 e3 hk => by
    have h9 : srvN (mk j) (ms j) < 2 ^ 31 := by
      have := (hok j hj).lt
      unfold srvN
      split <;> omega
    rw [e1, pkd_at hj (by omega), e2, pkd_at hi (by omega), e3, pkd_at hk h9]
  refine ⟨_, ⟨fun h => pkd_noS hs h, fun h => pkd_const (fun j => pkd_noT hn h), fun j hj e h => ?_, fun j i k hj hi e1 e2 e3 hk => ?_⟩, fun h => pkd_noS hs h, fun h => pkd_const (fun j => pkd_noT hn h), m2, m3⟩
  · obtain ⟨a1, a2, a3, a4, a5, a6, a7⟩ := hT.1 j hj
    rw [a1, a2] at h
    exact m2 j hj e h
  · obtain ⟨a1, a2, a3, a4, a5, a6, a7⟩ := hT.1 j hj
    rw [a1, a2] at hk ⊢
    rw [a3 i (by omega)]
    exact m3 j i k hj hi e1 e2 e3 hk
theorem ag_chance (hT : Tie sd nT nS td fd ta tr kd sp ca cr od aw rk mk ms ma mr mt) (hn : nT ≤ 26) (hs : nS ≤ 40) (hok : ∀ j, j < nS → okN (mk j) (ms j)) (x y : Int32) : ∃ r : Int64,
    ((noS nS x → r = -1) ∧ (∀ j, j < nS → x = nI j → (kd j = 3 ∨ ca j = 0) → r = -1) ∧ ((¬ y = 0 ∧ ¬ y = 1) → r = -1) ∧ (∀ j p, j < nS → x = nI j → ¬ kd j = 3 → ¬ ca j = 0 → p < 2 → y = nI p → r = lN (rdp (pw_ways (cr j) (ca j) (sp j)) (sp j ^ ca j) p))) ∧
    ((noS nS x → r = -1) ∧ (∀ j, j < nS → x = nI j → (mk j = 3 ∨ cnA ma j nT = 0) → r = -1) ∧ ((¬ y = 0 ∧ ¬ y = 1) → r = -1) ∧ (∀ j p, j < nS → x = nI j → ¬ mk j = 3 → ¬ cnA ma j nT = 0 → p < 2 → y = nI p → r = lN ((if p = 0 then atl (cnA ma j nT) (cnR ma (rgV sd (mk j) (ms j) j) j nT) (if mk j = 0 then 3 else 2) else (if mk j = 0 then 3 else 2) ^ cnA ma j nT) / Nat.gcd ((if mk j = 0 then 3 else 2) ^ cnA ma j nT) (atl (cnA ma j nT) (cnR ma (rgV sd (mk j) (ms j) j) j nT) (if mk j = 0 then 3 else 2))))) := by
  obtain ⟨V, hV⟩ : ∃ V : Nat → Nat → Int64, ∀ j p, V j p = lN ((if p = 0 then atl (cnA ma j nT) (cnR ma (rgV sd (mk j) (ms j) j) j nT) (if mk j = 0 then 3 else 2) else (if mk j = 0 then 3 else 2) ^ cnA ma j nT) / Nat.gcd ((if mk j = 0 then 3 else 2) ^ cnA ma j nT) (atl (cnA ma j nT) (cnR ma (rgV sd (mk j) (ms j) j) j nT) (if mk j = 0 then 3 else 2))) := ⟨_, fun _ _ => rfl⟩
  have m0 : noS nS x → pkd nS x (-1) (fun j => if mk j = 3 ∨ cnA ma j nT = 0 then -1 else pkd 2 y (-1) (fun p => V j p)) = -1 := fun h => pkd_noS hs h
  have m1 : ∀ j, j < nS → x = nI j → (mk j = 3 ∨ cnA ma j nT = 0) → pkd nS x (-1) (fun j => if mk j = 3 ∨ cnA ma j nT = 0 then -1 else pkd 2 y (-1) (fun p => V j p)) = -1 := fun j hj e h => by
    rw [e, pkd_at hj (by omega), if_pos h]
  have m2 : (¬ y = 0 ∧ ¬ y = 1) → pkd nS x (-1) (fun j => if mk j = 3 ∨ cnA ma j nT = 0 then -1 else pkd 2 y (-1) (fun p => V j p)) = -1 := fun h => pkd_const (fun j => by
    split
    · rfl
    · exact pkd_bad (part_bad h))
  have m3 : ∀ j p, j < nS → x = nI j → ¬ mk j = 3 → ¬ cnA ma j nT = 0 → p < 2 → y = nI p → pkd nS x (-1) (fun j => if mk j = 3 ∨ cnA ma j nT = 0 then -1 else pkd 2 y (-1) (fun p => V j p)) = V j p := fun j p hj e h1 h2 hp e2 => by
    rw [e, pkd_at hj (by omega), if_neg (fun h => h.elim h1 h2), e2, pkd_at hp (by decide)]
  refine ⟨_, ⟨m0, fun j hj e h => ?_, m2, fun j p hj e h1 h2 hp e2 => ?_⟩, m0, m1, m2, fun j p hj e h1 h2 hp e2 => by rw [m3 j p hj e h1 h2 hp e2, hV]⟩
  · obtain ⟨a1, a2, a3, a4, a5, a6, a7⟩ := hT.1 j hj
    rw [a1, a6, ← cnA_tot] at h
    exact m1 j hj e h
  · obtain ⟨a1, a2, a3, a4, a5, a6, a7⟩ := hT.1 j hj
    rw [a1] at h1
    rw [a6, ← cnA_tot] at h2
    rw [m3 j p hj e h1 h2 hp e2, hV, a2, a6, a7, ← cnA_tot, ← cnR_tot]
    have h3 : (if mk j = 0 then 3 else 2) = ms j := by
      have h := hok j hj
      unfold okN at h
      split <;> omega
    rw [h3]
    have h4 : cnR ma (rgV sd (mk j) (ms j) j) j nT ≤ cnA ma j nT := by
      rw [cnR_tot, cnA_tot]
      refine tot_le2 (fun z => ?_) nT
      simp only [g_R, g_A]
      split
      · rename_i h; rw [if_pos h.1]; exact Nat.le_refl _
      · omega
    have h5 : cnA ma j nT ≤ nT := by
      rw [cnA_tot]
      exact tot_ub (fun z => by simp only [g_A]; split <;> omega) nT
    have h6 := (hok j hj).lt
    rw [pw_atl (ms j) (by omega), rdp_eq p (atl_le _ _ _ (by omega)) (pow5_lt (by omega) (by omega))]
theorem ag_perm (hT : Tie sd nT nS td fd ta tr kd sp ca cr od aw rk mk ms ma mr mt) (hn : nT ≤ 26) (hs : nS ≤ 40) (hok : ∀ j, j < nS → okN (mk j) (ms j)) (x y : Int32) : ∃ r : Int64,
    ((noS nS x → r = -1) ∧ (∀ j, j < nS → x = nI j → ¬ kd j = 3 → r = -1) ∧ ((¬ y = 0 ∧ ¬ y = 1) → r = -1) ∧ (∀ j, j < nS → x = nI j → rkC (rk j) (sp j) 26 = 0 → r = -1) ∧ (∀ j p, j < nS → x = nI j → kd j = 3 → p < 2 → y = nI p → ¬ rkC (rk j) (sp j) 26 = 0 → r = lN (rdp (wfC (rkS (rk j) (sp j) 26) (rkC (rk j) (sp j) 26) (sp j)) (sp j ^ rkC (rk j) (sp j) 26) p))) ∧
    ((noS nS x → r = -1) ∧ (∀ j, j < nS → x = nI j → ¬ mk j = 3 → r = -1) ∧ ((¬ y = 0 ∧ ¬ y = 1) → r = -1) ∧ (∀ j, j < nS → x = nI j → rkC (fun x => mr (130 * j + x)) (ms j) nT = 0 → r = -1) ∧ (∀ j q, j < nS → x = nI j → mk j = 3 → q < 2 → y = nI q → ¬ rkC (fun x => mr (130 * j + x)) (ms j) nT = 0 → r = lN ((if q = 0 then wfM (rkS (fun x => mr (130 * j + x)) (ms j) nT) (rkC (fun x => mr (130 * j + x)) (ms j) nT) (ms j) else ms j ^ rkC (fun x => mr (130 * j + x)) (ms j) nT) / Nat.gcd (ms j ^ rkC (fun x => mr (130 * j + x)) (ms j) nT) (wfM (rkS (fun x => mr (130 * j + x)) (ms j) nT) (rkC (fun x => mr (130 * j + x)) (ms j) nT) (ms j))))) := by
  obtain ⟨V, hV⟩ : ∃ V : Nat → Nat → Int64, ∀ j q, V j q = lN ((if q = 0 then wfM (rkS (fun x => mr (130 * j + x)) (ms j) nT) (rkC (fun x => mr (130 * j + x)) (ms j) nT) (ms j) else ms j ^ rkC (fun x => mr (130 * j + x)) (ms j) nT) / Nat.gcd (ms j ^ rkC (fun x => mr (130 * j + x)) (ms j) nT) (wfM (rkS (fun x => mr (130 * j + x)) (ms j) nT) (rkC (fun x => mr (130 * j + x)) (ms j) nT) (ms j))) := ⟨_, fun _ _ => rfl⟩
  obtain ⟨C, hC⟩ : ∃ C : Nat → Nat, ∀ j, C j = rkC (fun x => mr (130 * j + x)) (ms j) nT := ⟨_, fun _ => rfl⟩
  have m0 : noS nS x → pkd nS x (-1) (fun j => if ¬ mk j = 3 ∨ C j = 0 then -1 else pkd 2 y (-1) (fun p => V j p)) = -1 := fun h => pkd_noS hs h
  have m1 : ∀ j, j < nS → x = nI j → (¬ mk j = 3 ∨ C j = 0) → pkd nS x (-1) (fun j => if ¬ mk j = 3 ∨ C j = 0 then -1 else pkd 2 y (-1) (fun p => V j p)) = -1 := fun j hj e h => by
    rw [e, pkd_at hj (by omega), if_pos h]
  have m2 : (¬ y = 0 ∧ ¬ y = 1) → pkd nS x (-1) (fun j => if ¬ mk j = 3 ∨ C j = 0 then -1 else pkd 2 y (-1) (fun p => V j p)) = -1 := fun h => pkd_const (fun j => by
    split
    · rfl
    · exact pkd_bad (part_bad h))
  have m3 : ∀ j p, j < nS → x = nI j → mk j = 3 → ¬ C j = 0 → p < 2 → y = nI p → pkd nS x (-1) (fun j => if ¬ mk j = 3 ∨ C j = 0 then -1 else pkd 2 y (-1) (fun p => V j p)) = V j p := fun j p hj e h1 h2 hp e2 => by
    rw [e, pkd_at hj (by omega), if_neg (fun h => h.elim (fun q => q h1) h2), e2, pkd_at hp (by decide)]
  have tie : ∀ j, j < nS → rkC (rk j) (sp j) 26 = C j ∧ rkS (rk j) (sp j) 26 = rkS (fun x => mr (130 * j + x)) (ms j) nT := by
    intro j hj
    obtain ⟨a1, a2, a3, a4, a5, a6, a7⟩ := hT.1 j hj
    have h6 := (hok j hj).lt
    have z := rk_up (f := fun x => mr (130 * j + x)) (n := ms j) (N := nT) (by omega) (26 - nT) (fun i h1 h2 => by
      have := hT.2.2.2.1 j i 0 (by omega) (by omega) (by decide) (Or.inr (Or.inl h1))
      exact this)
    rw [show nT + (26 - nT) = 26 by omega] at z
    rw [a2, hC, ← z.1, ← z.2]
    exact ⟨rkC_cg 26 (fun i k hi hk => a5 _ (by omega)), rkS_cg (by omega) 26 (fun i k hi hk => a5 _ (by omega))⟩
  refine ⟨_, ⟨m0, fun j hj e h => ?_, m2, fun j hj e h => ?_, fun j p hj e h1 hp e2 h2 => ?_⟩, m0, fun j hj e h => m1 j hj e (Or.inl h), m2, fun j hj e h => m1 j hj e (Or.inr (by rw [hC]; exact h)), fun j p hj e h1 hp e2 h2 => by rw [m3 j p hj e h1 (by rw [hC]; exact h2) hp e2, hV]⟩
  · rw [(hT.1 j hj).1] at h
    exact m1 j hj e (Or.inl h)
  · rw [(tie j hj).1] at h
    exact m1 j hj e (Or.inr h)
  · obtain ⟨a1, a2, a3, a4, a5, a6, a7⟩ := hT.1 j hj
    have h6 := (hok j hj).lt
    rw [a1] at h1
    rw [(tie j hj).1] at h2
    have hm : C j ≤ 26 := by rw [hC]; exact Nat.le_trans (rkC_le _ _ _) hn
    rw [m3 j p hj e h1 h2 hp e2, hV, (tie j hj).1, (tie j hj).2, a2, ← hC, wf_eq _ _ (by omega) (by omega), rdp_eq p (wfM_le _ _ _) (pow5_lt (by omega) hm)]
theorem ag_thr (hT : Tie sd nT nS td fd ta tr kd sp ca cr od aw rk mk ms ma mr mt) (hn : nT ≤ 26) (hmt : ∀ x, x < 416 → mt x ≤ 2) (x : Int32) : ∃ r : UInt64,
    ((noT nT x → r = 13830554455654793216) ∧ (∀ i, i < nT → x = nI i → r = thC (td i) (fd i) 16 none)) ∧ ((noT nT x → r = 13830554455654793216) ∧ (∀ i, i < nT → x = nI i → r = thM (fun k => mt (16 * i + k)) 16 none none none)) := by
  refine ⟨pkd nT x 13830554455654793216 (fun i => thM (fun k => mt (16 * i + k)) 16 none none none), ⟨fun h => pkd_noT hn h, fun i hi e => ?_⟩, fun h => pkd_noT hn h, fun i hi e => by rw [e, pkd_at hi (by omega)]⟩
  obtain ⟨-, -, b3⟩ := hT.2.1 i hi
  rw [e, pkd_at hi (by omega)]
  exact (thM_none (td i) (fd i) (fun k => mt (16 * i + k)) 16 (by omega) (fun k hk => ⟨(b3 k hk).1, (b3 k hk).2, hmt _ (by omega)⟩)).symm
theorem ag_out (hT : Tie sd nT nS td fd ta tr kd sp ca cr od aw rk mk ms ma mr mt) (hn : nT ≤ 26) (x : Int32) : ∃ r : Nat,
    ((noT nT x → r = 0) ∧ (∀ i, i < nT → x = nI i → r = if 5 ≤ ta i ∧ 3 * tr i < ta i then 1 else 0)) ∧ ((noT nT x → r = 0) ∧ (∀ i, i < nT → x = nI i → r = if 5 ≤ otA mk ma i nS ∧ 3 * otR mk ma (fun t => rgV sd (mk t) (ms t) t i) i nS < otA mk ma i nS then 1 else 0)) := by
  refine ⟨pkd nT x 0 (fun i => if 5 ≤ otA mk ma i nS ∧ 3 * otR mk ma (fun t => rgV sd (mk t) (ms t) t i) i nS < otA mk ma i nS then 1 else 0), ⟨fun h => pkd_noT hn h, fun i hi e => ?_⟩, fun h => pkd_noT hn h, fun i hi e => by rw [e, pkd_at hi (by omega)]⟩
  obtain ⟨b1, b2, b3⟩ := hT.2.1 i hi
  rw [e, pkd_at hi (by omega), b1, b2, otA_tot, otR_tot]
theorem ag_size (x : Int32) (u v : Int64) : ∃ r : Int32, ((x < 0 ∨ nI 3 ≤ x ∨ u < lN 1 ∨ v < lN 1) → r = -1) ∧ (∀ k A BB, k < 3 → x = nI k → 1 ≤ A → A < 2 ^ 63 → u = lN A → 1 ≤ BB → BB < 2 ^ 63 → v = lN BB → r = szF (if k = 0 then 3 else 2) ((BB - 1) / A + 1) 26 1) := by
  by_cases hb : x < 0 ∨ nI 3 ≤ x ∨ u < lN 1 ∨ v < lN 1
  · refine ⟨-1, fun _ => rfl, fun k A BB hk ex hA1 hA2 eu hB1 hB2 ev => ?_⟩
    exfalso
    rcases hb with h | h | h | h
    · exact at_out (n := 3) (by decide) hk (Or.inl h) ex
    · exact at_out (n := 3) (by decide) hk (Or.inr h) ex
    · rw [eu] at h
      have := (pk_lLT hA2 (by decide)).mp h
      omega
    · rw [ev] at h
      have := (pk_lLT hB2 (by decide)).mp h
      omega
  · have hx : ∃ k, k < 3 ∧ x = nI k := by
      rcases pk_ix x (show 3 < 2 ^ 31 by decide) with h | h | ⟨j, hj, e⟩
      · exact absurd (Or.inl h) hb
      · exact absurd (Or.inr (Or.inl h)) hb
      · exact ⟨j, hj, e⟩
    have hq : ∀ w : Int64, ¬ w < lN 1 → ∃ k, 1 ≤ k ∧ k < 2 ^ 63 ∧ w = lN k := by
      intro w hw
      have h0 : ¬ w < 0 := fun h => hw (Int64.lt_trans h (by decide))
      obtain ⟨k, hk, e⟩ := pk_lOf h0
      refine ⟨k, ?_, hk, e⟩
      rw [e] at hw
      exact Nat.le_of_not_lt (fun q => hw ((pk_lLT hk (by decide)).mpr q))
    obtain ⟨k, hk, ex⟩ := hx
    obtain ⟨A, hA1, hA2, eu⟩ := hq u (fun h => hb (Or.inr (Or.inr (Or.inl h))))
    obtain ⟨BB, hB1, hB2, ev⟩ := hq v (fun h => hb (Or.inr (Or.inr (Or.inr h))))
    refine ⟨szF (if k = 0 then 3 else 2) ((BB - 1) / A + 1) 26 1, fun h => absurd h hb, fun k' A' B' hk' ex' hA1' hA2' eu' hB1' hB2' ev' => ?_⟩
    rw [nI_inj (by omega) (by omega) (ex.symm.trans ex'), (pk_lEQ hA2 hA2').mp (eu.symm.trans eu'), (pk_lEQ hB2 hB2').mp (ev.symm.trans ev')]
end AG
