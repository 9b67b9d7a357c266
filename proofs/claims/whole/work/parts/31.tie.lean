/-! the tie of the class's state and the model's -/
theorem tot_cg {f g : Nat → Nat} : ∀ n, (∀ x, x < n → f x = g x) → tot f n = tot g n
  | 0, _ => rfl
  | n + 1, h => by
    show tot f n + f n = tot g n + g n
    rw [tot_cg n (fun x hx => h x (by omega)), h n (by omega)]
theorem tot_zr {f : Nat → Nat} : ∀ n, (∀ x, x < n → f x = 0) → tot f n = 0
  | 0, _ => rfl
  | n + 1, h => by
    show tot f n + f n = 0
    rw [tot_zr n (fun x hx => h x (by omega)), h n (by omega)]
theorem tot_up {f g : Nat → Nat} {i v : Nat} : ∀ n, i < n → (∀ x, x < n → x ≠ i → f x = g x) → f i = g i + v → tot f n = tot g n + v
  | 0, h, _, _ => absurd h (Nat.not_lt_zero _)
  | n + 1, h, h1, h2 => by
    show tot f n + f n = tot g n + g n + v
    by_cases e : i = n
    · rw [← e, h2, tot_cg i (fun x hx => h1 x (by omega) (by omega))]
      omega
    · rw [tot_up n (by omega) (fun x hx q => h1 x (by omega) q) h2, h1 n (by omega) (fun q => e q.symm)]
      omega
theorem tot_ub {f : Nat → Nat} (hf : ∀ x, f x ≤ 1) : ∀ n, tot f n ≤ n
  | 0 => Nat.le_refl 0
  | n + 1 => by
    have := tot_ub hf n
    have := hf n
    show tot f n + f n ≤ n + 1
    omega
theorem tot_le2 {f g : Nat → Nat} (hf : ∀ x, f x ≤ g x) : ∀ n, tot f n ≤ tot g n
  | 0 => Nat.le_refl 0
  | n + 1 => Nat.add_le_add (tot_le2 hf n) (hf n)
abbrev g_A (ma : Nat → Nat) (j : Nat) : Nat → Nat := fun p => if 0 < ma (26 * j + p) then 1 else 0
abbrev g_R (ma rg : Nat → Nat) (j : Nat) : Nat → Nat := fun p => if 0 < ma (26 * j + p) ∧ ma (26 * j + p) = 1 + rg p then 1 else 0
abbrev h_A (mk ma : Nat → Nat) (i : Nat) : Nat → Nat := fun t => if ¬ mk t = 3 ∧ 0 < ma (26 * t + i) then 1 else 0
abbrev h_R (mk ma rg : Nat → Nat) (i : Nat) : Nat → Nat := fun t => if (¬ mk t = 3 ∧ 0 < ma (26 * t + i)) ∧ ma (26 * t + i) = 1 + rg t then 1 else 0
theorem cnA_tot (ma : Nat → Nat) (j : Nat) : ∀ n, cnA ma j n = tot (g_A ma j) n
  | 0 => rfl
  | n + 1 => by show cnA ma j n + _ = tot (g_A ma j) n + _; rw [cnA_tot ma j n]
theorem cnR_tot (ma rg : Nat → Nat) (j : Nat) : ∀ n, cnR ma rg j n = tot (g_R ma rg j) n
  | 0 => rfl
  | n + 1 => by show cnR ma rg j n + _ = tot (g_R ma rg j) n + _; rw [cnR_tot ma rg j n]
theorem otA_tot (mk ma : Nat → Nat) (i : Nat) : ∀ n, otA mk ma i n = tot (h_A mk ma i) n
  | 0 => rfl
  | n + 1 => by show otA mk ma i n + _ = tot (h_A mk ma i) n + _; rw [otA_tot mk ma i n]
theorem otR_tot (mk ma rg : Nat → Nat) (i : Nat) : ∀ n, otR mk ma rg i n = tot (h_R mk ma rg i) n
  | 0 => rfl
  | n + 1 => by show otR mk ma rg i n + _ = tot (h_R mk ma rg i) n + _; rw [otR_tot mk ma rg i n]
def Tie (sd : Int64) (nT nS : Nat) (td fd : Nat → Nat → Nat) (ta tr kd sp ca cr : Nat → Nat) (od aw rk : Nat → Nat → Nat) (mk ms ma mr mt : Nat → Nat) : Prop :=
  (∀ j, j < nS → kd j = mk j ∧ sp j = ms j ∧ (∀ i, i < 26 → od j i = ordv (cntO (mk j) (ms j)) sd j i) ∧ (∀ i, i < 26 → (aw j i = 0 ↔ ma (26 * j + i) = 0)) ∧ (∀ x, x < 130 → rk j x = mr (130 * j + x)) ∧ ca j = tot (g_A ma j) nT ∧ cr j = tot (g_R ma (rgV sd (mk j) (ms j) j) j) nT) ∧
  (∀ i, i < nT → ta i = tot (h_A mk ma i) nS ∧ tr i = tot (h_R mk ma (fun t => rgV sd (mk t) (ms t) t i) i) nS ∧ ∀ k, k < 16 → (td i k = 0 ↔ mt (16 * i + k) = 0) ∧ (¬ mt (16 * i + k) = 0 → (fd i k = 0 ↔ mt (16 * i + k) = 1))) ∧
  (∀ j i, j < 40 → i < 26 → (nS ≤ j ∨ nT ≤ i) → ma (26 * j + i) = 0) ∧ (∀ j i k, j < 40 → i < 26 → k < 5 → (nS ≤ j ∨ nT ≤ i ∨ ms j ≤ k) → mr (130 * j + (i * 5 + k)) = 0) ∧ ∀ i k, i < 26 → k < 16 → nT ≤ i → mt (16 * i + k) = 0
section TI
variable {sd : Int64} {nT nS : Nat} {td fd : Nat → Nat → Nat} {ta tr kd sp ca cr : Nat → Nat} {od aw rk : Nat → Nat → Nat} {mk ms ma mr mt : Nat → Nat}
theorem tie_0 : Tie sd 0 0 td fd ta tr kd sp ca cr od aw rk mk ms (fun _ => 0) (fun _ => 0) (fun _ => 0) :=
  ⟨fun j h => absurd h (Nat.not_lt_zero _), fun j h => absurd h (Nat.not_lt_zero _), fun _ _ _ _ _ => rfl, fun _ _ _ _ _ _ _ => rfl, fun _ _ _ _ _ => rfl⟩
theorem tie_taster (hT : Tie sd nT nS td fd ta tr kd sp ca cr od aw rk mk ms ma mr mt) (h26 : nT < 26) (hS : nS ≤ 40) : Tie sd (nT + 1) nS (ur td nT (fun _ => 0)) (ur fd nT (fun _ => 0)) (u1 ta nT 0) (u1 tr nT 0) kd sp ca cr od aw rk mk ms ma mr mt := by
  obtain ⟨t1, t2, t3, t4, t5⟩ := hT
  refine ⟨fun j hj => ?_, fun i hi => ?_, fun j i hj hi q => t3 j i hj hi (by omega), fun j i k hj hi hk q => t4 j i k hj hi hk (by omega), fun i k hi hk q => t5 i k hi hk (by omega)⟩
  · obtain ⟨a1, a2, a3, a4, a5, a6, a7⟩ := t1 j hj
    have z := t3 j nT (by omega) h26 (Or.inr (Nat.le_refl _))
    refine ⟨a1, a2, a3, a4, a5, ?_, ?_⟩
    · show _ = tot (g_A ma j) nT + (if 0 < ma (26 * j + nT) then 1 else 0)
      rw [z, if_neg (by omega), a6, Nat.add_zero]
    · show _ = tot (g_R ma (rgV sd (mk j) (ms j) j) j) nT + (if 0 < ma (26 * j + nT) ∧ ma (26 * j + nT) = 1 + rgV sd (mk j) (ms j) j nT then 1 else 0)
      rw [z, if_neg (by omega), a7, Nat.add_zero]
  · by_cases e : i = nT
    · rw [e]
      refine ⟨?_, ?_, fun k hk => ⟨?_, fun q => absurd (t5 nT k h26 hk (Nat.le_refl _)) q⟩⟩
      · rw [u1, if_pos rfl, tot_zr nS (fun t ht => if_neg (by rw [t3 t nT (by omega) h26 (Or.inr (Nat.le_refl _))]; omega))]
      · rw [u1, if_pos rfl, tot_zr nS (fun t ht => if_neg (by rw [t3 t nT (by omega) h26 (Or.inr (Nat.le_refl _))]; omega))]
      · rw [ur, if_pos rfl]
        exact ⟨fun _ => t5 nT k h26 hk (Nat.le_refl _), fun _ => rfl⟩
    · have h := t2 i (by omega)
      simp only [u1, ur, if_neg e]
      exact h
theorem tie_test (hT : Tie sd nT nS td fd ta tr kd sp ca cr od aw rk mk ms ma mr mt) (h40 : nS < 40) (hT26 : nT ≤ 26) (k n : Nat) : Tie sd nT (nS + 1) td fd ta tr (u1 kd nS k) (u1 sp nS n) (u1 ca nS 0) (u1 cr nS 0) (ur od nS (ordv (cntO k n) sd nS)) (ur aw nS (fun _ => 0)) (ur rk nS (fun _ => 0)) (u1 mk nS k) (u1 ms nS n) ma mr mt := by
  obtain ⟨t1, t2, t3, t4, t5⟩ := hT
  have z : ∀ i, i < 26 → ma (26 * nS + i) = 0 := fun i hi => t3 nS i h40 hi (Or.inl (Nat.le_refl _))
  refine ⟨fun j hj => ?_, fun i hi => ?_, fun j i hj hi q => t3 j i hj hi (by omega), fun j i k hj hi hk q => ?_, t5⟩
  · by_cases e : j = nS
    · rw [e]
      simp only [u1, ur, if_true]
      refine ⟨trivial, trivial, fun i hi => trivial, fun i hi => ⟨fun _ => z i hi, fun _ => trivial⟩, fun x hx => ?_, ?_, ?_⟩
      · have := t4 nS (x / 5) (x % 5) h40 (by omega) (by omega) (Or.inl (Nat.le_refl _))
        rw [show x / 5 * 5 + x % 5 = x by omega] at this
        exact this.symm
      · exact (tot_zr nT (fun t ht => if_neg (by rw [z t (by omega)]; omega))).symm
      · exact (tot_zr nT (fun t ht => if_neg (by rw [z t (by omega)]; omega))).symm
    · have h := t1 j (by omega)
      simp only [u1, ur, if_neg e]
      exact h
  · obtain ⟨b1, b2, b3⟩ := t2 i hi
    refine ⟨?_, ?_, b3⟩
    · show _ = tot (h_A (u1 mk nS k) ma i) nS + (if ¬ (u1 mk nS k) nS = 3 ∧ 0 < ma (26 * nS + i) then 1 else 0)
      rw [z i (by omega), if_neg (by omega), b1]
      exact tot_cg nS (fun t ht => by simp only [h_A, u1, if_neg (show ¬ t = nS by omega)])
    · show _ = tot (h_R (u1 mk nS k) ma (fun t => rgV sd (u1 mk nS k t) (u1 ms nS n t) t i) i) nS + (if (¬ (u1 mk nS k) nS = 3 ∧ 0 < ma (26 * nS + i)) ∧ ma (26 * nS + i) = 1 + _ then 1 else 0)
      rw [z i (by omega), if_neg (by omega), b2]
      exact tot_cg nS (fun t ht => by simp only [h_R, u1, if_neg (show ¬ t = nS by omega)])
  · by_cases e : j = nS
    · exact t4 j i k hj hi hk (Or.inl (by omega))
    · rw [u1, if_neg e] at q
      exact t4 j i k hj hi hk (by omega)
theorem ix_ne {j i j' i' : Nat} (hi : i < 26) (hi' : i' < 26) (h : ¬ (j' = j ∧ i' = i)) : ¬ 26 * j' + i' = 26 * j + i := by omega
theorem tie_answer (hT : Tie sd nT nS td fd ta tr kd sp ca cr od aw rk mk ms ma mr mt) {j i k : Nat} (hj : j < nS) (hi : i < nT) (h26 : nT ≤ 26) (h3 : ¬ mk j = 3) (h0 : ma (26 * j + i) = 0) (v w : Nat) (hv : v = if k = rgV sd (mk j) (ms j) j i then 1 else 0) :
    Tie sd nT nS td fd (u1 ta i (ta i + 1)) (u1 tr i (tr i + v)) kd sp (u1 ca j (ca j + 1)) (u1 cr j (cr j + v)) od (u2 aw j i 1) rk mk ms (u1 ma (26 * j + i) (k + 1)) mr mt := by
  obtain ⟨t1, t2, t3, t4, t5⟩ := hT
  have m1 : u1 ma (26 * j + i) (k + 1) (26 * j + i) = k + 1 := if_pos rfl
  have m2 : ∀ j' i', i' < 26 → ¬ (j' = j ∧ i' = i) → u1 ma (26 * j + i) (k + 1) (26 * j' + i') = ma (26 * j' + i') := fun j' i' q h => if_neg (ix_ne (by omega) q h)
  refine ⟨fun j' hj' => ?_, fun i' hi' => ?_, fun j' i' a b q => ?_, t4, t5⟩
  · obtain ⟨a1, a2, a3, a4, a5, a6, a7⟩ := t1 j' hj'
    refine ⟨a1, a2, a3, fun i' hi' => ?_, a5, ?_, ?_⟩
    · by_cases e : j' = j ∧ i' = i
      · rw [e.1, e.2, m1, u2, if_pos ⟨rfl, rfl⟩]
        omega
      · rw [m2 j' i' hi' e, u2, if_neg e]
        exact a4 i' hi'
    · by_cases e : j' = j
      · rw [e] at a6 ⊢
        rw [u1, if_pos rfl, a6]
        refine (tot_up (i := i) nT hi (fun x hx q => ?_) ?_).symm
        · simp only [g_A, m2 j x (by omega) (fun h => q h.2)]
        · simp only [g_A, m1, h0]
          rw [if_pos (by omega), if_neg (by omega)]
      · rw [u1, if_neg e, a6]
        exact tot_cg nT (fun x hx => by simp only [g_A, m2 j' x (by omega) (fun h => e h.1)])
    · by_cases e : j' = j
      · rw [e] at a7 ⊢
        rw [u1, if_pos rfl, a7]
        refine (tot_up (i := i) nT hi (fun x hx q => ?_) ?_).symm
        · simp only [g_R, m2 j x (by omega) (fun h => q h.2)]
        · simp only [g_R, m1, h0, hv]
          by_cases q : k = rgV sd (mk j) (ms j) j i
          · rw [if_pos q, if_pos (by omega), if_neg (by omega)]
          · rw [if_neg q, if_neg (by omega), if_neg (by omega)]
      · rw [u1, if_neg e, a7]
        exact tot_cg nT (fun x hx => by simp only [g_R, m2 j' x (by omega) (fun h => e h.1)])
  · obtain ⟨b1, b2, b3⟩ := t2 i' hi'
    refine ⟨?_, ?_, b3⟩
    · by_cases e : i' = i
      · rw [e] at b1 ⊢
        rw [u1, if_pos rfl, b1]
        refine (tot_up (i := j) nS hj (fun x hx q => ?_) ?_).symm
        · simp only [h_A, m2 x i (by omega) (fun h => q h.1)]
        · simp only [h_A, m1, h0]
          rw [if_pos ⟨h3, by omega⟩, if_neg (by omega)]
      · rw [u1, if_neg e, b1]
        exact tot_cg nS (fun x hx => by simp only [h_A, m2 x i' (by omega) (fun h => e h.2)])
    · by_cases e : i' = i
      · rw [e] at b2 ⊢
        rw [u1, if_pos rfl, b2]
        refine (tot_up (i := j) nS hj (fun x hx q => ?_) ?_).symm
        · simp only [h_R, m2 x i (by omega) (fun h => q h.1)]
        · simp only [h_R, m1, h0, hv]
          by_cases q : k = rgV sd (mk j) (ms j) j i
          · rw [if_pos q, if_pos ⟨⟨h3, by omega⟩, by omega⟩, if_neg (by omega)]
          · rw [if_neg q, if_neg (by omega), if_neg (by omega)]
      · rw [u1, if_neg e, b2]
        exact tot_cg nS (fun x hx => by simp only [h_R, m2 x i' (by omega) (fun h => e h.2)])
  · by_cases e : j' = j ∧ i' = i
    · omega
    · rw [m2 j' i' b e]
      exact t3 j' i' a b q
theorem tie_ub (hT : Tie sd nT nS td fd ta tr kd sp ca cr od aw rk mk ms ma mr mt) {j i : Nat} (hj : j < nS) (hi : i < nT) (h26 : nT ≤ 26) (h40 : nS ≤ 40) (h3 : ¬ mk j = 3) (h0 : ma (26 * j + i) = 0) : ca j + 1 ≤ 26 ∧ ta i + 1 ≤ 40 := by
  obtain ⟨t1, t2, -⟩ := tie_answer hT (k := 0) hj hi h26 h3 h0 _ 0 rfl
  have a := (t1 j hj).2.2.2.2.2.1
  have b := (t2 i hi).1
  rw [u1, if_pos rfl] at a b
  have a1 : tot (g_A (u1 ma (26 * j + i) (0 + 1)) j) nT ≤ nT := tot_ub (fun x => by simp only [g_A]; split <;> omega) nT
  have b1 : tot (h_A mk (u1 ma (26 * j + i) (0 + 1)) i) nS ≤ nS := tot_ub (fun x => by simp only [h_A]; split <;> omega) nS
  omega
theorem tie_rank (hT : Tie sd nT nS td fd ta tr kd sp ca cr od aw rk mk ms ma mr mt) {j i k : Nat} (hj : j < nS) (hi : i < nT) (hk : k < ms j) (h5 : k < 5) (h26 : nT ≤ 26) (v : Nat) :
    Tie sd nT nS td fd ta tr kd sp ca cr od aw (u2 rk j (i * 5 + k) v) mk ms ma (u1 mr (5 * (26 * j + i) + k) v) mt := by
  obtain ⟨t1, t2, t3, t4, t5⟩ := hT
  refine ⟨fun j' hj' => ?_, t2, t3, fun j' i' k' a b c q => ?_, t5⟩
  · obtain ⟨a1, a2, a3, a4, a5, a6, a7⟩ := t1 j' hj'
    refine ⟨a1, a2, a3, a4, fun x hx => ?_, a6, a7⟩
    have h := a5 x hx
    unfold u2 u1
    by_cases e : j' = j ∧ x = i * 5 + k
    · rw [if_pos e, if_pos (by omega)]
    · rw [if_neg e, if_neg (by omega), h]
  · have h := t4 j' i' k' a b c q
    rw [u1, if_neg ?_, h]
    intro e
    have e1 : j' = j := by omega
    have e2 : i' = i := by omega
    have e3 : k' = k := by omega
    rw [e1, e2, e3] at q
    omega
theorem tie_level (hT : Tie sd nT nS td fd ta tr kd sp ca cr od aw rk mk ms ma mr mt) {i k z : Nat} (hi : i < nT) (hk : k < 16) (hz : z ≤ 1) :
    Tie sd nT nS (u2 td i k 1) (u2 fd i k z) ta tr kd sp ca cr od aw rk mk ms ma mr (u1 mt (16 * i + k) (z + 1)) := by
  obtain ⟨t1, t2, t3, t4, t5⟩ := hT
  refine ⟨t1, fun i' hi' => ?_, t3, t4, fun i' k' a b q => ?_⟩
  · obtain ⟨b1, b2, b3⟩ := t2 i' hi'
    refine ⟨b1, b2, fun k' hk' => ?_⟩
    have h := b3 k' hk'
    unfold u2 u1
    by_cases e : i' = i ∧ k' = k
    · rw [if_pos e, if_pos e, if_pos (by omega)]
      omega
    · rw [if_neg e, if_neg e, if_neg (by omega)]
      exact h
  · rw [u1, if_neg (by omega)]
    exact t5 i' k' a b q
end TI
