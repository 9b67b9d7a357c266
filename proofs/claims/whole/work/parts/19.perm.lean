/-! permuted -/
theorem kc_abs' : Cond.code Lib.Math.abs.name Lib.Math.abs.code 1 (some .int) ∈ TT := kc_abs
def sgS (g : Nat → Nat) (x : Nat) : Nat → Nat
  | 0 => 0
  | r + 1 => sgS g x r + g (x - (r + 1))
/-- in how many ways m ranks out of 1 .. n have the sum x, as the class reckons it -/
def cG (n : Nat) : Nat → Nat → Nat
  | 0 => fun x => if x = 0 then 1 else 0
  | m + 1 => fun x => if x ≤ (m + 1) * n then sgS (cG n m) x (min n x) else cG n m x
def adist (x y : Nat) : Nat := if x ≤ y then y - x else x - y
def wfA (g : Nat → Nat) (mid far st : Nat) : Nat → Nat
  | 0 => 0
  | k + 1 => wfA g mid far st k + (if far ≤ adist (2 * (st + k)) mid then g (st + k) else 0)
def wfC (sum m n : Nat) : Nat := wfA (cG n m) (m * (n + 1)) (adist (2 * sum) (m * (n + 1))) m (m * n + 1 - m)
theorem absd {A B0 : Nat} (hA : A < 2 ^ 30) (hB : B0 < 2 ^ 30) : (if 0 ≤ nI A - nI B0 then nI A - nI B0 else 0 - (nI A - nI B0)) = nI (adist A B0) := by
  have h1 := pk_sub_toInt hA hB
  by_cases h : A ≤ B0
  · rcases Nat.eq_or_lt_of_le h with e | e
    · subst e
      rw [show nI A - nI A = 0 by rw [Int32.sub_self], if_pos (by decide)]
      simp [adist, nI]
    · rw [if_neg (fun q => by rw [Int32.le_iff_toInt_le, h1] at q; have : (0 : Int32).toInt = 0 := by decide
                              omega)]
      unfold adist
      rw [if_pos h]
      apply Int32.toInt_inj.mp
      rw [nI_toInt (by omega), Int32.toInt_sub, h1]
      have : (0 : Int32).toInt = 0 := by decide
      rw [this, Int.bmod_eq_of_le (by omega) (by omega)]
      omega
  · rw [if_pos (by rw [Int32.le_iff_toInt_le, h1]; have : (0 : Int32).toInt = 0 := by decide
                   omega)]
    unfold adist
    rw [if_neg h]
    exact pk_sub (by omega)
def rkAll (f : Nat → Nat) (n i : Nat) : Bool := decide (∀ k, k < n → ¬ f (i * 5 + k) = 0)
def rkC (f : Nat → Nat) (n : Nat) : Nat → Nat
  | 0 => 0
  | t + 1 => rkC f n t + (if rkAll f n t = true then 1 else 0)
def rkS (f : Nat → Nat) (n : Nat) : Nat → Nat
  | 0 => 0
  | t + 1 => rkS f n t + (if rkAll f n t = true then f (t * 5) else 0)
theorem rkC_le (f : Nat → Nat) (n : Nat) : ∀ t, rkC f n t ≤ t
  | 0 => Nat.le_refl 0
  | t + 1 => by
    have := rkC_le f n t
    unfold rkC
    split <;> omega
theorem rkS_le (f : Nat → Nat) (n : Nat) (hf : ∀ x, x < 130 → f x ≤ 5) : ∀ t, t ≤ 26 → rkS f n t ≤ 5 * t
  | 0, _ => Nat.le_refl 0
  | t + 1, h => by
    have h1 := rkS_le f n hf t (by omega)
    have h2 := hf (t * 5) (by omega)
    unfold rkS
    split <;> omega
def tot (g : Nat → Nat) : Nat → Nat
  | 0 => 0
  | x + 1 => tot g x + g x
theorem tot_mono (g : Nat → Nat) {a b : Nat} (h : a ≤ b) : tot g a ≤ tot g b := by
  induction b with
  | zero => rw [Nat.le_zero.mp h]; exact Nat.le_refl _
  | succ b ih =>
    rcases Nat.eq_or_lt_of_le h with e | e
    · rw [e]; exact Nat.le_refl _
    · exact Nat.le_trans (ih (by omega)) (Nat.le_add_right _ _)
def tsh (g : Nat → Nat) (r : Nat) : Nat → Nat
  | 0 => 0
  | x + 1 => tsh g r x + (if r ≤ x then g (x - r) else 0)
theorem tsh_eq (g : Nat → Nat) (r : Nat) : ∀ x, tsh g r x = tot g (x - r)
  | 0 => by rw [Nat.zero_sub]; rfl
  | x + 1 => by
    unfold tsh
    rw [tsh_eq g r x]
    by_cases h : r ≤ x
    · rw [if_pos h, show x + 1 - r = (x - r) + 1 by omega]
      rfl
    · rw [if_neg h, show x + 1 - r = 0 by omega, show x - r = 0 by omega]
      rfl
theorem sgS_cap (g : Nat → Nat) (x : Nat) : ∀ r, r ≤ x → sgS g x r = sgS g x (min r x) := fun r h => by rw [Nat.min_eq_left h]
def tsg (g : Nat → Nat) (n : Nat) : Nat → Nat
  | 0 => 0
  | x + 1 => tsg g n x + sgS g x (min n x)
theorem tsg_s (g : Nat → Nat) (n : Nat) : ∀ x, tsg g (n + 1) x = tsg g n x + tsh g (n + 1) x
  | 0 => rfl
  | x + 1 => by
    unfold tsg tsh
    rw [tsg_s g n x]
    by_cases h : n + 1 ≤ x
    · rw [if_pos h, Nat.min_eq_left h, Nat.min_eq_left (by omega)]
      have e : sgS g x (n + 1) = sgS g x n + g (x - (n + 1)) := rfl
      omega
    · rw [if_neg h, Nat.min_eq_right (by omega), Nat.min_eq_right (by omega)]
      omega
theorem tsg_le (g : Nat → Nat) : ∀ (n x : Nat), tsg g n x ≤ n * tot g x
  | 0, x => by
    have : tsg g 0 x = 0 := by
      induction x with
      | zero => rfl
      | succ x ih => unfold tsg; rw [ih, Nat.zero_min]; rfl
    omega
  | n + 1, x => by
    rw [tsg_s, tsh_eq, Nat.add_mul, Nat.one_mul]
    have h1 := tsg_le g n x
    have h2 := tot_mono g (show x - (n + 1) ≤ x by omega)
    omega
theorem cG_sup (n : Nat) : ∀ (m x : Nat), m * n < x → cG n m x = 0
  | 0, x, h => by
    unfold cG
    rw [if_neg (by omega)]
  | m + 1, x, h => by
    unfold cG
    rw [Nat.add_mul] at h
    rw [if_neg (by rw [Nat.add_mul]; omega)]
    exact cG_sup n m x (by omega)
theorem sgS_zero (g : Nat → Nat) (x : Nat) : ∀ r, (∀ k, 1 ≤ k → k ≤ r → g (x - k) = 0) → sgS g x r = 0
  | 0, _ => rfl
  | r + 1, h => by
    unfold sgS
    rw [sgS_zero g x r (fun k h1 h2 => h k h1 (by omega)), h (r + 1) (by omega) (Nat.le_refl _)]
/-- the same without the bound: beyond it all is nought -/
theorem cG_step (n m x : Nat) : cG n (m + 1) x = sgS (cG n m) x (min n x) := by
  show (if x ≤ (m + 1) * n then sgS (cG n m) x (min n x) else cG n m x) = _
  by_cases h : x ≤ (m + 1) * n
  · rw [if_pos h]
  · rw [if_neg h]
    rw [Nat.add_mul, Nat.one_mul] at h
    rw [cG_sup n m x (by omega), sgS_zero]
    intro k h1 h2
    have : k ≤ n := Nat.le_trans h2 (Nat.min_le_left _ _)
    exact cG_sup n m (x - k) (by omega)
theorem tot_congr {f g : Nat → Nat} (h : ∀ x, f x = g x) : ∀ x, tot f x = tot g x
  | 0 => rfl
  | x + 1 => by
    unfold tot
    rw [tot_congr h x, h x]
theorem tot_tsg (g : Nat → Nat) (n : Nat) : ∀ x, tot (fun y => sgS g y (min n y)) x = tsg g n x
  | 0 => rfl
  | x + 1 => by
    unfold tot tsg
    rw [tot_tsg g n x]
theorem cG_tot (n : Nat) : ∀ (m x : Nat), tot (cG n m) x ≤ n ^ m
  | 0, x => by
    rw [Nat.pow_zero]
    induction x with
    | zero => exact Nat.zero_le _
    | succ x ih =>
      unfold tot
      rcases Nat.eq_zero_or_pos x with e | e
      · subst e
        exact Nat.le_refl 1
      · show tot (cG n 0) x + (if x = 0 then 1 else 0) ≤ 1
        rw [if_neg (by omega)]
        exact ih
  | m + 1, x => by
    rw [tot_congr (cG_step n m), tot_tsg, Nat.pow_succ, Nat.mul_comm]
    exact Nat.le_trans (tsg_le _ n x) (Nat.mul_le_mul_left _ (cG_tot n m x))
theorem wfA_tot (g : Nat → Nat) (mid far st : Nat) : ∀ k, tot g st + wfA g mid far st k ≤ tot g (st + k)
  | 0 => Nat.le_refl _
  | k + 1 => by
    have h := wfA_tot g mid far st k
    show tot g st + (wfA g mid far st k + (if far ≤ adist (2 * (st + k)) mid then g (st + k) else 0)) ≤ tot g (st + k) + g (st + k)
    split <;> omega
theorem wfC_le (sum m n : Nat) : wfC sum m n ≤ n ^ m := by
  have h1 := wfA_tot (cG n m) (m * (n + 1)) (adist (2 * sum) (m * (n + 1))) m (m * n + 1 - m)
  have h2 := cG_tot n m (m + (m * n + 1 - m))
  unfold wfC
  omega
theorem pow5_lt {n m : Nat} (hn : n ≤ 5) (hm : m ≤ 26) : n ^ m < 2 ^ 63 := by
  have h1 : n ^ m ≤ 5 ^ m := Nat.pow_le_pow_left hn m
  have h2 : 5 ^ m ≤ 5 ^ 26 := Nat.pow_le_pow_right (by omega) hm
  have h3 : 5 ^ 26 < 2 ^ 63 := by decide
  omega
theorem sw_put {S : Nat → Int64} {g g2 : Nat → Nat} {y : Nat} (hS : ∀ x, x < 131 → S x = lN (if y + 1 ≤ x then g2 x else g x)) : ∀ x, x < 131 → vp_updL S y (lN (g2 y)) x = lN (if y ≤ x then g2 x else g x) := by
  intro x hx
  by_cases h : x = y
  · subst h
    simp [vp_updL]
  · simp only [vp_updL, if_neg h]
    rw [hS x hx]
    by_cases h1 : y + 1 ≤ x
    · rw [if_pos h1, if_pos (by omega)]
    · rw [if_neg h1, if_neg (by omega)]
theorem sw_z {S : Nat → Int64} {i : Nat} (h : ∀ x, x < i → S x = lN 0) : ∀ x, x < i + 1 → vp_updL S i (lN 0) x = lN 0 := by
  intro x hx
  by_cases e : x = i
  · simp [vp_updL, e]
  · simp only [vp_updL, if_neg e]
    exact h x (by omega)
theorem sw_0 {S : Nat → Int64} {n : Nat} (h : ∀ x, x < 131 → S x = lN 0) : ∀ x, x < 131 → vp_updL S 0 (lN 1) x = lN (cG n 0 x) := by
  intro x hx
  by_cases e : x = 0
  · simp [vp_updL, cG, e]
  · simp only [vp_updL, if_neg e]
    rw [h x hx]
    simp [cG, e]
theorem sw_3 {S : Nat → Int64} {n k : Nat} (h : ∀ x, x < 131 → S x = lN (cG n k x)) : ∀ x, x < 131 → S x = lN (if (k + 1) * n + 1 ≤ x then cG n (k + 1) x else cG n k x) := by
  intro x hx
  rw [h x hx]
  by_cases e : (k + 1) * n + 1 ≤ x
  · rw [if_pos e]
    show lN (cG n k x) = lN (if x ≤ (k + 1) * n then _ else _)
    rw [if_neg (by omega)]
  · rw [if_neg e]
set_option maxHeartbeats 400000 in
set_option maxRecDepth 100000 in
theorem c_P_countSums (l : Launch) (D : va_G) (κ : Nat → ClassId) (base : Nat) (H0 : Heap) {a nT nS : Nat} {sd : Int64} {Sz : Nat → Int64} (m0 n : Nat) (hm : m0 ≤ 26) (hn : n ≤ 5) (hP : va_P D vwCl [(a, .inr (2, [.long sd, .ref (a + 1), .ref (a + 2), .int (nI nT), .int (nI nS), .ref (a + 3), .ref (a + 4)])), ((a + 4), .inl (κ 2, 131, .inr (.inl Sz)))] H0) (hD0 : va_D (fun q => base ≤ q) [(a, .inr (2, [.long sd, .ref (a + 1), .ref (a + 2), .int (nI nT), .int (nI nS), .ref (a + 3), .ref (a + 4)])), ((a + 4), .inl (κ 2, 131, .inr (.inl Sz)))]) (hbs : base ≤ H0.size)  : Met l yP_countSums wP_countSums ({ frames := 0, cells := 0, slots := 0, locals := 0 }) (Pq D κ base [.ref a, .int (nI m0), .int (nI n)] H0) (q_W (fun v H => ∃ S : Nat → Int64, Pst D (va_A [(a, .inr (2, [.long sd, .ref (a + 1), .ref (a + 2), .int (nI nT), .int (nI nS), .ref (a + 3), .ref (a + 4)])), ((a + 4), .inl (κ 2, 131, .inr (.inl Sz)))] H0.size) H0 none [(a, .inr (2, [.long sd, .ref (a + 1), .ref (a + 2), .int (nI nT), .int (nI nS), .ref (a + 3), .ref (a + 4)])), ((a + 4), .inl (κ 2, 131, .inr (.inl S)))] v H ∧ ∀ x, x < 131 → S x = lN (cG n m0 x))) 0 0 (va_A [(a, .inr (2, [.long sd, .ref (a + 1), .ref (a + 2), .int (nI nT), .int (nI nS), .ref (a + 3), .ref (a + 4)])), ((a + 4), .inl (κ 2, 131, .inr (.inl Sz)))] H0.size) := by
  refine Met.ofW (cc := bP_countSums) (maxL := 8) (ret := none) (by decide) rfl ?_
  intro p e s m args below meth c s₁ B hml hv
  obtain ⟨rfl, hH, hE⟩ := hv
  subst hH
  have hx := B.exec
  have hb := B.bytes
  have hr := B.returns
  have hT : ∀ w ∈ TT, w.before _ s = true := fun w h => atoms_spec (ws := wP_countSums) B.pre w (List.mem_cons_of_mem _ h)
  have hown : s.vm.findClass "TasterPanels" = some m.cls := findClass_of_methodNamed B.named
  have hlocks := B.notSynchronized
  have hK := hE.1
  have hD := hD0.self (sz := s.heap.size)
  have hAb : ∀ x9, va_A [(a, .inr (2, [.long sd, .ref (a + 1), .ref (a + 2), .int (nI nT), .int (nI nS), .ref (a + 3), .ref (a + 4)])), ((a + 4), .inl (κ 2, 131, .inr (.inl Sz)))] s.heap.size x9 → base ≤ x9 := fun x9 h => by rcases h with ⟨k, e, h⟩ | h; exact hD0.2 k _ h; exact Nat.le_trans hbs h
  generalize hAe : va_A [(a, .inr (2, [.long sd, .ref (a + 1), .ref (a + 2), .int (nI nT), .int (nI nS), .ref (a + 3), .ref (a + 4)])), ((a + 4), .inl (κ 2, 131, .inr (.inl Sz)))] s.heap.size = A at hD hAb ⊢
  have hA : ∀ x9, s.heap.size ≤ x9 → A x9 := fun x9 h => by rw [← hAe]; exact Or.inr h
  have hS : va_S A s.heap s.heap [] := va_S.rf
  have hl := lv_entry ([.ref a, .int (nI m0), .int (nI n)]) (n := 8) (Nat.le_of_ble_eq_true rfl)
  rw [lg_entry_eq]
  generalize (lg_sl ([.ref a, .int (nI m0), .int (nI n)]) ++ List.replicate (8 - (lg_sl ([.ref a, .int (nI m0), .int (nI n)])).length) Slot.unset).toArray = ls at hl ⊢
  have hl : lv_has ls 8 [(0, .ref a), (1, .int (nI m0)), (2, .int (nI n))] := hl
  have loop2 : ∀ (fu : Nat) (k : Nat) (S : Nat → Int64) (H : Heap) (locs : List Loc), (k ≤ m0) → (∀ x, x < 131 → S x = lN (cG n k x)) → va_P D vwCl [(a, .inr (2, [.long sd, .ref (a + 1), .ref (a + 2), .int (nI nT), .int (nI nS), .ref (a + 3), .ref (a + 4)])), ((a + 4), .inl (κ 2, 131, .inr (.inl S)))] H → va_D A [(a, .inr (2, [.long sd, .ref (a + 1), .ref (a + 2), .int (nI nT), .int (nI nS), .ref (a + 3), .ref (a + 4)])), ((a + 4), .inl (κ 2, 131, .inr (.inl S)))] → va_S A s.heap H locs → m0 - k < fu → ∀ ls : Array Slot, lv_has ls 8 [(0, .ref a), (1, .int (nI m0)), (2, .int (nI n)), (3, .int (nI (k + 1)))] → W p l e (headSpec wP_countSums ({ frames := 0, cells := 0, slots := 0, locals := 0 })).room s m ([.ref a, .int (nI m0), .int (nI n)] : List Value).toArray below meth c H locs 0 0 (MQ below (q_W (fun v H => ∃ S : Nat → Int64, Pst D A s.heap none [(a, .inr (2, [.long sd, .ref (a + 1), .ref (a + 2), .int (nI nT), .int (nI nS), .ref (a + 3), .ref (a + 4)])), ((a + 4), .inl (κ 2, 131, .inr (.inl S)))] v H ∧ ∀ x, x < 131 → S x = lN (cG n m0 x))) ([.ref a, .int (nI m0), .int (nI n)] : List Value).toArray s 0 0 A) (F0 m 33 ls []) := by
    intro fu
    induction fu with
    | zero =>
      intro k S H locs hk hSx hP hD hS hmu
      exact absurd hmu (Nat.not_lt_zero _)
    | succ fu ih2 =>
      intro k S H locs hk hSx hP hD hS hmu ls hl
      refine lv_iload_n hx hb dP_countSums_33 rfl (lv_at hl 3 rfl) ?_
      refine lv_iload_n hx hb dP_countSums_34 rfl (lv_at hl 1 rfl) ?_
      refine x_cgt (a := k + 1) (b := m0) (tgt := 109) hx hb dP_countSums_35 (by decide) (by omega) (by omega) (fun g0 => ?_) (fun g0 => ?_)
      · have e1 : k = m0 := by omega
        exact W.vret hx hb hr (fun t9 ht9 hW9 => ⟨none, rfl, by rw [ht9]; exact ⟨S, ⟨rfl, hP, hD, hS.1, hS.2.1⟩, fun x hx => by rw [hSx x hx, e1]⟩⟩) hS.2.2 dP_countSums_109
      · have hb9 : (k + 1) * n ≤ 130 := by have := Nat.mul_le_mul (show k + 1 ≤ 26 by omega) hn; omega
        have loop3 : ∀ (fu : Nat) (y : Nat) (S : Nat → Int64) (H : Heap) (locs : List Loc), (y ≤ (k + 1) * n + 1) → (∀ x, x < 131 → S x = lN (if y ≤ x then cG n (k + 1) x else cG n k x)) → va_P D vwCl [(a, .inr (2, [.long sd, .ref (a + 1), .ref (a + 2), .int (nI nT), .int (nI nS), .ref (a + 3), .ref (a + 4)])), ((a + 4), .inl (κ 2, 131, .inr (.inl S)))] H → va_D A [(a, .inr (2, [.long sd, .ref (a + 1), .ref (a + 2), .int (nI nT), .int (nI nS), .ref (a + 3), .ref (a + 4)])), ((a + 4), .inl (κ 2, 131, .inr (.inl S)))] → va_S A s.heap H locs → y < fu → ∀ ls : Array Slot, lv_has ls 8 [(0, .ref a), (1, .int (nI m0)), (2, .int (nI n)), (3, .int (nI (k + 1))), (4, .int (nI y - 1))] → W p l e (headSpec wP_countSums ({ frames := 0, cells := 0, slots := 0, locals := 0 })).room s m ([.ref a, .int (nI m0), .int (nI n)] : List Value).toArray below meth c H locs 0 0 (MQ below (q_W (fun v H => ∃ S : Nat → Int64, Pst D A s.heap none [(a, .inr (2, [.long sd, .ref (a + 1), .ref (a + 2), .int (nI nT), .int (nI nS), .ref (a + 3), .ref (a + 4)])), ((a + 4), .inl (κ 2, 131, .inr (.inl S)))] v H ∧ ∀ x, x < 131 → S x = lN (cG n m0 x))) ([.ref a, .int (nI m0), .int (nI n)] : List Value).toArray s 0 0 A) (F0 m 43 ls []) := by
          intro fu
          induction fu with
          | zero =>
            intro y S H locs hy hSx hP hD hS hmu
            exact absurd hmu (Nat.not_lt_zero _)
          | succ fu ih3 =>
            intro y S H locs hy hSx hP hD hS hmu ls hl
            rcases y with _ | y
            · refine lv_iload hx hb dP_countSums_43 (lv_at hl 4 rfl) ?_
              refine lv_if_lt (tgt := 103) hx hb dP_countSums_45 (by decide) (fun h1 => ?_) (fun h1 => absurd (by decide) h1)
              refine lv_iinc (v := nI (k + 1 + 1)) (lv' := [(3, .int (nI (k + 1 + 1))), (0, .ref a), (1, .int (nI m0)), (2, .int (nI n)), (4, .int (nI 0 - 1))]) hx hb dP_countSums_103 hl (k := 3) rfl (nI_add _ _) (by decide) rfl (fun ls hl => ?_)
              refine lv_goto (tgt := 33) hx hb dP_countSums_106 (by decide) ?_
              exact ih2 (k + 1) S _ _ (by omega) (fun x hx => by rw [hSx x hx, if_pos (Nat.zero_le _)]) hP hD hS (by omega) ls (lv_sub hl [1, 2, 3, 0] rfl)
            · rw [nI_pred] at hl
              refine lv_iload hx hb dP_countSums_43 (lv_at hl 4 rfl) ?_
              refine x_zlt (a := y) (tgt := 103) hx hb dP_countSums_45 (by decide) (by omega) ?_
              have loop4 : ∀ (fu : Nat) (r : Nat), (r ≤ n) → (r ≤ y) → n - r < fu → ∀ ls : Array Slot, lv_has ls 8 [(0, .ref a), (1, .int (nI m0)), (2, .int (nI n)), (3, .int (nI (k + 1))), (4, .int (nI y)), (5, .long (lN (sgS (cG n k) y r))), (7, .int (nI (r + 1)))] → W p l e (headSpec wP_countSums ({ frames := 0, cells := 0, slots := 0, locals := 0 })).room s m ([.ref a, .int (nI m0), .int (nI n)] : List Value).toArray below meth c H locs 0 0 (MQ below (q_W (fun v H => ∃ S : Nat → Int64, Pst D A s.heap none [(a, .inr (2, [.long sd, .ref (a + 1), .ref (a + 2), .int (nI nT), .int (nI nS), .ref (a + 3), .ref (a + 4)])), ((a + 4), .inl (κ 2, 131, .inr (.inl S)))] v H ∧ ∀ x, x < 131 → S x = lN (cG n m0 x))) ([.ref a, .int (nI m0), .int (nI n)] : List Value).toArray s 0 0 A) (F0 m 54 ls []) := by
                intro fu
                induction fu with
                | zero =>
                  intro r hr1 hr2 hmu
                  exact absurd hmu (Nat.not_lt_zero _)
                | succ fu ih4 =>
                  intro r hr1 hr2 hmu ls hl
                  refine lv_iload hx hb dP_countSums_54 (lv_at hl 6 rfl) ?_
                  refine lv_iload_n hx hb dP_countSums_56 rfl (lv_at hl 2 rfl) ?_
                  refine x_cgt (a := r + 1) (b := n) (tgt := 88) hx hb dP_countSums_57 (by decide) (by omega) (by omega) (fun g1 => ?_) (fun g1 => ?_)
                  · refine lv_aload_n hx hb dP_countSums_88 rfl (lv_at hl 0 rfl) ?_
                    refine va_get (D := D) (ci := 2) (v := .ref (a + 4)) (C := RP) (T := FP) (N := 7) hx hb hT inP hown hK hP 0 rfl rfl 6 (by decide) (hT _ kP25) (fun _ h9 => h9) rfl dP_countSums_89 ?_
                    refine lv_iload hx hb dP_countSums_92 (lv_at hl 4 rfl) ?_
                    refine lv_lload hx hb dP_countSums_94 (lv_at hl 5 rfl) ?_
                    refine x_topl (y := lN (cG n (k + 1) y)) (by rw [cG_step, show min n y = r by omega]) ?_
                    refine x_last hx hb hK hP hD hS 1 2 (j := y) rfl rfl (by omega) (by decide) dP_countSums_96 (fun H locs hP hD hS => ?_)
                    have hP : va_P D vwCl [(a, .inr (2, [.long sd, .ref (a + 1), .ref (a + 2), .int (nI nT), .int (nI nS), .ref (a + 3), .ref (a + 4)])), ((a + 4), .inl (κ 2, 131, .inr (.inl (vp_updL S y (lN (cG n (k + 1) y))))))] H := hP
                    have hD : va_D A [(a, .inr (2, [.long sd, .ref (a + 1), .ref (a + 2), .int (nI nT), .int (nI nS), .ref (a + 3), .ref (a + 4)])), ((a + 4), .inl (κ 2, 131, .inr (.inl (vp_updL S y (lN (cG n (k + 1) y))))))] := hD
                    refine lv_iinc (v := nI y - 1) (lv' := [(4, .int (nI y - 1)), (0, .ref a), (1, .int (nI m0)), (2, .int (nI n)), (3, .int (nI (k + 1))), (5, .long (lN (sgS (cG n k) y r))), (7, .int (nI (r + 1)))]) hx hb dP_countSums_97 hl (k := 4) rfl (addm1 _) (by decide) rfl (fun ls hl => ?_)
                    refine lv_goto (tgt := 43) hx hb dP_countSums_100 (by decide) ?_
                    exact ih3 y _ _ _ (by omega) (sw_put (g := cG n k) (g2 := cG n (k + 1)) hSx) hP hD hS (by omega) ls (lv_sub hl [1, 2, 3, 4, 0] rfl)
                  · refine lv_iload hx hb dP_countSums_60 (lv_at hl 6 rfl) ?_
                    refine lv_iload hx hb dP_countSums_62 (lv_at hl 4 rfl) ?_
                    refine x_cgt (a := r + 1) (b := y) (tgt := 88) hx hb dP_countSums_64 (by decide) (by omega) (by omega) (fun g2 => ?_) (fun g2 => ?_)
                    · refine lv_aload_n hx hb dP_countSums_88 rfl (lv_at hl 0 rfl) ?_
                      refine va_get (D := D) (ci := 2) (v := .ref (a + 4)) (C := RP) (T := FP) (N := 7) hx hb hT inP hown hK hP 0 rfl rfl 6 (by decide) (hT _ kP25) (fun _ h9 => h9) rfl dP_countSums_89 ?_
                      refine lv_iload hx hb dP_countSums_92 (lv_at hl 4 rfl) ?_
                      refine lv_lload hx hb dP_countSums_94 (lv_at hl 5 rfl) ?_
                      refine x_topl (y := lN (cG n (k + 1) y)) (by rw [cG_step, show min n y = r by omega]) ?_
                      refine x_last hx hb hK hP hD hS 1 2 (j := y) rfl rfl (by omega) (by decide) dP_countSums_96 (fun H locs hP hD hS => ?_)
                      have hP : va_P D vwCl [(a, .inr (2, [.long sd, .ref (a + 1), .ref (a + 2), .int (nI nT), .int (nI nS), .ref (a + 3), .ref (a + 4)])), ((a + 4), .inl (κ 2, 131, .inr (.inl (vp_updL S y (lN (cG n (k + 1) y))))))] H := hP
                      have hD : va_D A [(a, .inr (2, [.long sd, .ref (a + 1), .ref (a + 2), .int (nI nT), .int (nI nS), .ref (a + 3), .ref (a + 4)])), ((a + 4), .inl (κ 2, 131, .inr (.inl (vp_updL S y (lN (cG n (k + 1) y))))))] := hD
                      refine lv_iinc (v := nI y - 1) (lv' := [(4, .int (nI y - 1)), (0, .ref a), (1, .int (nI m0)), (2, .int (nI n)), (3, .int (nI (k + 1))), (5, .long (lN (sgS (cG n k) y r))), (7, .int (nI (r + 1)))]) hx hb dP_countSums_97 hl (k := 4) rfl (addm1 _) (by decide) rfl (fun ls hl => ?_)
                      refine lv_goto (tgt := 43) hx hb dP_countSums_100 (by decide) ?_
                      exact ih3 y _ _ _ (by omega) (sw_put (g := cG n k) (g2 := cG n (k + 1)) hSx) hP hD hS (by omega) ls (lv_sub hl [1, 2, 3, 4, 0] rfl)
                    · refine lv_lload hx hb dP_countSums_67 (lv_at hl 5 rfl) ?_
                      refine lv_aload_n hx hb dP_countSums_69 rfl (lv_at hl 0 rfl) ?_
                      refine va_get (D := D) (ci := 2) (v := .ref (a + 4)) (C := RP) (T := FP) (N := 7) hx hb hT inP hown hK hP 0 rfl rfl 6 (by decide) (hT _ kP25) (fun _ h9 => h9) rfl dP_countSums_70 ?_
                      refine lv_iload hx hb dP_countSums_73 (lv_at hl 4 rfl) ?_
                      refine lv_iload hx hb dP_countSums_75 (lv_at hl 6 rfl) ?_
                      refine x_isub (v := nI (y - (r + 1))) hx hb dP_countSums_77 (pk_sub (by omega)) ?_
                      refine x_lald hx hb hK hP 1 2 (j := y - (r + 1)) (v := S (y - (r + 1))) rfl rfl (by omega) (by decide) (rfl) dP_countSums_78 ?_
                      refine x_ladd (v := (lN (sgS (cG n k) y r)) + (S (y - (r + 1)))) hx hb dP_countSums_79 (rfl) ?_
                      refine x_topl (y := lN (sgS (cG n k) y (r + 1))) (by rw [hSx _ (by omega), if_neg (by omega), lN_add]; rfl) ?_
                      refine lv_lstore (lv' := [(5, .long (lN (sgS (cG n k) y (r + 1)))), (0, .ref a), (1, .int (nI m0)), (2, .int (nI n)), (3, .int (nI (k + 1))), (4, .int (nI y)), (7, .int (nI (r + 1)))]) hx hb dP_countSums_80 hl (by decide) rfl (fun ls hl => ?_)
                      refine lv_iinc (v := nI (r + 1 + 1)) (lv' := [(7, .int (nI (r + 1 + 1))), (5, .long (lN (sgS (cG n k) y (r + 1)))), (0, .ref a), (1, .int (nI m0)), (2, .int (nI n)), (3, .int (nI (k + 1))), (4, .int (nI y))]) hx hb dP_countSums_82 hl (k := 6) rfl (nI_add _ _) (by decide) rfl (fun ls hl => ?_)
                      refine lv_goto (tgt := 54) hx hb dP_countSums_85 (by decide) ?_
                      exact ih4 (r + 1) (by omega) (by omega) (by omega) ls (lv_sub hl [2, 3, 4, 5, 6, 1, 0] rfl)
              refine lv_lconst (v := lN 0) hx hb dP_countSums_48 (by decide) ?_
              refine lv_lstore (lv' := [(5, .long (lN 0)), (0, .ref a), (1, .int (nI m0)), (2, .int (nI n)), (3, .int (nI (k + 1))), (4, .int (nI y))]) hx hb dP_countSums_49 hl (by decide) rfl (fun ls hl => ?_)
              refine lv_iconst (v := nI 1) hx hb dP_countSums_51 (by decide) ?_
              refine lv_istore (lv' := [(7, .int (nI 1)), (5, .long (lN 0)), (0, .ref a), (1, .int (nI m0)), (2, .int (nI n)), (3, .int (nI (k + 1))), (4, .int (nI y))]) hx hb dP_countSums_52 hl (by decide) rfl (fun ls hl => ?_)
              exact loop4 (n + 1) 0 (by omega) (by omega) (by omega) ls (lv_sub hl [2, 3, 4, 5, 6, 1, 0] rfl)
        refine lv_iload_n hx hb dP_countSums_38 rfl (lv_at hl 3 rfl) ?_
        refine lv_iload_n hx hb dP_countSums_39 rfl (lv_at hl 2 rfl) ?_
        refine x_imul (v := nI ((k + 1) * n)) hx hb dP_countSums_40 (pk_mul _ _) ?_
        refine x_topi (y := nI ((k + 1) * n + 1) - 1) ((nI_pred _).symm) ?_
        refine lv_istore (lv' := [(4, .int (nI ((k + 1) * n + 1) - 1)), (0, .ref a), (1, .int (nI m0)), (2, .int (nI n)), (3, .int (nI (k + 1)))]) hx hb dP_countSums_41 hl (by decide) rfl (fun ls hl => ?_)
        exact loop3 ((k + 1) * n + 2) ((k + 1) * n + 1) S _ _ (by omega) (sw_3 hSx) hP hD hS (by omega) ls (lv_sub hl [1, 2, 3, 4, 0] rfl)
  have loop1 : ∀ (fu : Nat) (i : Nat) (S : Nat → Int64) (H : Heap) (locs : List Loc), (i ≤ 131) → (∀ x, x < i → S x = lN 0) → va_P D vwCl [(a, .inr (2, [.long sd, .ref (a + 1), .ref (a + 2), .int (nI nT), .int (nI nS), .ref (a + 3), .ref (a + 4)])), ((a + 4), .inl (κ 2, 131, .inr (.inl S)))] H → va_D A [(a, .inr (2, [.long sd, .ref (a + 1), .ref (a + 2), .int (nI nT), .int (nI nS), .ref (a + 3), .ref (a + 4)])), ((a + 4), .inl (κ 2, 131, .inr (.inl S)))] → va_S A s.heap H locs → 131 - i < fu → ∀ ls : Array Slot, lv_has ls 8 [(0, .ref a), (1, .int (nI m0)), (2, .int (nI n)), (3, .int (nI i))] → W p l e (headSpec wP_countSums ({ frames := 0, cells := 0, slots := 0, locals := 0 })).room s m ([.ref a, .int (nI m0), .int (nI n)] : List Value).toArray below meth c H locs 0 0 (MQ below (q_W (fun v H => ∃ S : Nat → Int64, Pst D A s.heap none [(a, .inr (2, [.long sd, .ref (a + 1), .ref (a + 2), .int (nI nT), .int (nI nS), .ref (a + 3), .ref (a + 4)])), ((a + 4), .inl (κ 2, 131, .inr (.inl S)))] v H ∧ ∀ x, x < 131 → S x = lN (cG n m0 x))) ([.ref a, .int (nI m0), .int (nI n)] : List Value).toArray s 0 0 A) (F0 m 2 ls []) := by
    intro fu
    induction fu with
    | zero =>
      intro i S H locs hi hSx hP hD hS hmu
      exact absurd hmu (Nat.not_lt_zero _)
    | succ fu ih =>
      intro i S H locs hi hSx hP hD hS hmu ls hl
      refine lv_iload_n hx hb dP_countSums_2 rfl (lv_at hl 3 rfl) ?_
      refine lv_aload_n hx hb dP_countSums_3 rfl (lv_at hl 0 rfl) ?_
      refine va_get (D := D) (ci := 2) (v := .ref (a + 4)) (C := RP) (T := FP) (N := 7) hx hb hT inP hown hK hP 0 rfl rfl 6 (by decide) (hT _ kP25) (fun _ h9 => h9) rfl dP_countSums_4 ?_
      refine va_alen hx hb hK hP 1 2 (v := nI 131) rfl rfl rfl dP_countSums_7 ?_
      refine x_cge (a := i) (b := 131) (tgt := 24) hx hb dP_countSums_8 (by decide) (by omega) (by omega) (fun h3 => ?_) (fun h3 => ?_)
      · have hS1 : ∀ x, x < 131 → S x = lN 0 := fun x hx => hSx x (by omega)
        refine lv_aload_n hx hb dP_countSums_24 rfl (lv_at hl 0 rfl) ?_
        refine va_get (D := D) (ci := 2) (v := .ref (a + 4)) (C := RP) (T := FP) (N := 7) hx hb hT inP hown hK hP 0 rfl rfl 6 (by decide) (hT _ kP25) (fun _ h9 => h9) rfl dP_countSums_25 ?_
        refine lv_iconst (v := nI 0) hx hb dP_countSums_28 (by decide) ?_
        refine lv_lconst (v := lN 1) hx hb dP_countSums_29 (by decide) ?_
        refine x_last hx hb hK hP hD hS 1 2 (j := 0) rfl rfl (by omega) (by decide) dP_countSums_30 (fun H locs hP hD hS => ?_)
        have hP : va_P D vwCl [(a, .inr (2, [.long sd, .ref (a + 1), .ref (a + 2), .int (nI nT), .int (nI nS), .ref (a + 3), .ref (a + 4)])), ((a + 4), .inl (κ 2, 131, .inr (.inl (vp_updL S 0 (lN 1)))))] H := hP
        have hD : va_D A [(a, .inr (2, [.long sd, .ref (a + 1), .ref (a + 2), .int (nI nT), .int (nI nS), .ref (a + 3), .ref (a + 4)])), ((a + 4), .inl (κ 2, 131, .inr (.inl (vp_updL S 0 (lN 1)))))] := hD
        refine lv_iconst (v := nI 1) hx hb dP_countSums_31 (by decide) ?_
        refine lv_istore_n (lv' := [(3, .int (nI 1)), (0, .ref a), (1, .int (nI m0)), (2, .int (nI n))]) hx hb dP_countSums_32 rfl hl (by decide) rfl (fun ls hl => ?_)
        exact loop2 27 0 _ _ _ (by omega) (sw_0 hS1) hP hD hS (by omega) ls (lv_sub hl [1, 2, 3, 0] rfl)
      · refine lv_aload_n hx hb dP_countSums_11 rfl (lv_at hl 0 rfl) ?_
        refine va_get (D := D) (ci := 2) (v := .ref (a + 4)) (C := RP) (T := FP) (N := 7) hx hb hT inP hown hK hP 0 rfl rfl 6 (by decide) (hT _ kP25) (fun _ h9 => h9) rfl dP_countSums_12 ?_
        refine lv_iload_n hx hb dP_countSums_15 rfl (lv_at hl 3 rfl) ?_
        refine lv_lconst (v := lN 0) hx hb dP_countSums_16 (by decide) ?_
        refine x_last hx hb hK hP hD hS 1 2 (j := i) rfl rfl (by omega) (by decide) dP_countSums_17 (fun H locs hP hD hS => ?_)
        have hP : va_P D vwCl [(a, .inr (2, [.long sd, .ref (a + 1), .ref (a + 2), .int (nI nT), .int (nI nS), .ref (a + 3), .ref (a + 4)])), ((a + 4), .inl (κ 2, 131, .inr (.inl (vp_updL S i (lN 0)))))] H := hP
        have hD : va_D A [(a, .inr (2, [.long sd, .ref (a + 1), .ref (a + 2), .int (nI nT), .int (nI nS), .ref (a + 3), .ref (a + 4)])), ((a + 4), .inl (κ 2, 131, .inr (.inl (vp_updL S i (lN 0)))))] := hD
        refine lv_iinc (v := nI (i + 1)) (lv' := [(3, .int (nI (i + 1))), (0, .ref a), (1, .int (nI m0)), (2, .int (nI n))]) hx hb dP_countSums_18 hl (k := 3) rfl (nI_add _ _) (by decide) rfl (fun ls hl => ?_)
        refine lv_goto (tgt := 2) hx hb dP_countSums_21 (by decide) ?_
        exact ih (i + 1) _ _ _ (by omega) (sw_z hSx) hP hD hS (by omega) ls (lv_sub hl [1, 2, 3, 0] rfl)
  refine lv_iconst (v := nI 0) hx hb dP_countSums_0 (by decide) ?_
  refine lv_istore_n (lv' := [(3, .int (nI 0)), (0, .ref a), (1, .int (nI m0)), (2, .int (nI n))]) hx hb dP_countSums_1 rfl hl (by decide) rfl (fun ls hl => ?_)
  exact loop1 132 0 Sz _ _ (by omega) (fun x hx => absurd hx (Nat.not_lt_zero _)) hP hD hS (by omega) ls (lv_sub hl [1, 2, 3, 0] rfl)
