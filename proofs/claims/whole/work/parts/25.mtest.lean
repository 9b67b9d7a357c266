theorem okK3 {y : Int32} (h1 : ¬ y < nI 2) (h2 : ¬ nI 5 < y) : okK (nI 3) y = true :=
  decide_eq_true (Or.inr (Or.inr ⟨rfl, Int32.not_lt.mp h1, Int32.not_lt.mp h2⟩))
def frB (mr : Nat → Nat) (p k v : Nat) : Nat → Nat
  | 0 => if mr (p + k) = 0 then 1 else 0
  | t + 1 => if ¬ frB mr p k v t = 0 ∧ ¬ mr (p + t) = v then 1 else 0
theorem frB_le (mr : Nat → Nat) (p k v : Nat) : ∀ t, frB mr p k v t ≤ 1
  | 0 => by unfold frB; split <;> omega
  | t + 1 => by unfold frB; split <;> omega
theorem pG_tot (k : Nat) (hk : 1 ≤ k) : ∀ (t x : Nat), tot (pG k t) x ≤ k ^ t
  | 0, x => by
    rw [Nat.pow_zero]
    induction x with
    | zero => exact Nat.zero_le _
    | succ x ih =>
      unfold tot
      rcases Nat.eq_zero_or_pos x with e | e
      · subst e
        exact Nat.le_refl 1
      · show tot (pG k 0) x + (if x = 0 then 1 else 0) ≤ 1
        rw [if_neg (by omega)]
        exact ih
  | t + 1, x => by
    have key : ∀ x, tot (pG k (t + 1)) x = tot (pG k t) x * (k - 1) + tot (pG k t) (x - 1) := by
      intro x
      induction x with
      | zero => simp [tot]
      | succ x ih =>
        have e1 : tot (pG k (t + 1)) (x + 1) = tot (pG k (t + 1)) x + (pG k t x * (k - 1) + (if 0 < x then pG k t (x - 1) else 0)) := rfl
        have e2 : tot (pG k t) (x + 1) = tot (pG k t) x + pG k t x := rfl
        rw [e1, ih, e2, Nat.add_mul]
        rcases Nat.eq_zero_or_pos x with e | e
        · subst e
          simp [tot]
        · rw [if_pos e, Nat.add_sub_cancel]
          have e3 : tot (pG k t) x = tot (pG k t) (x - 1) + pG k t (x - 1) := by
            obtain ⟨y, rfl⟩ : ∃ y, x = y + 1 := ⟨x - 1, by omega⟩
            rfl
          omega
    rw [key x]
    have h1 := pG_tot k hk t x
    have h2 := pG_tot k hk t (x - 1)
    have h3 : tot (pG k t) x * (k - 1) ≤ k ^ t * (k - 1) := Nat.mul_le_mul_right _ h1
    have h4 : k ^ (t + 1) = k ^ t * (k - 1) + k ^ t := by
      rw [Nat.pow_succ]
      obtain ⟨c, rfl⟩ : ∃ c, k = c + 1 := ⟨k - 1, by omega⟩
      rw [Nat.add_sub_cancel, Nat.mul_add, Nat.mul_one]
    omega
theorem atS_tot (g : Nat → Nat) (r : Nat) : ∀ k, tot g r + atS g r k = tot g (r + k)
  | 0 => rfl
  | k + 1 => by
    have h := atS_tot g r k
    show tot g r + (atS g r k + g (r + k)) = tot g (r + k) + g (r + k)
    omega
theorem atl_le (n r k : Nat) (hk : 1 ≤ k) : atl n r k ≤ k ^ n := by
  have h1 := atS_tot (pG k n) r (n + 1 - r)
  have h2 := pG_tot k hk n (r + (n + 1 - r))
  unfold atl
  omega
theorem sz_eq {A B0 : Nat} (hA : 1 ≤ A) (hB : 1 ≤ B0) : B0 / A + (if 0 < B0 % A then 1 else 0) = (B0 - 1) / A + 1 := by
  have h1 := Nat.div_add_mod B0 A
  have h3 := Nat.mod_lt B0 (show 0 < A by omega)
  generalize B0 / A = q at h1 ⊢
  generalize B0 % A = m at h1 h3 ⊢
  by_cases h : 0 < m
  · rw [if_pos h]
    have h5 : (B0 - 1) / A = q := by
      rw [show B0 - 1 = (m - 1) + A * q by omega, Nat.add_mul_div_left _ _ (show 0 < A by omega), Nat.div_eq_of_lt (by omega), Nat.zero_add]
    rw [h5]
  · rw [if_neg h]
    cases q with
    | zero => rw [Nat.mul_zero] at h1; omega
    | succ q =>
      rw [Nat.mul_succ] at h1
      have h5 : (B0 - 1) / A = q := by
        rw [show B0 - 1 = (A - 1) + A * q by omega, Nat.add_mul_div_left _ _ (show 0 < A by omega), Nat.div_eq_of_lt (by omega), Nat.zero_add]
      rw [h5]
def rwM (k : Nat) : Nat → Nat → Nat
  | 0, r => r
  | f + 1, r => if 3 ^ k / 20 < atl k r 3 then rwM k f (r + 1) else r
theorem okN_nx {nS k n : Nat} {mk ms : Nat → Nat} (h : ∀ j, j < nS → okN (mk j) (ms j)) (hkn : okN k n) : ∀ j, j < nS + 1 → okN (u1 mk nS k j) (u1 ms nS n j) := by
  intro j hj
  by_cases e : j = nS
  · rw [e, u1_eq, u1_eq]
    exact hkn
  · rw [u1_ne e, u1_ne e]
    exact h j (by omega)
set_option maxHeartbeats 400000 in
set_option maxRecDepth 100000 in
theorem c_M_test (l : Launch) (D : va_G) (κ : Nat → ClassId) (base : Nat) (H0 : Heap) {b : Nat} {sd : Int64} {nT nS th : Nat} {mk ms ma mr mt : Nat → Nat} (hR : RMo D κ base b sd nT nS mk ms ma mr mt th H0) (x y : Int32) : Met l yM_test wM_test ({ frames := 0, cells := 0, slots := 0, locals := 0 }) (Pq D κ base [.ref b, .int x, .int y] H0) (q_W (fun v H => (okK x y = false → v = some (.int (-1)) ∧ RMo D κ base b sd nT nS mk ms ma mr mt 0 H) ∧ (okK x y = true → 40 ≤ nS → v = some (.int (-2)) ∧ RMo D κ base b sd nT nS mk ms ma mr mt 0 H) ∧ (∀ k n, okN k n → x = nI k → y = nI n → nS < 40 → v = some (.int (nI nS)) ∧ RMo D κ base b sd nT (nS + 1) (u1 mk nS k) (u1 ms nS n) ma mr mt 0 H) ∧ FrM b H0 H)) 0 0 (OwnM b H0.size) := by
  refine Met.ofW (cc := bM_test) (maxL := 4) (ret := (some FieldType.int)) (by decide) rfl ?_
  intro p e s m args below meth c s₁ B hml hv
  obtain ⟨rfl, hH, hE⟩ := hv
  subst hH
  have hx := B.exec
  have hb := B.bytes
  have hr := B.returns
  have hT : ∀ w ∈ TT, w.before _ s = true := fun w h => atoms_spec (ws := wM_test) B.pre w (List.mem_cons_of_mem _ h)
  have hown : s.vm.findClass "TasterPanelsModel" = some m.cls := findClass_of_methodNamed B.named
  have hlocks := B.notSynchronized
  have hK := hE.1
  have hS : va_S (fun q => base ≤ q) s.heap s.heap [] := va_S.rf
  have hAb : ∀ q : Nat, (fun q : Nat => base ≤ q) q → base ≤ q := fun _ h => h
  have hl := lv_entry ([.ref b, .int x, .int y]) (n := 4) (Nat.le_of_ble_eq_true rfl)
  rw [lg_entry_eq]
  generalize (lg_sl ([.ref b, .int x, .int y]) ++ List.replicate (4 - (lg_sl ([.ref b, .int x, .int y])).length) Slot.unset).toArray = ls at hl ⊢
  have hl : lv_has ls 4 [(0, .ref b), (1, .int x), (2, .int y)] := hl
  obtain ⟨⟨F, wy, nx, hP⟩, ⟨hnT, hnS, hba, hbh, hth⟩, hmk, hma, hmr, hmt⟩ := hR
  have hbs : base ≤ s.heap.size := by omega
  have hP : va_P D vwCl [(b, .inr (3, [.long sd, .int (nI nT), .int (nI nS), .ref (b + 1), .ref (b + 2), .ref (b + 3), .ref (b + 4), .ref (b + 5), .ref (b + 6), .ref (b + 7), .ref (b + 8), .int (nI th)])), ((b + 1), .inl (κ 0, 40, .inl (fun j => nI (mk j)))), ((b + 2), .inl (κ 0, 40, .inl (fun j => nI (ms j)))), ((b + 3), .inl (κ 0, 1040, .inl (fun x => nI (ma x)))), ((b + 4), .inl (κ 0, 5200, .inl (fun x => nI (mr x)))), ((b + 5), .inl (κ 0, 416, .inl (fun x => nI (mt x)))), ((b + 6), .inl (κ 0, 120, .inl F)), ((b + 7), .inl (κ 2, 140, .inr (.inl wy))), ((b + 8), .inl (κ 2, 140, .inr (.inl nx)))] s.heap := hP
  have hnd : ([(b, .inr (3, [.long sd, .int (nI nT), .int (nI nS), .ref (b + 1), .ref (b + 2), .ref (b + 3), .ref (b + 4), .ref (b + 5), .ref (b + 6), .ref (b + 7), .ref (b + 8), .int (nI th)])), ((b + 1), .inl (κ 0, 40, .inl (fun j => nI (mk j)))), ((b + 2), .inl (κ 0, 40, .inl (fun j => nI (ms j)))), ((b + 3), .inl (κ 0, 1040, .inl (fun x => nI (ma x)))), ((b + 4), .inl (κ 0, 5200, .inl (fun x => nI (mr x)))), ((b + 5), .inl (κ 0, 416, .inl (fun x => nI (mt x)))), ((b + 6), .inl (κ 0, 120, .inl F)), ((b + 7), .inl (κ 2, 140, .inr (.inl wy))), ((b + 8), .inl (κ 2, 140, .inr (.inl nx)))] : va_W).map Prod.fst |>.Nodup := by simp only [List.map, List.nodup_cons, List.mem_cons, List.not_mem_nil, or_false, not_or, List.nodup_nil, and_true, not_false_eq_true, List.forall_mem_cons, forall_eq_or_imp, forall_eq]; omega
  have hD0 : va_D (fun q => base ≤ q) [(b, .inr (3, [.long sd, .int (nI nT), .int (nI nS), .ref (b + 1), .ref (b + 2), .ref (b + 3), .ref (b + 4), .ref (b + 5), .ref (b + 6), .ref (b + 7), .ref (b + 8), .int (nI th)])), ((b + 1), .inl (κ 0, 40, .inl (fun j => nI (mk j)))), ((b + 2), .inl (κ 0, 40, .inl (fun j => nI (ms j)))), ((b + 3), .inl (κ 0, 1040, .inl (fun x => nI (ma x)))), ((b + 4), .inl (κ 0, 5200, .inl (fun x => nI (mr x)))), ((b + 5), .inl (κ 0, 416, .inl (fun x => nI (mt x)))), ((b + 6), .inl (κ 0, 120, .inl F)), ((b + 7), .inl (κ 2, 140, .inr (.inl wy))), ((b + 8), .inl (κ 2, 140, .inr (.inl nx)))] := D_of hnd (by simp only [List.map, List.nodup_cons, List.mem_cons, List.not_mem_nil, or_false, not_or, List.nodup_nil, and_true, not_false_eq_true, List.forall_mem_cons, forall_eq_or_imp, forall_eq]; omega)
  have hD := hD0.self (sz := s.heap.size)
  have hAO : ∀ x9, va_A [(b, .inr (3, [.long sd, .int (nI nT), .int (nI nS), .ref (b + 1), .ref (b + 2), .ref (b + 3), .ref (b + 4), .ref (b + 5), .ref (b + 6), .ref (b + 7), .ref (b + 8), .int (nI th)])), ((b + 1), .inl (κ 0, 40, .inl (fun j => nI (mk j)))), ((b + 2), .inl (κ 0, 40, .inl (fun j => nI (ms j)))), ((b + 3), .inl (κ 0, 1040, .inl (fun x => nI (ma x)))), ((b + 4), .inl (κ 0, 5200, .inl (fun x => nI (mr x)))), ((b + 5), .inl (κ 0, 416, .inl (fun x => nI (mt x)))), ((b + 6), .inl (κ 0, 120, .inl F)), ((b + 7), .inl (κ 2, 140, .inr (.inl wy))), ((b + 8), .inl (κ 2, 140, .inr (.inl nx)))] s.heap.size x9 → OwnM b s.heap.size x9 := fun x9 h => by have h2 := A_addr h; simp only [List.map, List.mem_cons, List.not_mem_nil, or_false] at h2; unfold OwnM; omega
  have hAb : ∀ x9, va_A [(b, .inr (3, [.long sd, .int (nI nT), .int (nI nS), .ref (b + 1), .ref (b + 2), .ref (b + 3), .ref (b + 4), .ref (b + 5), .ref (b + 6), .ref (b + 7), .ref (b + 8), .int (nI th)])), ((b + 1), .inl (κ 0, 40, .inl (fun j => nI (mk j)))), ((b + 2), .inl (κ 0, 40, .inl (fun j => nI (ms j)))), ((b + 3), .inl (κ 0, 1040, .inl (fun x => nI (ma x)))), ((b + 4), .inl (κ 0, 5200, .inl (fun x => nI (mr x)))), ((b + 5), .inl (κ 0, 416, .inl (fun x => nI (mt x)))), ((b + 6), .inl (κ 0, 120, .inl F)), ((b + 7), .inl (κ 2, 140, .inr (.inl wy))), ((b + 8), .inl (κ 2, 140, .inr (.inl nx)))] s.heap.size x9 → base ≤ x9 := fun x9 h => by have h2 := hAO x9 h; unfold OwnM at h2; omega
  generalize hAe : va_A [(b, .inr (3, [.long sd, .int (nI nT), .int (nI nS), .ref (b + 1), .ref (b + 2), .ref (b + 3), .ref (b + 4), .ref (b + 5), .ref (b + 6), .ref (b + 7), .ref (b + 8), .int (nI th)])), ((b + 1), .inl (κ 0, 40, .inl (fun j => nI (mk j)))), ((b + 2), .inl (κ 0, 40, .inl (fun j => nI (ms j)))), ((b + 3), .inl (κ 0, 1040, .inl (fun x => nI (ma x)))), ((b + 4), .inl (κ 0, 5200, .inl (fun x => nI (mr x)))), ((b + 5), .inl (κ 0, 416, .inl (fun x => nI (mt x)))), ((b + 6), .inl (κ 0, 120, .inl F)), ((b + 7), .inl (κ 2, 140, .inr (.inl wy))), ((b + 8), .inl (κ 2, 140, .inr (.inl nx)))] s.heap.size = A at hD hAO hAb
  have hA : ∀ x9, s.heap.size ≤ x9 → A x9 := fun x9 h => by rw [← hAe]; exact Or.inr h
  have hS : va_S A s.heap s.heap [] := va_S.rf
  refine lv_aload_n hx hb dM_test_0 rfl (lv_at hl 0 rfl) ?_
  refine lv_iconst (v := nI 0) hx hb dM_test_1 (by decide) ?_
  refine va_put (D := D) (ci := 3) (v := .int (nI 0)) (ty := .int) (C := RM) (T := FM) (N := 12) hx hb hT inM tyM tyM_ok nmM hown hK hP hD hS 0 rfl rfl 11 (by decide) (hT _ kM39) (fun _ h9 => h9) rfl (by decide +kernel) rfl rfl (Nat.le_of_ble_eq_true rfl) dM_test_2 (fun H locs hP hD hS => ?_)
  have hP : va_P D vwCl [(b, .inr (3, [.long sd, .int (nI nT), .int (nI nS), .ref (b + 1), .ref (b + 2), .ref (b + 3), .ref (b + 4), .ref (b + 5), .ref (b + 6), .ref (b + 7), .ref (b + 8), .int (nI 0)])), ((b + 1), .inl (κ 0, 40, .inl (fun j => nI (mk j)))), ((b + 2), .inl (κ 0, 40, .inl (fun j => nI (ms j)))), ((b + 3), .inl (κ 0, 1040, .inl (fun x => nI (ma x)))), ((b + 4), .inl (κ 0, 5200, .inl (fun x => nI (mr x)))), ((b + 5), .inl (κ 0, 416, .inl (fun x => nI (mt x)))), ((b + 6), .inl (κ 0, 120, .inl F)), ((b + 7), .inl (κ 2, 140, .inr (.inl wy))), ((b + 8), .inl (κ 2, 140, .inr (.inl nx)))] H := hP
  have hD : va_D A [(b, .inr (3, [.long sd, .int (nI nT), .int (nI nS), .ref (b + 1), .ref (b + 2), .ref (b + 3), .ref (b + 4), .ref (b + 5), .ref (b + 6), .ref (b + 7), .ref (b + 8), .int (nI 0)])), ((b + 1), .inl (κ 0, 40, .inl (fun j => nI (mk j)))), ((b + 2), .inl (κ 0, 40, .inl (fun j => nI (ms j)))), ((b + 3), .inl (κ 0, 1040, .inl (fun x => nI (ma x)))), ((b + 4), .inl (κ 0, 5200, .inl (fun x => nI (mr x)))), ((b + 5), .inl (κ 0, 416, .inl (fun x => nI (mt x)))), ((b + 6), .inl (κ 0, 120, .inl F)), ((b + 7), .inl (κ 2, 140, .inr (.inl wy))), ((b + 8), .inl (κ 2, 140, .inr (.inl nx)))] := hD
  refine lv_iload_n hx hb dM_test_5 rfl (lv_at hl 1 rfl) ?_
  by_cases hok : okK x y = true
  · obtain ⟨k, n, hkn, rfl, rfl⟩ := okK_nat hok
    have hkn0 := hkn
    rcases hkn0 with ⟨rfl, rfl⟩ | ⟨rfl | rfl, rfl⟩ | ⟨rfl, hn2, hn5⟩
    · refine x_zne (a := 0) (tgt := 14) hx hb dM_test_6 (by decide) (by omega) (fun h1 => absurd h1 (by decide)) (fun h1 => ?_)
      refine lv_iload_n hx hb dM_test_9 rfl (lv_at hl 2 rfl) ?_
      refine lv_iconst (v := nI 3) hx hb dM_test_10 (by decide) ?_
      refine x_ceq (a := 3) (b := 3) (tgt := 44) hx hb dM_test_11 (by decide) (by omega) (by omega) (fun h2 => ?_) (fun h2 => absurd h2 (by decide))
      refine lv_iconst (v := nI 1) hx hb dM_test_44 (by decide) ?_
      refine lv_goto (tgt := 49) hx hb dM_test_45 (by decide) ?_
      refine lv_istore_n (lv' := [(3, .int (nI 1)), (0, .ref b), (1, .int (nI 0)), (2, .int (nI 3))]) hx hb dM_test_49 rfl hl (by decide) rfl (fun ls hl => ?_)
      refine lv_iload_n hx hb dM_test_50 rfl (lv_at hl 0 rfl) ?_
      refine x_zne (a := 1) (tgt := 56) hx hb dM_test_51 (by decide) (by omega) (fun h3 => ?_) (fun h3 => absurd h3 (by decide))
      refine lv_aload_n hx hb dM_test_56 rfl (lv_at hl 1 rfl) ?_
      refine va_get (D := D) (ci := 3) (v := .int (nI nS)) (C := RM) (T := FM) (N := 12) hx hb hT inM hown hK hP 0 rfl rfl 2 (by decide) (hT _ kM46) (fun _ h9 => h9) rfl dM_test_57 ?_
      refine lv_bipush (v := nI 40) hx hb dM_test_60 (by decide) ?_
      refine x_cne (a := nS) (b := 40) (tgt := 68) hx hb dM_test_62 (by decide) (by omega) (by omega) (fun g9 => ?_) (fun g9 => ?_)
      · have hnn : nS < 40 := by omega
        refine lv_aload_n hx hb dM_test_68 rfl (lv_at hl 1 rfl) ?_
        refine va_get (D := D) (ci := 3) (v := .ref (b + 1)) (C := RM) (T := FM) (N := 12) hx hb hT inM hown hK hP 0 rfl rfl 3 (by decide) (hT _ kM9) (fun _ h9 => h9) rfl dM_test_69 ?_
        refine lv_aload_n hx hb dM_test_72 rfl (lv_at hl 1 rfl) ?_
        refine va_get (D := D) (ci := 3) (v := .int (nI nS)) (C := RM) (T := FM) (N := 12) hx hb hT inM hown hK hP 0 rfl rfl 2 (by decide) (hT _ kM46) (fun _ h9 => h9) rfl dM_test_73 ?_
        refine lv_iload_n hx hb dM_test_76 rfl (lv_at hl 2 rfl) ?_
        refine x_iast hx hb hK hP hD hS 1 0 (j := nS) rfl rfl (by omega) (by decide) dM_test_77 (fun H locs hP hD hS => ?_)
        have hP : va_P D vwCl [(b, .inr (3, [.long sd, .int (nI nT), .int (nI nS), .ref (b + 1), .ref (b + 2), .ref (b + 3), .ref (b + 4), .ref (b + 5), .ref (b + 6), .ref (b + 7), .ref (b + 8), .int (nI 0)])), ((b + 1), .inl (κ 0, 40, .inl (upd (fun j => nI (mk j)) nS (nI 0)))), ((b + 2), .inl (κ 0, 40, .inl (fun j => nI (ms j)))), ((b + 3), .inl (κ 0, 1040, .inl (fun x => nI (ma x)))), ((b + 4), .inl (κ 0, 5200, .inl (fun x => nI (mr x)))), ((b + 5), .inl (κ 0, 416, .inl (fun x => nI (mt x)))), ((b + 6), .inl (κ 0, 120, .inl F)), ((b + 7), .inl (κ 2, 140, .inr (.inl wy))), ((b + 8), .inl (κ 2, 140, .inr (.inl nx)))] H := hP
        have hD : va_D A [(b, .inr (3, [.long sd, .int (nI nT), .int (nI nS), .ref (b + 1), .ref (b + 2), .ref (b + 3), .ref (b + 4), .ref (b + 5), .ref (b + 6), .ref (b + 7), .ref (b + 8), .int (nI 0)])), ((b + 1), .inl (κ 0, 40, .inl (upd (fun j => nI (mk j)) nS (nI 0)))), ((b + 2), .inl (κ 0, 40, .inl (fun j => nI (ms j)))), ((b + 3), .inl (κ 0, 1040, .inl (fun x => nI (ma x)))), ((b + 4), .inl (κ 0, 5200, .inl (fun x => nI (mr x)))), ((b + 5), .inl (κ 0, 416, .inl (fun x => nI (mt x)))), ((b + 6), .inl (κ 0, 120, .inl F)), ((b + 7), .inl (κ 2, 140, .inr (.inl wy))), ((b + 8), .inl (κ 2, 140, .inr (.inl nx)))] := hD
        refine lv_aload_n hx hb dM_test_78 rfl (lv_at hl 1 rfl) ?_
        refine va_get (D := D) (ci := 3) (v := .ref (b + 2)) (C := RM) (T := FM) (N := 12) hx hb hT inM hown hK hP 0 rfl rfl 4 (by decide) (hT _ kM13) (fun _ h9 => h9) rfl dM_test_79 ?_
        refine lv_aload_n hx hb dM_test_82 rfl (lv_at hl 1 rfl) ?_
        refine va_get (D := D) (ci := 3) (v := .int (nI nS)) (C := RM) (T := FM) (N := 12) hx hb hT inM hown hK hP 0 rfl rfl 2 (by decide) (hT _ kM46) (fun _ h9 => h9) rfl dM_test_83 ?_
        refine lv_iload_n hx hb dM_test_86 rfl (lv_at hl 3 rfl) ?_
        refine x_iast hx hb hK hP hD hS 2 0 (j := nS) rfl rfl (by omega) (by decide) dM_test_87 (fun H locs hP hD hS => ?_)
        have hP : va_P D vwCl [(b, .inr (3, [.long sd, .int (nI nT), .int (nI nS), .ref (b + 1), .ref (b + 2), .ref (b + 3), .ref (b + 4), .ref (b + 5), .ref (b + 6), .ref (b + 7), .ref (b + 8), .int (nI 0)])), ((b + 1), .inl (κ 0, 40, .inl (upd (fun j => nI (mk j)) nS (nI 0)))), ((b + 2), .inl (κ 0, 40, .inl (upd (fun j => nI (ms j)) nS (nI 3)))), ((b + 3), .inl (κ 0, 1040, .inl (fun x => nI (ma x)))), ((b + 4), .inl (κ 0, 5200, .inl (fun x => nI (mr x)))), ((b + 5), .inl (κ 0, 416, .inl (fun x => nI (mt x)))), ((b + 6), .inl (κ 0, 120, .inl F)), ((b + 7), .inl (κ 2, 140, .inr (.inl wy))), ((b + 8), .inl (κ 2, 140, .inr (.inl nx)))] H := hP
        have hD : va_D A [(b, .inr (3, [.long sd, .int (nI nT), .int (nI nS), .ref (b + 1), .ref (b + 2), .ref (b + 3), .ref (b + 4), .ref (b + 5), .ref (b + 6), .ref (b + 7), .ref (b + 8), .int (nI 0)])), ((b + 1), .inl (κ 0, 40, .inl (upd (fun j => nI (mk j)) nS (nI 0)))), ((b + 2), .inl (κ 0, 40, .inl (upd (fun j => nI (ms j)) nS (nI 3)))), ((b + 3), .inl (κ 0, 1040, .inl (fun x => nI (ma x)))), ((b + 4), .inl (κ 0, 5200, .inl (fun x => nI (mr x)))), ((b + 5), .inl (κ 0, 416, .inl (fun x => nI (mt x)))), ((b + 6), .inl (κ 0, 120, .inl F)), ((b + 7), .inl (κ 2, 140, .inr (.inl wy))), ((b + 8), .inl (κ 2, 140, .inr (.inl nx)))] := hD
        refine lv_aload_n hx hb dM_test_88 rfl (lv_at hl 1 rfl) ?_
        refine lv_dup hx hb dM_test_89 rfl ?_
        refine va_get (D := D) (ci := 3) (v := .int (nI nS)) (C := RM) (T := FM) (N := 12) hx hb hT inM hown hK hP 0 rfl rfl 2 (by decide) (hT _ kM46) (fun _ h9 => h9) rfl dM_test_90 ?_
        refine lv_iconst (v := nI 1) hx hb dM_test_93 (by decide) ?_
        refine x_iadd (v := nI (nS + 1)) hx hb dM_test_94 (nI_add _ _) ?_
        refine va_put (D := D) (ci := 3) (v := .int (nI (nS + 1))) (ty := .int) (C := RM) (T := FM) (N := 12) hx hb hT inM tyM tyM_ok nmM hown hK hP hD hS 0 rfl rfl 2 (by decide) (hT _ kM46) (fun _ h9 => h9) rfl (by decide +kernel) rfl rfl (Nat.le_of_ble_eq_true rfl) dM_test_95 (fun H locs hP hD hS => ?_)
        have hP : va_P D vwCl [(b, .inr (3, [.long sd, .int (nI nT), .int (nI (nS + 1)), .ref (b + 1), .ref (b + 2), .ref (b + 3), .ref (b + 4), .ref (b + 5), .ref (b + 6), .ref (b + 7), .ref (b + 8), .int (nI 0)])), ((b + 1), .inl (κ 0, 40, .inl (upd (fun j => nI (mk j)) nS (nI 0)))), ((b + 2), .inl (κ 0, 40, .inl (upd (fun j => nI (ms j)) nS (nI 3)))), ((b + 3), .inl (κ 0, 1040, .inl (fun x => nI (ma x)))), ((b + 4), .inl (κ 0, 5200, .inl (fun x => nI (mr x)))), ((b + 5), .inl (κ 0, 416, .inl (fun x => nI (mt x)))), ((b + 6), .inl (κ 0, 120, .inl F)), ((b + 7), .inl (κ 2, 140, .inr (.inl wy))), ((b + 8), .inl (κ 2, 140, .inr (.inl nx)))] H := hP
        have hD : va_D A [(b, .inr (3, [.long sd, .int (nI nT), .int (nI (nS + 1)), .ref (b + 1), .ref (b + 2), .ref (b + 3), .ref (b + 4), .ref (b + 5), .ref (b + 6), .ref (b + 7), .ref (b + 8), .int (nI 0)])), ((b + 1), .inl (κ 0, 40, .inl (upd (fun j => nI (mk j)) nS (nI 0)))), ((b + 2), .inl (κ 0, 40, .inl (upd (fun j => nI (ms j)) nS (nI 3)))), ((b + 3), .inl (κ 0, 1040, .inl (fun x => nI (ma x)))), ((b + 4), .inl (κ 0, 5200, .inl (fun x => nI (mr x)))), ((b + 5), .inl (κ 0, 416, .inl (fun x => nI (mt x)))), ((b + 6), .inl (κ 0, 120, .inl F)), ((b + 7), .inl (κ 2, 140, .inr (.inl wy))), ((b + 8), .inl (κ 2, 140, .inr (.inl nx)))] := hD
        refine lv_aload_n hx hb dM_test_98 rfl (lv_at hl 1 rfl) ?_
        refine va_get (D := D) (ci := 3) (v := .int (nI (nS + 1))) (C := RM) (T := FM) (N := 12) hx hb hT inM hown hK hP 0 rfl rfl 2 (by decide) (hT _ kM46) (fun _ h9 => h9) rfl dM_test_99 ?_
        refine lv_iconst (v := nI 1) hx hb dM_test_102 (by decide) ?_
        refine x_isub (v := nI ((nS + 1) - 1)) hx hb dM_test_103 (pk_sub (by omega)) ?_
        refine x_topn (b := nS) (by omega) ?_
        rw [u1_upd, u1_upd] at hP hD
        have hP : va_P D vwCl [(b, .inr (3, [.long sd, .int (nI nT), .int (nI (nS + 1)), .ref (b + 1), .ref (b + 2), .ref (b + 3), .ref (b + 4), .ref (b + 5), .ref (b + 6), .ref (b + 7), .ref (b + 8), .int (nI 0)])), ((b + 1), .inl (κ 0, 40, .inl (fun x => nI (u1 mk nS 0 x)))), ((b + 2), .inl (κ 0, 40, .inl (fun x => nI (u1 ms nS 3 x)))), ((b + 3), .inl (κ 0, 1040, .inl (fun x => nI (ma x)))), ((b + 4), .inl (κ 0, 5200, .inl (fun x => nI (mr x)))), ((b + 5), .inl (κ 0, 416, .inl (fun x => nI (mt x)))), ((b + 6), .inl (κ 0, 120, .inl F)), ((b + 7), .inl (κ 2, 140, .inr (.inl wy))), ((b + 8), .inl (κ 2, 140, .inr (.inl nx)))] H := hP
        have hD : va_D A [(b, .inr (3, [.long sd, .int (nI nT), .int (nI (nS + 1)), .ref (b + 1), .ref (b + 2), .ref (b + 3), .ref (b + 4), .ref (b + 5), .ref (b + 6), .ref (b + 7), .ref (b + 8), .int (nI 0)])), ((b + 1), .inl (κ 0, 40, .inl (fun x => nI (u1 mk nS 0 x)))), ((b + 2), .inl (κ 0, 40, .inl (fun x => nI (u1 ms nS 3 x)))), ((b + 3), .inl (κ 0, 1040, .inl (fun x => nI (ma x)))), ((b + 4), .inl (κ 0, 5200, .inl (fun x => nI (mr x)))), ((b + 5), .inl (κ 0, 416, .inl (fun x => nI (mt x)))), ((b + 6), .inl (κ 0, 120, .inl F)), ((b + 7), .inl (κ 2, 140, .inr (.inl wy))), ((b + 8), .inl (κ 2, 140, .inr (.inl nx)))] := hD
        have hmk2 := okN_nx hmk hkn
        have hinj : ∀ k2 n2, okN k2 n2 → nI 0 = nI k2 → nI 3 = nI n2 → k2 = 0 ∧ n2 = 3 := fun k2 n2 h e1 e2 => by have h1 := h.lt; have h2 := hkn.lt; exact ⟨(nI_inj (by omega) (by omega) e1).symm, (nI_inj (by omega) (by omega) e2).symm⟩
        have hP := hP.sub (ws' := [(b, .inr (3, [.long sd, .int (nI nT), .int (nI (nS + 1)), .ref (b + 1), .ref (b + 2), .ref (b + 3), .ref (b + 4), .ref (b + 5), .ref (b + 6), .ref (b + 7), .ref (b + 8), .int (nI 0)])), ((b + 1), .inl (κ 0, 40, .inl (fun x => nI (u1 mk nS 0 x)))), ((b + 2), .inl (κ 0, 40, .inl (fun x => nI (u1 ms nS 3 x)))), ((b + 3), .inl (κ 0, 1040, .inl (fun x => nI (ma x)))), ((b + 4), .inl (κ 0, 5200, .inl (fun x => nI (mr x)))), ((b + 5), .inl (κ 0, 416, .inl (fun x => nI (mt x)))), ((b + 6), .inl (κ 0, 120, .inl F)), ((b + 7), .inl (κ 2, 140, .inr (.inl wy))), ((b + 8), .inl (κ 2, 140, .inr (.inl nx)))]) [0, 1, 2, 3, 4, 5, 6, 7, 8] rfl
        have hD := hD.sub (ws' := [(b, .inr (3, [.long sd, .int (nI nT), .int (nI (nS + 1)), .ref (b + 1), .ref (b + 2), .ref (b + 3), .ref (b + 4), .ref (b + 5), .ref (b + 6), .ref (b + 7), .ref (b + 8), .int (nI 0)])), ((b + 1), .inl (κ 0, 40, .inl (fun x => nI (u1 mk nS 0 x)))), ((b + 2), .inl (κ 0, 40, .inl (fun x => nI (u1 ms nS 3 x)))), ((b + 3), .inl (κ 0, 1040, .inl (fun x => nI (ma x)))), ((b + 4), .inl (κ 0, 5200, .inl (fun x => nI (mr x)))), ((b + 5), .inl (κ 0, 416, .inl (fun x => nI (mt x)))), ((b + 6), .inl (κ 0, 120, .inl F)), ((b + 7), .inl (κ 2, 140, .inr (.inl wy))), ((b + 8), .inl (κ 2, 140, .inr (.inl nx)))]) [0, 1, 2, 3, 4, 5, 6, 7, 8] (by decide) rfl
        exact W.iret (v := nI nS) hx hb hr (fun t9 ht9 hW9 => ⟨some (.int (nI nS)), rfl, by rw [ht9]; exact ⟨fun q => absurd q (by rw [hok]; decide), fun _ q => absurd q (by omega), fun k2 n2 h2 e1 e2 _ => by obtain ⟨rfl, rfl⟩ := hinj k2 n2 h2 e1 e2; exact ⟨rfl, ⟨⟨_, _, _, hP⟩, ⟨⟨hnT, by omega, hba, Nat.le_trans hbh hS.1, by omega⟩, hmk2, hma, hmr, hmt⟩⟩⟩, ⟨hS.1, fun q h1 h2 => hS.2.1 q h1 (fun z => h2 (hAO q z))⟩⟩⟩) (fun q h => hAO _ (hS.2.2 q h)) dM_test_104
      · refine lv_bipush (v := -2) hx hb dM_test_65 (by decide) ?_
        have hP := hP.sub (ws' := [(b, .inr (3, [.long sd, .int (nI nT), .int (nI nS), .ref (b + 1), .ref (b + 2), .ref (b + 3), .ref (b + 4), .ref (b + 5), .ref (b + 6), .ref (b + 7), .ref (b + 8), .int (nI 0)])), ((b + 1), .inl (κ 0, 40, .inl (fun j => nI (mk j)))), ((b + 2), .inl (κ 0, 40, .inl (fun j => nI (ms j)))), ((b + 3), .inl (κ 0, 1040, .inl (fun x => nI (ma x)))), ((b + 4), .inl (κ 0, 5200, .inl (fun x => nI (mr x)))), ((b + 5), .inl (κ 0, 416, .inl (fun x => nI (mt x)))), ((b + 6), .inl (κ 0, 120, .inl F)), ((b + 7), .inl (κ 2, 140, .inr (.inl wy))), ((b + 8), .inl (κ 2, 140, .inr (.inl nx)))]) [0, 1, 2, 3, 4, 5, 6, 7, 8] rfl
        have hD := hD.sub (ws' := [(b, .inr (3, [.long sd, .int (nI nT), .int (nI nS), .ref (b + 1), .ref (b + 2), .ref (b + 3), .ref (b + 4), .ref (b + 5), .ref (b + 6), .ref (b + 7), .ref (b + 8), .int (nI 0)])), ((b + 1), .inl (κ 0, 40, .inl (fun j => nI (mk j)))), ((b + 2), .inl (κ 0, 40, .inl (fun j => nI (ms j)))), ((b + 3), .inl (κ 0, 1040, .inl (fun x => nI (ma x)))), ((b + 4), .inl (κ 0, 5200, .inl (fun x => nI (mr x)))), ((b + 5), .inl (κ 0, 416, .inl (fun x => nI (mt x)))), ((b + 6), .inl (κ 0, 120, .inl F)), ((b + 7), .inl (κ 2, 140, .inr (.inl wy))), ((b + 8), .inl (κ 2, 140, .inr (.inl nx)))]) [0, 1, 2, 3, 4, 5, 6, 7, 8] (by decide) rfl
        exact W.iret (v := -2) hx hb hr (fun t9 ht9 hW9 => ⟨some (.int (-2)), rfl, by rw [ht9]; exact ⟨fun q => absurd q (by rw [hok]; decide), fun _ _ => ⟨rfl, ⟨⟨_, _, _, hP⟩, ⟨⟨hnT, hnS, hba, Nat.le_trans hbh hS.1, by omega⟩, hmk, hma, hmr, hmt⟩⟩⟩, fun _ _ _ _ _ q => absurd q (by omega), ⟨hS.1, fun q h1 h2 => hS.2.1 q h1 (fun z => h2 (hAO q z))⟩⟩⟩) (fun q h => hAO _ (hS.2.2 q h)) dM_test_67
    · refine x_zne (a := 1) (tgt := 14) hx hb dM_test_6 (by decide) (by omega) (fun h4 => ?_) (fun h4 => absurd h4 (by decide))
      refine lv_iload_n hx hb dM_test_14 rfl (lv_at hl 1 rfl) ?_
      refine lv_iconst (v := nI 1) hx hb dM_test_15 (by decide) ?_
      refine x_ceq (a := 1) (b := 1) (tgt := 24) hx hb dM_test_16 (by decide) (by omega) (by omega) (fun h5 => ?_) (fun h5 => absurd h5 (by decide))
      refine lv_iload_n hx hb dM_test_24 rfl (lv_at hl 2 rfl) ?_
      refine lv_iconst (v := nI 2) hx hb dM_test_25 (by decide) ?_
      refine x_ceq (a := 2) (b := 2) (tgt := 44) hx hb dM_test_26 (by decide) (by omega) (by omega) (fun h6 => ?_) (fun h6 => absurd h6 (by decide))
      refine lv_iconst (v := nI 1) hx hb dM_test_44 (by decide) ?_
      refine lv_goto (tgt := 49) hx hb dM_test_45 (by decide) ?_
      refine lv_istore_n (lv' := [(3, .int (nI 1)), (0, .ref b), (1, .int (nI 1)), (2, .int (nI 2))]) hx hb dM_test_49 rfl hl (by decide) rfl (fun ls hl => ?_)
      refine lv_iload_n hx hb dM_test_50 rfl (lv_at hl 0 rfl) ?_
      refine x_zne (a := 1) (tgt := 56) hx hb dM_test_51 (by decide) (by omega) (fun h7 => ?_) (fun h7 => absurd h7 (by decide))
      refine lv_aload_n hx hb dM_test_56 rfl (lv_at hl 1 rfl) ?_
      refine va_get (D := D) (ci := 3) (v := .int (nI nS)) (C := RM) (T := FM) (N := 12) hx hb hT inM hown hK hP 0 rfl rfl 2 (by decide) (hT _ kM46) (fun _ h9 => h9) rfl dM_test_57 ?_
      refine lv_bipush (v := nI 40) hx hb dM_test_60 (by decide) ?_
      refine x_cne (a := nS) (b := 40) (tgt := 68) hx hb dM_test_62 (by decide) (by omega) (by omega) (fun g9 => ?_) (fun g9 => ?_)
      · have hnn : nS < 40 := by omega
        refine lv_aload_n hx hb dM_test_68 rfl (lv_at hl 1 rfl) ?_
        refine va_get (D := D) (ci := 3) (v := .ref (b + 1)) (C := RM) (T := FM) (N := 12) hx hb hT inM hown hK hP 0 rfl rfl 3 (by decide) (hT _ kM9) (fun _ h9 => h9) rfl dM_test_69 ?_
        refine lv_aload_n hx hb dM_test_72 rfl (lv_at hl 1 rfl) ?_
        refine va_get (D := D) (ci := 3) (v := .int (nI nS)) (C := RM) (T := FM) (N := 12) hx hb hT inM hown hK hP 0 rfl rfl 2 (by decide) (hT _ kM46) (fun _ h9 => h9) rfl dM_test_73 ?_
        refine lv_iload_n hx hb dM_test_76 rfl (lv_at hl 2 rfl) ?_
        refine x_iast hx hb hK hP hD hS 1 0 (j := nS) rfl rfl (by omega) (by decide) dM_test_77 (fun H locs hP hD hS => ?_)
        have hP : va_P D vwCl [(b, .inr (3, [.long sd, .int (nI nT), .int (nI nS), .ref (b + 1), .ref (b + 2), .ref (b + 3), .ref (b + 4), .ref (b + 5), .ref (b + 6), .ref (b + 7), .ref (b + 8), .int (nI 0)])), ((b + 1), .inl (κ 0, 40, .inl (upd (fun j => nI (mk j)) nS (nI 1)))), ((b + 2), .inl (κ 0, 40, .inl (fun j => nI (ms j)))), ((b + 3), .inl (κ 0, 1040, .inl (fun x => nI (ma x)))), ((b + 4), .inl (κ 0, 5200, .inl (fun x => nI (mr x)))), ((b + 5), .inl (κ 0, 416, .inl (fun x => nI (mt x)))), ((b + 6), .inl (κ 0, 120, .inl F)), ((b + 7), .inl (κ 2, 140, .inr (.inl wy))), ((b + 8), .inl (κ 2, 140, .inr (.inl nx)))] H := hP
        have hD : va_D A [(b, .inr (3, [.long sd, .int (nI nT), .int (nI nS), .ref (b + 1), .ref (b + 2), .ref (b + 3), .ref (b + 4), .ref (b + 5), .ref (b + 6), .ref (b + 7), .ref (b + 8), .int (nI 0)])), ((b + 1), .inl (κ 0, 40, .inl (upd (fun j => nI (mk j)) nS (nI 1)))), ((b + 2), .inl (κ 0, 40, .inl (fun j => nI (ms j)))), ((b + 3), .inl (κ 0, 1040, .inl (fun x => nI (ma x)))), ((b + 4), .inl (κ 0, 5200, .inl (fun x => nI (mr x)))), ((b + 5), .inl (κ 0, 416, .inl (fun x => nI (mt x)))), ((b + 6), .inl (κ 0, 120, .inl F)), ((b + 7), .inl (κ 2, 140, .inr (.inl wy))), ((b + 8), .inl (κ 2, 140, .inr (.inl nx)))] := hD
        refine lv_aload_n hx hb dM_test_78 rfl (lv_at hl 1 rfl) ?_
        refine va_get (D := D) (ci := 3) (v := .ref (b + 2)) (C := RM) (T := FM) (N := 12) hx hb hT inM hown hK hP 0 rfl rfl 4 (by decide) (hT _ kM13) (fun _ h9 => h9) rfl dM_test_79 ?_
        refine lv_aload_n hx hb dM_test_82 rfl (lv_at hl 1 rfl) ?_
        refine va_get (D := D) (ci := 3) (v := .int (nI nS)) (C := RM) (T := FM) (N := 12) hx hb hT inM hown hK hP 0 rfl rfl 2 (by decide) (hT _ kM46) (fun _ h9 => h9) rfl dM_test_83 ?_
        refine lv_iload_n hx hb dM_test_86 rfl (lv_at hl 3 rfl) ?_
        refine x_iast hx hb hK hP hD hS 2 0 (j := nS) rfl rfl (by omega) (by decide) dM_test_87 (fun H locs hP hD hS => ?_)
        have hP : va_P D vwCl [(b, .inr (3, [.long sd, .int (nI nT), .int (nI nS), .ref (b + 1), .ref (b + 2), .ref (b + 3), .ref (b + 4), .ref (b + 5), .ref (b + 6), .ref (b + 7), .ref (b + 8), .int (nI 0)])), ((b + 1), .inl (κ 0, 40, .inl (upd (fun j => nI (mk j)) nS (nI 1)))), ((b + 2), .inl (κ 0, 40, .inl (upd (fun j => nI (ms j)) nS (nI 2)))), ((b + 3), .inl (κ 0, 1040, .inl (fun x => nI (ma x)))), ((b + 4), .inl (κ 0, 5200, .inl (fun x => nI (mr x)))), ((b + 5), .inl (κ 0, 416, .inl (fun x => nI (mt x)))), ((b + 6), .inl (κ 0, 120, .inl F)), ((b + 7), .inl (κ 2, 140, .inr (.inl wy))), ((b + 8), .inl (κ 2, 140, .inr (.inl nx)))] H := hP
        have hD : va_D A [(b, .inr (3, [.long sd, .int (nI nT), .int (nI nS), .ref (b + 1), .ref (b + 2), .ref (b + 3), .ref (b + 4), .ref (b + 5), .ref (b + 6), .ref (b + 7), .ref (b + 8), .int (nI 0)])), ((b + 1), .inl (κ 0, 40, .inl (upd (fun j => nI (mk j)) nS (nI 1)))), ((b + 2), .inl (κ 0, 40, .inl (upd (fun j => nI (ms j)) nS (nI 2)))), ((b + 3), .inl (κ 0, 1040, .inl (fun x => nI (ma x)))), ((b + 4), .inl (κ 0, 5200, .inl (fun x => nI (mr x)))), ((b + 5), .inl (κ 0, 416, .inl (fun x => nI (mt x)))), ((b + 6), .inl (κ 0, 120, .inl F)), ((b + 7), .inl (κ 2, 140, .inr (.inl wy))), ((b + 8), .inl (κ 2, 140, .inr (.inl nx)))] := hD
        refine lv_aload_n hx hb dM_test_88 rfl (lv_at hl 1 rfl) ?_
        refine lv_dup hx hb dM_test_89 rfl ?_
        refine va_get (D := D) (ci := 3) (v := .int (nI nS)) (C := RM) (T := FM) (N := 12) hx hb hT inM hown hK hP 0 rfl rfl 2 (by decide) (hT _ kM46) (fun _ h9 => h9) rfl dM_test_90 ?_
        refine lv_iconst (v := nI 1) hx hb dM_test_93 (by decide) ?_
        refine x_iadd (v := nI (nS + 1)) hx hb dM_test_94 (nI_add _ _) ?_
        refine va_put (D := D) (ci := 3) (v := .int (nI (nS + 1))) (ty := .int) (C := RM) (T := FM) (N := 12) hx hb hT inM tyM tyM_ok nmM hown hK hP hD hS 0 rfl rfl 2 (by decide) (hT _ kM46) (fun _ h9 => h9) rfl (by decide +kernel) rfl rfl (Nat.le_of_ble_eq_true rfl) dM_test_95 (fun H locs hP hD hS => ?_)
        have hP : va_P D vwCl [(b, .inr (3, [.long sd, .int (nI nT), .int (nI (nS + 1)), .ref (b + 1), .ref (b + 2), .ref (b + 3), .ref (b + 4), .ref (b + 5), .ref (b + 6), .ref (b + 7), .ref (b + 8), .int (nI 0)])), ((b + 1), .inl (κ 0, 40, .inl (upd (fun j => nI (mk j)) nS (nI 1)))), ((b + 2), .inl (κ 0, 40, .inl (upd (fun j => nI (ms j)) nS (nI 2)))), ((b + 3), .inl (κ 0, 1040, .inl (fun x => nI (ma x)))), ((b + 4), .inl (κ 0, 5200, .inl (fun x => nI (mr x)))), ((b + 5), .inl (κ 0, 416, .inl (fun x => nI (mt x)))), ((b + 6), .inl (κ 0, 120, .inl F)), ((b + 7), .inl (κ 2, 140, .inr (.inl wy))), ((b + 8), .inl (κ 2, 140, .inr (.inl nx)))] H := hP
        have hD : va_D A [(b, .inr (3, [.long sd, .int (nI nT), .int (nI (nS + 1)), .ref (b + 1), .ref (b + 2), .ref (b + 3), .ref (b + 4), .ref (b + 5), .ref (b + 6), .ref (b + 7), .ref (b + 8), .int (nI 0)])), ((b + 1), .inl (κ 0, 40, .inl (upd (fun j => nI (mk j)) nS (nI 1)))), ((b + 2), .inl (κ 0, 40, .inl (upd (fun j => nI (ms j)) nS (nI 2)))), ((b + 3), .inl (κ 0, 1040, .inl (fun x => nI (ma x)))), ((b + 4), .inl (κ 0, 5200, .inl (fun x => nI (mr x)))), ((b + 5), .inl (κ 0, 416, .inl (fun x => nI (mt x)))), ((b + 6), .inl (κ 0, 120, .inl F)), ((b + 7), .inl (κ 2, 140, .inr (.inl wy))), ((b + 8), .inl (κ 2, 140, .inr (.inl nx)))] := hD
        refine lv_aload_n hx hb dM_test_98 rfl (lv_at hl 1 rfl) ?_
        refine va_get (D := D) (ci := 3) (v := .int (nI (nS + 1))) (C := RM) (T := FM) (N := 12) hx hb hT inM hown hK hP 0 rfl rfl 2 (by decide) (hT _ kM46) (fun _ h9 => h9) rfl dM_test_99 ?_
        refine lv_iconst (v := nI 1) hx hb dM_test_102 (by decide) ?_
        refine x_isub (v := nI ((nS + 1) - 1)) hx hb dM_test_103 (pk_sub (by omega)) ?_
        refine x_topn (b := nS) (by omega) ?_
        rw [u1_upd, u1_upd] at hP hD
        have hP : va_P D vwCl [(b, .inr (3, [.long sd, .int (nI nT), .int (nI (nS + 1)), .ref (b + 1), .ref (b + 2), .ref (b + 3), .ref (b + 4), .ref (b + 5), .ref (b + 6), .ref (b + 7), .ref (b + 8), .int (nI 0)])), ((b + 1), .inl (κ 0, 40, .inl (fun x => nI (u1 mk nS 1 x)))), ((b + 2), .inl (κ 0, 40, .inl (fun x => nI (u1 ms nS 2 x)))), ((b + 3), .inl (κ 0, 1040, .inl (fun x => nI (ma x)))), ((b + 4), .inl (κ 0, 5200, .inl (fun x => nI (mr x)))), ((b + 5), .inl (κ 0, 416, .inl (fun x => nI (mt x)))), ((b + 6), .inl (κ 0, 120, .inl F)), ((b + 7), .inl (κ 2, 140, .inr (.inl wy))), ((b + 8), .inl (κ 2, 140, .inr (.inl nx)))] H := hP
        have hD : va_D A [(b, .inr (3, [.long sd, .int (nI nT), .int (nI (nS + 1)), .ref (b + 1), .ref (b + 2), .ref (b + 3), .ref (b + 4), .ref (b + 5), .ref (b + 6), .ref (b + 7), .ref (b + 8), .int (nI 0)])), ((b + 1), .inl (κ 0, 40, .inl (fun x => nI (u1 mk nS 1 x)))), ((b + 2), .inl (κ 0, 40, .inl (fun x => nI (u1 ms nS 2 x)))), ((b + 3), .inl (κ 0, 1040, .inl (fun x => nI (ma x)))), ((b + 4), .inl (κ 0, 5200, .inl (fun x => nI (mr x)))), ((b + 5), .inl (κ 0, 416, .inl (fun x => nI (mt x)))), ((b + 6), .inl (κ 0, 120, .inl F)), ((b + 7), .inl (κ 2, 140, .inr (.inl wy))), ((b + 8), .inl (κ 2, 140, .inr (.inl nx)))] := hD
        have hmk2 := okN_nx hmk hkn
        have hinj : ∀ k2 n2, okN k2 n2 → nI 1 = nI k2 → nI 2 = nI n2 → k2 = 1 ∧ n2 = 2 := fun k2 n2 h e1 e2 => by have h1 := h.lt; have h2 := hkn.lt; exact ⟨(nI_inj (by omega) (by omega) e1).symm, (nI_inj (by omega) (by omega) e2).symm⟩
        have hP := hP.sub (ws' := [(b, .inr (3, [.long sd, .int (nI nT), .int (nI (nS + 1)), .ref (b + 1), .ref (b + 2), .ref (b + 3), .ref (b + 4), .ref (b + 5), .ref (b + 6), .ref (b + 7), .ref (b + 8), .int (nI 0)])), ((b + 1), .inl (κ 0, 40, .inl (fun x => nI (u1 mk nS 1 x)))), ((b + 2), .inl (κ 0, 40, .inl (fun x => nI (u1 ms nS 2 x)))), ((b + 3), .inl (κ 0, 1040, .inl (fun x => nI (ma x)))), ((b + 4), .inl (κ 0, 5200, .inl (fun x => nI (mr x)))), ((b + 5), .inl (κ 0, 416, .inl (fun x => nI (mt x)))), ((b + 6), .inl (κ 0, 120, .inl F)), ((b + 7), .inl (κ 2, 140, .inr (.inl wy))), ((b + 8), .inl (κ 2, 140, .inr (.inl nx)))]) [0, 1, 2, 3, 4, 5, 6, 7, 8] rfl
        have hD := hD.sub (ws' := [(b, .inr (3, [.long sd, .int (nI nT), .int (nI (nS + 1)), .ref (b + 1), .ref (b + 2), .ref (b + 3), .ref (b + 4), .ref (b + 5), .ref (b + 6), .ref (b + 7), .ref (b + 8), .int (nI 0)])), ((b + 1), .inl (κ 0, 40, .inl (fun x => nI (u1 mk nS 1 x)))), ((b + 2), .inl (κ 0, 40, .inl (fun x => nI (u1 ms nS 2 x)))), ((b + 3), .inl (κ 0, 1040, .inl (fun x => nI (ma x)))), ((b + 4), .inl (κ 0, 5200, .inl (fun x => nI (mr x)))), ((b + 5), .inl (κ 0, 416, .inl (fun x => nI (mt x)))), ((b + 6), .inl (κ 0, 120, .inl F)), ((b + 7), .inl (κ 2, 140, .inr (.inl wy))), ((b + 8), .inl (κ 2, 140, .inr (.inl nx)))]) [0, 1, 2, 3, 4, 5, 6, 7, 8] (by decide) rfl
        exact W.iret (v := nI nS) hx hb hr (fun t9 ht9 hW9 => ⟨some (.int (nI nS)), rfl, by rw [ht9]; exact ⟨fun q => absurd q (by rw [hok]; decide), fun _ q => absurd q (by omega), fun k2 n2 h2 e1 e2 _ => by obtain ⟨rfl, rfl⟩ := hinj k2 n2 h2 e1 e2; exact ⟨rfl, ⟨⟨_, _, _, hP⟩, ⟨⟨hnT, by omega, hba, Nat.le_trans hbh hS.1, by omega⟩, hmk2, hma, hmr, hmt⟩⟩⟩, ⟨hS.1, fun q h1 h2 => hS.2.1 q h1 (fun z => h2 (hAO q z))⟩⟩⟩) (fun q h => hAO _ (hS.2.2 q h)) dM_test_104
      · refine lv_bipush (v := -2) hx hb dM_test_65 (by decide) ?_
        have hP := hP.sub (ws' := [(b, .inr (3, [.long sd, .int (nI nT), .int (nI nS), .ref (b + 1), .ref (b + 2), .ref (b + 3), .ref (b + 4), .ref (b + 5), .ref (b + 6), .ref (b + 7), .ref (b + 8), .int (nI 0)])), ((b + 1), .inl (κ 0, 40, .inl (fun j => nI (mk j)))), ((b + 2), .inl (κ 0, 40, .inl (fun j => nI (ms j)))), ((b + 3), .inl (κ 0, 1040, .inl (fun x => nI (ma x)))), ((b + 4), .inl (κ 0, 5200, .inl (fun x => nI (mr x)))), ((b + 5), .inl (κ 0, 416, .inl (fun x => nI (mt x)))), ((b + 6), .inl (κ 0, 120, .inl F)), ((b + 7), .inl (κ 2, 140, .inr (.inl wy))), ((b + 8), .inl (κ 2, 140, .inr (.inl nx)))]) [0, 1, 2, 3, 4, 5, 6, 7, 8] rfl
        have hD := hD.sub (ws' := [(b, .inr (3, [.long sd, .int (nI nT), .int (nI nS), .ref (b + 1), .ref (b + 2), .ref (b + 3), .ref (b + 4), .ref (b + 5), .ref (b + 6), .ref (b + 7), .ref (b + 8), .int (nI 0)])), ((b + 1), .inl (κ 0, 40, .inl (fun j => nI (mk j)))), ((b + 2), .inl (κ 0, 40, .inl (fun j => nI (ms j)))), ((b + 3), .inl (κ 0, 1040, .inl (fun x => nI (ma x)))), ((b + 4), .inl (κ 0, 5200, .inl (fun x => nI (mr x)))), ((b + 5), .inl (κ 0, 416, .inl (fun x => nI (mt x)))), ((b + 6), .inl (κ 0, 120, .inl F)), ((b + 7), .inl (κ 2, 140, .inr (.inl wy))), ((b + 8), .inl (κ 2, 140, .inr (.inl nx)))]) [0, 1, 2, 3, 4, 5, 6, 7, 8] (by decide) rfl
        exact W.iret (v := -2) hx hb hr (fun t9 ht9 hW9 => ⟨some (.int (-2)), rfl, by rw [ht9]; exact ⟨fun q => absurd q (by rw [hok]; decide), fun _ _ => ⟨rfl, ⟨⟨_, _, _, hP⟩, ⟨⟨hnT, hnS, hba, Nat.le_trans hbh hS.1, by omega⟩, hmk, hma, hmr, hmt⟩⟩⟩, fun _ _ _ _ _ q => absurd q (by omega), ⟨hS.1, fun q h1 h2 => hS.2.1 q h1 (fun z => h2 (hAO q z))⟩⟩⟩) (fun q h => hAO _ (hS.2.2 q h)) dM_test_67
    · refine x_zne (a := 2) (tgt := 14) hx hb dM_test_6 (by decide) (by omega) (fun h8 => ?_) (fun h8 => absurd h8 (by decide))
      refine lv_iload_n hx hb dM_test_14 rfl (lv_at hl 1 rfl) ?_
      refine lv_iconst (v := nI 1) hx hb dM_test_15 (by decide) ?_
      refine x_ceq (a := 2) (b := 1) (tgt := 24) hx hb dM_test_16 (by decide) (by omega) (by omega) (fun h9 => absurd h9 (by decide)) (fun h9 => ?_)
      refine lv_iload_n hx hb dM_test_19 rfl (lv_at hl 1 rfl) ?_
      refine lv_iconst (v := nI 2) hx hb dM_test_20 (by decide) ?_
      refine x_cne (a := 2) (b := 2) (tgt := 29) hx hb dM_test_21 (by decide) (by omega) (by omega) (fun h10 => absurd h10 (by decide)) (fun h10 => ?_)
      refine lv_iload_n hx hb dM_test_24 rfl (lv_at hl 2 rfl) ?_
      refine lv_iconst (v := nI 2) hx hb dM_test_25 (by decide) ?_
      refine x_ceq (a := 2) (b := 2) (tgt := 44) hx hb dM_test_26 (by decide) (by omega) (by omega) (fun h11 => ?_) (fun h11 => absurd h11 (by decide))
      refine lv_iconst (v := nI 1) hx hb dM_test_44 (by decide) ?_
      refine lv_goto (tgt := 49) hx hb dM_test_45 (by decide) ?_
      refine lv_istore_n (lv' := [(3, .int (nI 1)), (0, .ref b), (1, .int (nI 2)), (2, .int (nI 2))]) hx hb dM_test_49 rfl hl (by decide) rfl (fun ls hl => ?_)
      refine lv_iload_n hx hb dM_test_50 rfl (lv_at hl 0 rfl) ?_
      refine x_zne (a := 1) (tgt := 56) hx hb dM_test_51 (by decide) (by omega) (fun h12 => ?_) (fun h12 => absurd h12 (by decide))
      refine lv_aload_n hx hb dM_test_56 rfl (lv_at hl 1 rfl) ?_
      refine va_get (D := D) (ci := 3) (v := .int (nI nS)) (C := RM) (T := FM) (N := 12) hx hb hT inM hown hK hP 0 rfl rfl 2 (by decide) (hT _ kM46) (fun _ h9 => h9) rfl dM_test_57 ?_
      refine lv_bipush (v := nI 40) hx hb dM_test_60 (by decide) ?_
      refine x_cne (a := nS) (b := 40) (tgt := 68) hx hb dM_test_62 (by decide) (by omega) (by omega) (fun g9 => ?_) (fun g9 => ?_)
      · have hnn : nS < 40 := by omega
        refine lv_aload_n hx hb dM_test_68 rfl (lv_at hl 1 rfl) ?_
        refine va_get (D := D) (ci := 3) (v := .ref (b + 1)) (C := RM) (T := FM) (N := 12) hx hb hT inM hown hK hP 0 rfl rfl 3 (by decide) (hT _ kM9) (fun _ h9 => h9) rfl dM_test_69 ?_
        refine lv_aload_n hx hb dM_test_72 rfl (lv_at hl 1 rfl) ?_
        refine va_get (D := D) (ci := 3) (v := .int (nI nS)) (C := RM) (T := FM) (N := 12) hx hb hT inM hown hK hP 0 rfl rfl 2 (by decide) (hT _ kM46) (fun _ h9 => h9) rfl dM_test_73 ?_
        refine lv_iload_n hx hb dM_test_76 rfl (lv_at hl 2 rfl) ?_
        refine x_iast hx hb hK hP hD hS 1 0 (j := nS) rfl rfl (by omega) (by decide) dM_test_77 (fun H locs hP hD hS => ?_)
        have hP : va_P D vwCl [(b, .inr (3, [.long sd, .int (nI nT), .int (nI nS), .ref (b + 1), .ref (b + 2), .ref (b + 3), .ref (b + 4), .ref (b + 5), .ref (b + 6), .ref (b + 7), .ref (b + 8), .int (nI 0)])), ((b + 1), .inl (κ 0, 40, .inl (upd (fun j => nI (mk j)) nS (nI 2)))), ((b + 2), .inl (κ 0, 40, .inl (fun j => nI (ms j)))), ((b + 3), .inl (κ 0, 1040, .inl (fun x => nI (ma x)))), ((b + 4), .inl (κ 0, 5200, .inl (fun x => nI (mr x)))), ((b + 5), .inl (κ 0, 416, .inl (fun x => nI (mt x)))), ((b + 6), .inl (κ 0, 120, .inl F)), ((b + 7), .inl (κ 2, 140, .inr (.inl wy))), ((b + 8), .inl (κ 2, 140, .inr (.inl nx)))] H := hP
        have hD : va_D A [(b, .inr (3, [.long sd, .int (nI nT), .int (nI nS), .ref (b + 1), .ref (b + 2), .ref (b + 3), .ref (b + 4), .ref (b + 5), .ref (b + 6), .ref (b + 7), .ref (b + 8), .int (nI 0)])), ((b + 1), .inl (κ 0, 40, .inl (upd (fun j => nI (mk j)) nS (nI 2)))), ((b + 2), .inl (κ 0, 40, .inl (fun j => nI (ms j)))), ((b + 3), .inl (κ 0, 1040, .inl (fun x => nI (ma x)))), ((b + 4), .inl (κ 0, 5200, .inl (fun x => nI (mr x)))), ((b + 5), .inl (κ 0, 416, .inl (fun x => nI (mt x)))), ((b + 6), .inl (κ 0, 120, .inl F)), ((b + 7), .inl (κ 2, 140, .inr (.inl wy))), ((b + 8), .inl (κ 2, 140, .inr (.inl nx)))] := hD
        refine lv_aload_n hx hb dM_test_78 rfl (lv_at hl 1 rfl) ?_
        refine va_get (D := D) (ci := 3) (v := .ref (b + 2)) (C := RM) (T := FM) (N := 12) hx hb hT inM hown hK hP 0 rfl rfl 4 (by decide) (hT _ kM13) (fun _ h9 => h9) rfl dM_test_79 ?_
        refine lv_aload_n hx hb dM_test_82 rfl (lv_at hl 1 rfl) ?_
        refine va_get (D := D) (ci := 3) (v := .int (nI nS)) (C := RM) (T := FM) (N := 12) hx hb hT inM hown hK hP 0 rfl rfl 2 (by decide) (hT _ kM46) (fun _ h9 => h9) rfl dM_test_83 ?_
        refine lv_iload_n hx hb dM_test_86 rfl (lv_at hl 3 rfl) ?_
        refine x_iast hx hb hK hP hD hS 2 0 (j := nS) rfl rfl (by omega) (by decide) dM_test_87 (fun H locs hP hD hS => ?_)
        have hP : va_P D vwCl [(b, .inr (3, [.long sd, .int (nI nT), .int (nI nS), .ref (b + 1), .ref (b + 2), .ref (b + 3), .ref (b + 4), .ref (b + 5), .ref (b + 6), .ref (b + 7), .ref (b + 8), .int (nI 0)])), ((b + 1), .inl (κ 0, 40, .inl (upd (fun j => nI (mk j)) nS (nI 2)))), ((b + 2), .inl (κ 0, 40, .inl (upd (fun j => nI (ms j)) nS (nI 2)))), ((b + 3), .inl (κ 0, 1040, .inl (fun x => nI (ma x)))), ((b + 4), .inl (κ 0, 5200, .inl (fun x => nI (mr x)))), ((b + 5), .inl (κ 0, 416, .inl (fun x => nI (mt x)))), ((b + 6), .inl (κ 0, 120, .inl F)), ((b + 7), .inl (κ 2, 140, .inr (.inl wy))), ((b + 8), .inl (κ 2, 140, .inr (.inl nx)))] H := hP
        have hD : va_D A [(b, .inr (3, [.long sd, .int (nI nT), .int (nI nS), .ref (b + 1), .ref (b + 2), .ref (b + 3), .ref (b + 4), .ref (b + 5), .ref (b + 6), .ref (b + 7), .ref (b + 8), .int (nI 0)])), ((b + 1), .inl (κ 0, 40, .inl (upd (fun j => nI (mk j)) nS (nI 2)))), ((b + 2), .inl (κ 0, 40, .inl (upd (fun j => nI (ms j)) nS (nI 2)))), ((b + 3), .inl (κ 0, 1040, .inl (fun x => nI (ma x)))), ((b + 4), .inl (κ 0, 5200, .inl (fun x => nI (mr x)))), ((b + 5), .inl (κ 0, 416, .inl (fun x => nI (mt x)))), ((b + 6), .inl (κ 0, 120, .inl F)), ((b + 7), .inl (κ 2, 140, .inr (.inl wy))), ((b + 8), .inl (κ 2, 140, .inr (.inl nx)))] := hD
        refine lv_aload_n hx hb dM_test_88 rfl (lv_at hl 1 rfl) ?_
        refine lv_dup hx hb dM_test_89 rfl ?_
        refine va_get (D := D) (ci := 3) (v := .int (nI nS)) (C := RM) (T := FM) (N := 12) hx hb hT inM hown hK hP 0 rfl rfl 2 (by decide) (hT _ kM46) (fun _ h9 => h9) rfl dM_test_90 ?_
        refine lv_iconst (v := nI 1) hx hb dM_test_93 (by decide) ?_
        refine x_iadd (v := nI (nS + 1)) hx hb dM_test_94 (nI_add _ _) ?_
        refine va_put (D := D) (ci := 3) (v := .int (nI (nS + 1))) (ty := .int) (C := RM) (T := FM) (N := 12) hx hb hT inM tyM tyM_ok nmM hown hK hP hD hS 0 rfl rfl 2 (by decide) (hT _ kM46) (fun _ h9 => h9) rfl (by decide +kernel) rfl rfl (Nat.le_of_ble_eq_true rfl) dM_test_95 (fun H locs hP hD hS => ?_)
        have hP : va_P D vwCl [(b, .inr (3, [.long sd, .int (nI nT), .int (nI (nS + 1)), .ref (b + 1), .ref (b + 2), .ref (b + 3), .ref (b + 4), .ref (b + 5), .ref (b + 6), .ref (b + 7), .ref (b + 8), .int (nI 0)])), ((b + 1), .inl (κ 0, 40, .inl (upd (fun j => nI (mk j)) nS (nI 2)))), ((b + 2), .inl (κ 0, 40, .inl (upd (fun j => nI (ms j)) nS (nI 2)))), ((b + 3), .inl (κ 0, 1040, .inl (fun x => nI (ma x)))), ((b + 4), .inl (κ 0, 5200, .inl (fun x => nI (mr x)))), ((b + 5), .inl (κ 0, 416, .inl (fun x => nI (mt x)))), ((b + 6), .inl (κ 0, 120, .inl F)), ((b + 7), .inl (κ 2, 140, .inr (.inl wy))), ((b + 8), .inl (κ 2, 140, .inr (.inl nx)))] H := hP
        have hD : va_D A [(b, .inr (3, [.long sd, .int (nI nT), .int (nI (nS + 1)), .ref (b + 1), .ref (b + 2), .ref (b + 3), .ref (b + 4), .ref (b + 5), .ref (b + 6), .ref (b + 7), .ref (b + 8), .int (nI 0)])), ((b + 1), .inl (κ 0, 40, .inl (upd (fun j => nI (mk j)) nS (nI 2)))), ((b + 2), .inl (κ 0, 40, .inl (upd (fun j => nI (ms j)) nS (nI 2)))), ((b + 3), .inl (κ 0, 1040, .inl (fun x => nI (ma x)))), ((b + 4), .inl (κ 0, 5200, .inl (fun x => nI (mr x)))), ((b + 5), .inl (κ 0, 416, .inl (fun x => nI (mt x)))), ((b + 6), .inl (κ 0, 120, .inl F)), ((b + 7), .inl (κ 2, 140, .inr (.inl wy))), ((b + 8), .inl (κ 2, 140, .inr (.inl nx)))] := hD
        refine lv_aload_n hx hb dM_test_98 rfl (lv_at hl 1 rfl) ?_
        refine va_get (D := D) (ci := 3) (v := .int (nI (nS + 1))) (C := RM) (T := FM) (N := 12) hx hb hT inM hown hK hP 0 rfl rfl 2 (by decide) (hT _ kM46) (fun _ h9 => h9) rfl dM_test_99 ?_
        refine lv_iconst (v := nI 1) hx hb dM_test_102 (by decide) ?_
        refine x_isub (v := nI ((nS + 1) - 1)) hx hb dM_test_103 (pk_sub (by omega)) ?_
        refine x_topn (b := nS) (by omega) ?_
        rw [u1_upd, u1_upd] at hP hD
        have hP : va_P D vwCl [(b, .inr (3, [.long sd, .int (nI nT), .int (nI (nS + 1)), .ref (b + 1), .ref (b + 2), .ref (b + 3), .ref (b + 4), .ref (b + 5), .ref (b + 6), .ref (b + 7), .ref (b + 8), .int (nI 0)])), ((b + 1), .inl (κ 0, 40, .inl (fun x => nI (u1 mk nS 2 x)))), ((b + 2), .inl (κ 0, 40, .inl (fun x => nI (u1 ms nS 2 x)))), ((b + 3), .inl (κ 0, 1040, .inl (fun x => nI (ma x)))), ((b + 4), .inl (κ 0, 5200, .inl (fun x => nI (mr x)))), ((b + 5), .inl (κ 0, 416, .inl (fun x => nI (mt x)))), ((b + 6), .inl (κ 0, 120, .inl F)), ((b + 7), .inl (κ 2, 140, .inr (.inl wy))), ((b + 8), .inl (κ 2, 140, .inr (.inl nx)))] H := hP
        have hD : va_D A [(b, .inr (3, [.long sd, .int (nI nT), .int (nI (nS + 1)), .ref (b + 1), .ref (b + 2), .ref (b + 3), .ref (b + 4), .ref (b + 5), .ref (b + 6), .ref (b + 7), .ref (b + 8), .int (nI 0)])), ((b + 1), .inl (κ 0, 40, .inl (fun x => nI (u1 mk nS 2 x)))), ((b + 2), .inl (κ 0, 40, .inl (fun x => nI (u1 ms nS 2 x)))), ((b + 3), .inl (κ 0, 1040, .inl (fun x => nI (ma x)))), ((b + 4), .inl (κ 0, 5200, .inl (fun x => nI (mr x)))), ((b + 5), .inl (κ 0, 416, .inl (fun x => nI (mt x)))), ((b + 6), .inl (κ 0, 120, .inl F)), ((b + 7), .inl (κ 2, 140, .inr (.inl wy))), ((b + 8), .inl (κ 2, 140, .inr (.inl nx)))] := hD
        have hmk2 := okN_nx hmk hkn
        have hinj : ∀ k2 n2, okN k2 n2 → nI 2 = nI k2 → nI 2 = nI n2 → k2 = 2 ∧ n2 = 2 := fun k2 n2 h e1 e2 => by have h1 := h.lt; have h2 := hkn.lt; exact ⟨(nI_inj (by omega) (by omega) e1).symm, (nI_inj (by omega) (by omega) e2).symm⟩
        have hP := hP.sub (ws' := [(b, .inr (3, [.long sd, .int (nI nT), .int (nI (nS + 1)), .ref (b + 1), .ref (b + 2), .ref (b + 3), .ref (b + 4), .ref (b + 5), .ref (b + 6), .ref (b + 7), .ref (b + 8), .int (nI 0)])), ((b + 1), .inl (κ 0, 40, .inl (fun x => nI (u1 mk nS 2 x)))), ((b + 2), .inl (κ 0, 40, .inl (fun x => nI (u1 ms nS 2 x)))), ((b + 3), .inl (κ 0, 1040, .inl (fun x => nI (ma x)))), ((b + 4), .inl (κ 0, 5200, .inl (fun x => nI (mr x)))), ((b + 5), .inl (κ 0, 416, .inl (fun x => nI (mt x)))), ((b + 6), .inl (κ 0, 120, .inl F)), ((b + 7), .inl (κ 2, 140, .inr (.inl wy))), ((b + 8), .inl (κ 2, 140, .inr (.inl nx)))]) [0, 1, 2, 3, 4, 5, 6, 7, 8] rfl
        have hD := hD.sub (ws' := [(b, .inr (3, [.long sd, .int (nI nT), .int (nI (nS + 1)), .ref (b + 1), .ref (b + 2), .ref (b + 3), .ref (b + 4), .ref (b + 5), .ref (b + 6), .ref (b + 7), .ref (b + 8), .int (nI 0)])), ((b + 1), .inl (κ 0, 40, .inl (fun x => nI (u1 mk nS 2 x)))), ((b + 2), .inl (κ 0, 40, .inl (fun x => nI (u1 ms nS 2 x)))), ((b + 3), .inl (κ 0, 1040, .inl (fun x => nI (ma x)))), ((b + 4), .inl (κ 0, 5200, .inl (fun x => nI (mr x)))), ((b + 5), .inl (κ 0, 416, .inl (fun x => nI (mt x)))), ((b + 6), .inl (κ 0, 120, .inl F)), ((b + 7), .inl (κ 2, 140, .inr (.inl wy))), ((b + 8), .inl (κ 2, 140, .inr (.inl nx)))]) [0, 1, 2, 3, 4, 5, 6, 7, 8] (by decide) rfl
        exact W.iret (v := nI nS) hx hb hr (fun t9 ht9 hW9 => ⟨some (.int (nI nS)), rfl, by rw [ht9]; exact ⟨fun q => absurd q (by rw [hok]; decide), fun _ q => absurd q (by omega), fun k2 n2 h2 e1 e2 _ => by obtain ⟨rfl, rfl⟩ := hinj k2 n2 h2 e1 e2; exact ⟨rfl, ⟨⟨_, _, _, hP⟩, ⟨⟨hnT, by omega, hba, Nat.le_trans hbh hS.1, by omega⟩, hmk2, hma, hmr, hmt⟩⟩⟩, ⟨hS.1, fun q h1 h2 => hS.2.1 q h1 (fun z => h2 (hAO q z))⟩⟩⟩) (fun q h => hAO _ (hS.2.2 q h)) dM_test_104
      · refine lv_bipush (v := -2) hx hb dM_test_65 (by decide) ?_
        have hP := hP.sub (ws' := [(b, .inr (3, [.long sd, .int (nI nT), .int (nI nS), .ref (b + 1), .ref (b + 2), .ref (b + 3), .ref (b + 4), .ref (b + 5), .ref (b + 6), .ref (b + 7), .ref (b + 8), .int (nI 0)])), ((b + 1), .inl (κ 0, 40, .inl (fun j => nI (mk j)))), ((b + 2), .inl (κ 0, 40, .inl (fun j => nI (ms j)))), ((b + 3), .inl (κ 0, 1040, .inl (fun x => nI (ma x)))), ((b + 4), .inl (κ 0, 5200, .inl (fun x => nI (mr x)))), ((b + 5), .inl (κ 0, 416, .inl (fun x => nI (mt x)))), ((b + 6), .inl (κ 0, 120, .inl F)), ((b + 7), .inl (κ 2, 140, .inr (.inl wy))), ((b + 8), .inl (κ 2, 140, .inr (.inl nx)))]) [0, 1, 2, 3, 4, 5, 6, 7, 8] rfl
        have hD := hD.sub (ws' := [(b, .inr (3, [.long sd, .int (nI nT), .int (nI nS), .ref (b + 1), .ref (b + 2), .ref (b + 3), .ref (b + 4), .ref (b + 5), .ref (b + 6), .ref (b + 7), .ref (b + 8), .int (nI 0)])), ((b + 1), .inl (κ 0, 40, .inl (fun j => nI (mk j)))), ((b + 2), .inl (κ 0, 40, .inl (fun j => nI (ms j)))), ((b + 3), .inl (κ 0, 1040, .inl (fun x => nI (ma x)))), ((b + 4), .inl (κ 0, 5200, .inl (fun x => nI (mr x)))), ((b + 5), .inl (κ 0, 416, .inl (fun x => nI (mt x)))), ((b + 6), .inl (κ 0, 120, .inl F)), ((b + 7), .inl (κ 2, 140, .inr (.inl wy))), ((b + 8), .inl (κ 2, 140, .inr (.inl nx)))]) [0, 1, 2, 3, 4, 5, 6, 7, 8] (by decide) rfl
        exact W.iret (v := -2) hx hb hr (fun t9 ht9 hW9 => ⟨some (.int (-2)), rfl, by rw [ht9]; exact ⟨fun q => absurd q (by rw [hok]; decide), fun _ _ => ⟨rfl, ⟨⟨_, _, _, hP⟩, ⟨⟨hnT, hnS, hba, Nat.le_trans hbh hS.1, by omega⟩, hmk, hma, hmr, hmt⟩⟩⟩, fun _ _ _ _ _ q => absurd q (by omega), ⟨hS.1, fun q h1 h2 => hS.2.1 q h1 (fun z => h2 (hAO q z))⟩⟩⟩) (fun q h => hAO _ (hS.2.2 q h)) dM_test_67
    · refine x_zne (a := 3) (tgt := 14) hx hb dM_test_6 (by decide) (by omega) (fun h13 => ?_) (fun h13 => absurd h13 (by decide))
      refine lv_iload_n hx hb dM_test_14 rfl (lv_at hl 1 rfl) ?_
      refine lv_iconst (v := nI 1) hx hb dM_test_15 (by decide) ?_
      refine x_ceq (a := 3) (b := 1) (tgt := 24) hx hb dM_test_16 (by decide) (by omega) (by omega) (fun h14 => absurd h14 (by decide)) (fun h14 => ?_)
      refine lv_iload_n hx hb dM_test_19 rfl (lv_at hl 1 rfl) ?_
      refine lv_iconst (v := nI 2) hx hb dM_test_20 (by decide) ?_
      refine x_cne (a := 3) (b := 2) (tgt := 29) hx hb dM_test_21 (by decide) (by omega) (by omega) (fun h15 => ?_) (fun h15 => absurd h15 (by decide))
      refine lv_iload_n hx hb dM_test_29 rfl (lv_at hl 1 rfl) ?_
      refine lv_iconst (v := nI 3) hx hb dM_test_30 (by decide) ?_
      refine x_cne (a := 3) (b := 3) (tgt := 48) hx hb dM_test_31 (by decide) (by omega) (by omega) (fun h16 => absurd h16 (by decide)) (fun h16 => ?_)
      refine lv_iload_n hx hb dM_test_34 rfl (lv_at hl 2 rfl) ?_
      refine lv_iconst (v := nI 2) hx hb dM_test_35 (by decide) ?_
      refine x_clt (a := n) (b := 2) (tgt := 48) hx hb dM_test_36 (by decide) (by omega) (by omega) (fun h17 => absurd h17 (by omega)) (fun h17 => ?_)
      refine lv_iload_n hx hb dM_test_39 rfl (lv_at hl 2 rfl) ?_
      refine lv_iconst (v := nI 5) hx hb dM_test_40 (by decide) ?_
      refine x_cgt (a := n) (b := 5) (tgt := 48) hx hb dM_test_41 (by decide) (by omega) (by omega) (fun h18 => absurd h18 (by omega)) (fun h18 => ?_)
      refine lv_iconst (v := nI 1) hx hb dM_test_44 (by decide) ?_
      refine lv_goto (tgt := 49) hx hb dM_test_45 (by decide) ?_
      refine lv_istore_n (lv' := [(3, .int (nI 1)), (0, .ref b), (1, .int (nI 3)), (2, .int (nI n))]) hx hb dM_test_49 rfl hl (by decide) rfl (fun ls hl => ?_)
      refine lv_iload_n hx hb dM_test_50 rfl (lv_at hl 0 rfl) ?_
      refine x_zne (a := 1) (tgt := 56) hx hb dM_test_51 (by decide) (by omega) (fun h19 => ?_) (fun h19 => absurd h19 (by decide))
      refine lv_aload_n hx hb dM_test_56 rfl (lv_at hl 1 rfl) ?_
      refine va_get (D := D) (ci := 3) (v := .int (nI nS)) (C := RM) (T := FM) (N := 12) hx hb hT inM hown hK hP 0 rfl rfl 2 (by decide) (hT _ kM46) (fun _ h9 => h9) rfl dM_test_57 ?_
      refine lv_bipush (v := nI 40) hx hb dM_test_60 (by decide) ?_
      refine x_cne (a := nS) (b := 40) (tgt := 68) hx hb dM_test_62 (by decide) (by omega) (by omega) (fun g9 => ?_) (fun g9 => ?_)
      · have hnn : nS < 40 := by omega
        refine lv_aload_n hx hb dM_test_68 rfl (lv_at hl 1 rfl) ?_
        refine va_get (D := D) (ci := 3) (v := .ref (b + 1)) (C := RM) (T := FM) (N := 12) hx hb hT inM hown hK hP 0 rfl rfl 3 (by decide) (hT _ kM9) (fun _ h9 => h9) rfl dM_test_69 ?_
        refine lv_aload_n hx hb dM_test_72 rfl (lv_at hl 1 rfl) ?_
        refine va_get (D := D) (ci := 3) (v := .int (nI nS)) (C := RM) (T := FM) (N := 12) hx hb hT inM hown hK hP 0 rfl rfl 2 (by decide) (hT _ kM46) (fun _ h9 => h9) rfl dM_test_73 ?_
        refine lv_iload_n hx hb dM_test_76 rfl (lv_at hl 2 rfl) ?_
        refine x_iast hx hb hK hP hD hS 1 0 (j := nS) rfl rfl (by omega) (by decide) dM_test_77 (fun H locs hP hD hS => ?_)
        have hP : va_P D vwCl [(b, .inr (3, [.long sd, .int (nI nT), .int (nI nS), .ref (b + 1), .ref (b + 2), .ref (b + 3), .ref (b + 4), .ref (b + 5), .ref (b + 6), .ref (b + 7), .ref (b + 8), .int (nI 0)])), ((b + 1), .inl (κ 0, 40, .inl (upd (fun j => nI (mk j)) nS (nI 3)))), ((b + 2), .inl (κ 0, 40, .inl (fun j => nI (ms j)))), ((b + 3), .inl (κ 0, 1040, .inl (fun x => nI (ma x)))), ((b + 4), .inl (κ 0, 5200, .inl (fun x => nI (mr x)))), ((b + 5), .inl (κ 0, 416, .inl (fun x => nI (mt x)))), ((b + 6), .inl (κ 0, 120, .inl F)), ((b + 7), .inl (κ 2, 140, .inr (.inl wy))), ((b + 8), .inl (κ 2, 140, .inr (.inl nx)))] H := hP
        have hD : va_D A [(b, .inr (3, [.long sd, .int (nI nT), .int (nI nS), .ref (b + 1), .ref (b + 2), .ref (b + 3), .ref (b + 4), .ref (b + 5), .ref (b + 6), .ref (b + 7), .ref (b + 8), .int (nI 0)])), ((b + 1), .inl (κ 0, 40, .inl (upd (fun j => nI (mk j)) nS (nI 3)))), ((b + 2), .inl (κ 0, 40, .inl (fun j => nI (ms j)))), ((b + 3), .inl (κ 0, 1040, .inl (fun x => nI (ma x)))), ((b + 4), .inl (κ 0, 5200, .inl (fun x => nI (mr x)))), ((b + 5), .inl (κ 0, 416, .inl (fun x => nI (mt x)))), ((b + 6), .inl (κ 0, 120, .inl F)), ((b + 7), .inl (κ 2, 140, .inr (.inl wy))), ((b + 8), .inl (κ 2, 140, .inr (.inl nx)))] := hD
        refine lv_aload_n hx hb dM_test_78 rfl (lv_at hl 1 rfl) ?_
        refine va_get (D := D) (ci := 3) (v := .ref (b + 2)) (C := RM) (T := FM) (N := 12) hx hb hT inM hown hK hP 0 rfl rfl 4 (by decide) (hT _ kM13) (fun _ h9 => h9) rfl dM_test_79 ?_
        refine lv_aload_n hx hb dM_test_82 rfl (lv_at hl 1 rfl) ?_
        refine va_get (D := D) (ci := 3) (v := .int (nI nS)) (C := RM) (T := FM) (N := 12) hx hb hT inM hown hK hP 0 rfl rfl 2 (by decide) (hT _ kM46) (fun _ h9 => h9) rfl dM_test_83 ?_
        refine lv_iload_n hx hb dM_test_86 rfl (lv_at hl 3 rfl) ?_
        refine x_iast hx hb hK hP hD hS 2 0 (j := nS) rfl rfl (by omega) (by decide) dM_test_87 (fun H locs hP hD hS => ?_)
        have hP : va_P D vwCl [(b, .inr (3, [.long sd, .int (nI nT), .int (nI nS), .ref (b + 1), .ref (b + 2), .ref (b + 3), .ref (b + 4), .ref (b + 5), .ref (b + 6), .ref (b + 7), .ref (b + 8), .int (nI 0)])), ((b + 1), .inl (κ 0, 40, .inl (upd (fun j => nI (mk j)) nS (nI 3)))), ((b + 2), .inl (κ 0, 40, .inl (upd (fun j => nI (ms j)) nS (nI n)))), ((b + 3), .inl (κ 0, 1040, .inl (fun x => nI (ma x)))), ((b + 4), .inl (κ 0, 5200, .inl (fun x => nI (mr x)))), ((b + 5), .inl (κ 0, 416, .inl (fun x => nI (mt x)))), ((b + 6), .inl (κ 0, 120, .inl F)), ((b + 7), .inl (κ 2, 140, .inr (.inl wy))), ((b + 8), .inl (κ 2, 140, .inr (.inl nx)))] H := hP
        have hD : va_D A [(b, .inr (3, [.long sd, .int (nI nT), .int (nI nS), .ref (b + 1), .ref (b + 2), .ref (b + 3), .ref (b + 4), .ref (b + 5), .ref (b + 6), .ref (b + 7), .ref (b + 8), .int (nI 0)])), ((b + 1), .inl (κ 0, 40, .inl (upd (fun j => nI (mk j)) nS (nI 3)))), ((b + 2), .inl (κ 0, 40, .inl (upd (fun j => nI (ms j)) nS (nI n)))), ((b + 3), .inl (κ 0, 1040, .inl (fun x => nI (ma x)))), ((b + 4), .inl (κ 0, 5200, .inl (fun x => nI (mr x)))), ((b + 5), .inl (κ 0, 416, .inl (fun x => nI (mt x)))), ((b + 6), .inl (κ 0, 120, .inl F)), ((b + 7), .inl (κ 2, 140, .inr (.inl wy))), ((b + 8), .inl (κ 2, 140, .inr (.inl nx)))] := hD
        refine lv_aload_n hx hb dM_test_88 rfl (lv_at hl 1 rfl) ?_
        refine lv_dup hx hb dM_test_89 rfl ?_
        refine va_get (D := D) (ci := 3) (v := .int (nI nS)) (C := RM) (T := FM) (N := 12) hx hb hT inM hown hK hP 0 rfl rfl 2 (by decide) (hT _ kM46) (fun _ h9 => h9) rfl dM_test_90 ?_
        refine lv_iconst (v := nI 1) hx hb dM_test_93 (by decide) ?_
        refine x_iadd (v := nI (nS + 1)) hx hb dM_test_94 (nI_add _ _) ?_
        refine va_put (D := D) (ci := 3) (v := .int (nI (nS + 1))) (ty := .int) (C := RM) (T := FM) (N := 12) hx hb hT inM tyM tyM_ok nmM hown hK hP hD hS 0 rfl rfl 2 (by decide) (hT _ kM46) (fun _ h9 => h9) rfl (by decide +kernel) rfl rfl (Nat.le_of_ble_eq_true rfl) dM_test_95 (fun H locs hP hD hS => ?_)
        have hP : va_P D vwCl [(b, .inr (3, [.long sd, .int (nI nT), .int (nI (nS + 1)), .ref (b + 1), .ref (b + 2), .ref (b + 3), .ref (b + 4), .ref (b + 5), .ref (b + 6), .ref (b + 7), .ref (b + 8), .int (nI 0)])), ((b + 1), .inl (κ 0, 40, .inl (upd (fun j => nI (mk j)) nS (nI 3)))), ((b + 2), .inl (κ 0, 40, .inl (upd (fun j => nI (ms j)) nS (nI n)))), ((b + 3), .inl (κ 0, 1040, .inl (fun x => nI (ma x)))), ((b + 4), .inl (κ 0, 5200, .inl (fun x => nI (mr x)))), ((b + 5), .inl (κ 0, 416, .inl (fun x => nI (mt x)))), ((b + 6), .inl (κ 0, 120, .inl F)), ((b + 7), .inl (κ 2, 140, .inr (.inl wy))), ((b + 8), .inl (κ 2, 140, .inr (.inl nx)))] H := hP
        have hD : va_D A [(b, .inr (3, [.long sd, .int (nI nT), .int (nI (nS + 1)), .ref (b + 1), .ref (b + 2), .ref (b + 3), .ref (b + 4), .ref (b + 5), .ref (b + 6), .ref (b + 7), .ref (b + 8), .int (nI 0)])), ((b + 1), .inl (κ 0, 40, .inl (upd (fun j => nI (mk j)) nS (nI 3)))), ((b + 2), .inl (κ 0, 40, .inl (upd (fun j => nI (ms j)) nS (nI n)))), ((b + 3), .inl (κ 0, 1040, .inl (fun x => nI (ma x)))), ((b + 4), .inl (κ 0, 5200, .inl (fun x => nI (mr x)))), ((b + 5), .inl (κ 0, 416, .inl (fun x => nI (mt x)))), ((b + 6), .inl (κ 0, 120, .inl F)), ((b + 7), .inl (κ 2, 140, .inr (.inl wy))), ((b + 8), .inl (κ 2, 140, .inr (.inl nx)))] := hD
        refine lv_aload_n hx hb dM_test_98 rfl (lv_at hl 1 rfl) ?_
        refine va_get (D := D) (ci := 3) (v := .int (nI (nS + 1))) (C := RM) (T := FM) (N := 12) hx hb hT inM hown hK hP 0 rfl rfl 2 (by decide) (hT _ kM46) (fun _ h9 => h9) rfl dM_test_99 ?_
        refine lv_iconst (v := nI 1) hx hb dM_test_102 (by decide) ?_
        refine x_isub (v := nI ((nS + 1) - 1)) hx hb dM_test_103 (pk_sub (by omega)) ?_
        refine x_topn (b := nS) (by omega) ?_
        rw [u1_upd, u1_upd] at hP hD
        have hP : va_P D vwCl [(b, .inr (3, [.long sd, .int (nI nT), .int (nI (nS + 1)), .ref (b + 1), .ref (b + 2), .ref (b + 3), .ref (b + 4), .ref (b + 5), .ref (b + 6), .ref (b + 7), .ref (b + 8), .int (nI 0)])), ((b + 1), .inl (κ 0, 40, .inl (fun x => nI (u1 mk nS 3 x)))), ((b + 2), .inl (κ 0, 40, .inl (fun x => nI (u1 ms nS n x)))), ((b + 3), .inl (κ 0, 1040, .inl (fun x => nI (ma x)))), ((b + 4), .inl (κ 0, 5200, .inl (fun x => nI (mr x)))), ((b + 5), .inl (κ 0, 416, .inl (fun x => nI (mt x)))), ((b + 6), .inl (κ 0, 120, .inl F)), ((b + 7), .inl (κ 2, 140, .inr (.inl wy))), ((b + 8), .inl (κ 2, 140, .inr (.inl nx)))] H := hP
        have hD : va_D A [(b, .inr (3, [.long sd, .int (nI nT), .int (nI (nS + 1)), .ref (b + 1), .ref (b + 2), .ref (b + 3), .ref (b + 4), .ref (b + 5), .ref (b + 6), .ref (b + 7), .ref (b + 8), .int (nI 0)])), ((b + 1), .inl (κ 0, 40, .inl (fun x => nI (u1 mk nS 3 x)))), ((b + 2), .inl (κ 0, 40, .inl (fun x => nI (u1 ms nS n x)))), ((b + 3), .inl (κ 0, 1040, .inl (fun x => nI (ma x)))), ((b + 4), .inl (κ 0, 5200, .inl (fun x => nI (mr x)))), ((b + 5), .inl (κ 0, 416, .inl (fun x => nI (mt x)))), ((b + 6), .inl (κ 0, 120, .inl F)), ((b + 7), .inl (κ 2, 140, .inr (.inl wy))), ((b + 8), .inl (κ 2, 140, .inr (.inl nx)))] := hD
        have hmk2 := okN_nx hmk hkn
        have hinj : ∀ k2 n2, okN k2 n2 → nI 3 = nI k2 → nI n = nI n2 → k2 = 3 ∧ n2 = n := fun k2 n2 h e1 e2 => by have h1 := h.lt; have h2 := hkn.lt; exact ⟨(nI_inj (by omega) (by omega) e1).symm, (nI_inj (by omega) (by omega) e2).symm⟩
        have hP := hP.sub (ws' := [(b, .inr (3, [.long sd, .int (nI nT), .int (nI (nS + 1)), .ref (b + 1), .ref (b + 2), .ref (b + 3), .ref (b + 4), .ref (b + 5), .ref (b + 6), .ref (b + 7), .ref (b + 8), .int (nI 0)])), ((b + 1), .inl (κ 0, 40, .inl (fun x => nI (u1 mk nS 3 x)))), ((b + 2), .inl (κ 0, 40, .inl (fun x => nI (u1 ms nS n x)))), ((b + 3), .inl (κ 0, 1040, .inl (fun x => nI (ma x)))), ((b + 4), .inl (κ 0, 5200, .inl (fun x => nI (mr x)))), ((b + 5), .inl (κ 0, 416, .inl (fun x => nI (mt x)))), ((b + 6), .inl (κ 0, 120, .inl F)), ((b + 7), .inl (κ 2, 140, .inr (.inl wy))), ((b + 8), .inl (κ 2, 140, .inr (.inl nx)))]) [0, 1, 2, 3, 4, 5, 6, 7, 8] rfl
        have hD := hD.sub (ws' := [(b, .inr (3, [.long sd, .int (nI nT), .int (nI (nS + 1)), .ref (b + 1), .ref (b + 2), .ref (b + 3), .ref (b + 4), .ref (b + 5), .ref (b + 6), .ref (b + 7), .ref (b + 8), .int (nI 0)])), ((b + 1), .inl (κ 0, 40, .inl (fun x => nI (u1 mk nS 3 x)))), ((b + 2), .inl (κ 0, 40, .inl (fun x => nI (u1 ms nS n x)))), ((b + 3), .inl (κ 0, 1040, .inl (fun x => nI (ma x)))), ((b + 4), .inl (κ 0, 5200, .inl (fun x => nI (mr x)))), ((b + 5), .inl (κ 0, 416, .inl (fun x => nI (mt x)))), ((b + 6), .inl (κ 0, 120, .inl F)), ((b + 7), .inl (κ 2, 140, .inr (.inl wy))), ((b + 8), .inl (κ 2, 140, .inr (.inl nx)))]) [0, 1, 2, 3, 4, 5, 6, 7, 8] (by decide) rfl
        exact W.iret (v := nI nS) hx hb hr (fun t9 ht9 hW9 => ⟨some (.int (nI nS)), rfl, by rw [ht9]; exact ⟨fun q => absurd q (by rw [hok]; decide), fun _ q => absurd q (by omega), fun k2 n2 h2 e1 e2 _ => by obtain ⟨rfl, rfl⟩ := hinj k2 n2 h2 e1 e2; exact ⟨rfl, ⟨⟨_, _, _, hP⟩, ⟨⟨hnT, by omega, hba, Nat.le_trans hbh hS.1, by omega⟩, hmk2, hma, hmr, hmt⟩⟩⟩, ⟨hS.1, fun q h1 h2 => hS.2.1 q h1 (fun z => h2 (hAO q z))⟩⟩⟩) (fun q h => hAO _ (hS.2.2 q h)) dM_test_104
      · refine lv_bipush (v := -2) hx hb dM_test_65 (by decide) ?_
        have hP := hP.sub (ws' := [(b, .inr (3, [.long sd, .int (nI nT), .int (nI nS), .ref (b + 1), .ref (b + 2), .ref (b + 3), .ref (b + 4), .ref (b + 5), .ref (b + 6), .ref (b + 7), .ref (b + 8), .int (nI 0)])), ((b + 1), .inl (κ 0, 40, .inl (fun j => nI (mk j)))), ((b + 2), .inl (κ 0, 40, .inl (fun j => nI (ms j)))), ((b + 3), .inl (κ 0, 1040, .inl (fun x => nI (ma x)))), ((b + 4), .inl (κ 0, 5200, .inl (fun x => nI (mr x)))), ((b + 5), .inl (κ 0, 416, .inl (fun x => nI (mt x)))), ((b + 6), .inl (κ 0, 120, .inl F)), ((b + 7), .inl (κ 2, 140, .inr (.inl wy))), ((b + 8), .inl (κ 2, 140, .inr (.inl nx)))]) [0, 1, 2, 3, 4, 5, 6, 7, 8] rfl
        have hD := hD.sub (ws' := [(b, .inr (3, [.long sd, .int (nI nT), .int (nI nS), .ref (b + 1), .ref (b + 2), .ref (b + 3), .ref (b + 4), .ref (b + 5), .ref (b + 6), .ref (b + 7), .ref (b + 8), .int (nI 0)])), ((b + 1), .inl (κ 0, 40, .inl (fun j => nI (mk j)))), ((b + 2), .inl (κ 0, 40, .inl (fun j => nI (ms j)))), ((b + 3), .inl (κ 0, 1040, .inl (fun x => nI (ma x)))), ((b + 4), .inl (κ 0, 5200, .inl (fun x => nI (mr x)))), ((b + 5), .inl (κ 0, 416, .inl (fun x => nI (mt x)))), ((b + 6), .inl (κ 0, 120, .inl F)), ((b + 7), .inl (κ 2, 140, .inr (.inl wy))), ((b + 8), .inl (κ 2, 140, .inr (.inl nx)))]) [0, 1, 2, 3, 4, 5, 6, 7, 8] (by decide) rfl
        exact W.iret (v := -2) hx hb hr (fun t9 ht9 hW9 => ⟨some (.int (-2)), rfl, by rw [ht9]; exact ⟨fun q => absurd q (by rw [hok]; decide), fun _ _ => ⟨rfl, ⟨⟨_, _, _, hP⟩, ⟨⟨hnT, hnS, hba, Nat.le_trans hbh hS.1, by omega⟩, hmk, hma, hmr, hmt⟩⟩⟩, fun _ _ _ _ _ q => absurd q (by omega), ⟨hS.1, fun q h1 h2 => hS.2.1 q h1 (fun z => h2 (hAO q z))⟩⟩⟩) (fun q h => hAO _ (hS.2.2 q h)) dM_test_67
  · by_cases e0 : x = nI 0
    · subst e0
      refine x_zne (a := 0) (tgt := 14) hx hb dM_test_6 (by decide) (by omega) (fun h20 => absurd h20 (by decide)) (fun h20 => ?_)
      refine lv_iload_n hx hb dM_test_9 rfl (lv_at hl 2 rfl) ?_
      refine lv_iconst (v := nI 3) hx hb dM_test_10 (by decide) ?_
      refine lv_icmp_eq (tgt := 44) hx hb dM_test_11 (by decide) (fun h21 => absurd (show okK (nI 0) y = true by rw [h21]; decide) hok) (fun h21 => ?_)
      refine lv_iload_n hx hb dM_test_14 rfl (lv_at hl 1 rfl) ?_
      refine lv_iconst (v := nI 1) hx hb dM_test_15 (by decide) ?_
      refine x_ceq (a := 0) (b := 1) (tgt := 24) hx hb dM_test_16 (by decide) (by omega) (by omega) (fun h22 => absurd h22 (by decide)) (fun h22 => ?_)
      refine lv_iload_n hx hb dM_test_19 rfl (lv_at hl 1 rfl) ?_
      refine lv_iconst (v := nI 2) hx hb dM_test_20 (by decide) ?_
      refine x_cne (a := 0) (b := 2) (tgt := 29) hx hb dM_test_21 (by decide) (by omega) (by omega) (fun h23 => ?_) (fun h23 => absurd h23 (by decide))
      refine lv_iload_n hx hb dM_test_29 rfl (lv_at hl 1 rfl) ?_
      refine lv_iconst (v := nI 3) hx hb dM_test_30 (by decide) ?_
      refine x_cne (a := 0) (b := 3) (tgt := 48) hx hb dM_test_31 (by decide) (by omega) (by omega) (fun h24 => ?_) (fun h24 => absurd h24 (by decide))
      refine lv_iconst (v := nI 0) hx hb dM_test_48 (by decide) ?_
      refine lv_istore_n (lv' := [(3, .int (nI 0)), (0, .ref b), (1, .int (nI 0)), (2, .int y)]) hx hb dM_test_49 rfl hl (by decide) rfl (fun ls hl => ?_)
      refine lv_iload_n hx hb dM_test_50 rfl (lv_at hl 0 rfl) ?_
      refine x_zne (a := 0) (tgt := 56) hx hb dM_test_51 (by decide) (by omega) (fun h25 => absurd rfl h25) (fun h25 => ?_)
      refine lv_iconst (v := -1) hx hb dM_test_54 (by decide) ?_
      have hP := hP.sub (ws' := [(b, .inr (3, [.long sd, .int (nI nT), .int (nI nS), .ref (b + 1), .ref (b + 2), .ref (b + 3), .ref (b + 4), .ref (b + 5), .ref (b + 6), .ref (b + 7), .ref (b + 8), .int (nI 0)])), ((b + 1), .inl (κ 0, 40, .inl (fun j => nI (mk j)))), ((b + 2), .inl (κ 0, 40, .inl (fun j => nI (ms j)))), ((b + 3), .inl (κ 0, 1040, .inl (fun x => nI (ma x)))), ((b + 4), .inl (κ 0, 5200, .inl (fun x => nI (mr x)))), ((b + 5), .inl (κ 0, 416, .inl (fun x => nI (mt x)))), ((b + 6), .inl (κ 0, 120, .inl F)), ((b + 7), .inl (κ 2, 140, .inr (.inl wy))), ((b + 8), .inl (κ 2, 140, .inr (.inl nx)))]) [0, 1, 2, 3, 4, 5, 6, 7, 8] rfl
      have hD := hD.sub (ws' := [(b, .inr (3, [.long sd, .int (nI nT), .int (nI nS), .ref (b + 1), .ref (b + 2), .ref (b + 3), .ref (b + 4), .ref (b + 5), .ref (b + 6), .ref (b + 7), .ref (b + 8), .int (nI 0)])), ((b + 1), .inl (κ 0, 40, .inl (fun j => nI (mk j)))), ((b + 2), .inl (κ 0, 40, .inl (fun j => nI (ms j)))), ((b + 3), .inl (κ 0, 1040, .inl (fun x => nI (ma x)))), ((b + 4), .inl (κ 0, 5200, .inl (fun x => nI (mr x)))), ((b + 5), .inl (κ 0, 416, .inl (fun x => nI (mt x)))), ((b + 6), .inl (κ 0, 120, .inl F)), ((b + 7), .inl (κ 2, 140, .inr (.inl wy))), ((b + 8), .inl (κ 2, 140, .inr (.inl nx)))]) [0, 1, 2, 3, 4, 5, 6, 7, 8] (by decide) rfl
      exact W.iret (v := -1) hx hb hr (fun t9 ht9 hW9 => ⟨some (.int (-1)), rfl, by rw [ht9]; exact ⟨fun _ => ⟨rfl, ⟨⟨_, _, _, hP⟩, ⟨⟨hnT, hnS, hba, Nat.le_trans hbh hS.1, by omega⟩, hmk, hma, hmr, hmt⟩⟩⟩, fun q => absurd q hok, fun k n hkn e1 e2 => absurd (by rw [e1, e2]; exact okK_of hkn) hok, ⟨hS.1, fun q h1 h2 => hS.2.1 q h1 (fun z => h2 (hAO q z))⟩⟩⟩) (fun q h => hAO _ (hS.2.2 q h)) dM_test_55
    · by_cases e1 : x = nI 1
      · subst e1
        refine x_zne (a := 1) (tgt := 14) hx hb dM_test_6 (by decide) (by omega) (fun h26 => ?_) (fun h26 => absurd h26 (by decide))
        refine lv_iload_n hx hb dM_test_14 rfl (lv_at hl 1 rfl) ?_
        refine lv_iconst (v := nI 1) hx hb dM_test_15 (by decide) ?_
        refine x_ceq (a := 1) (b := 1) (tgt := 24) hx hb dM_test_16 (by decide) (by omega) (by omega) (fun h27 => ?_) (fun h27 => absurd h27 (by decide))
        refine lv_iload_n hx hb dM_test_24 rfl (lv_at hl 2 rfl) ?_
        refine lv_iconst (v := nI 2) hx hb dM_test_25 (by decide) ?_
        refine lv_icmp_eq (tgt := 44) hx hb dM_test_26 (by decide) (fun h28 => absurd (show okK (nI 1) y = true by rw [h28]; decide) hok) (fun h28 => ?_)
        refine lv_iload_n hx hb dM_test_29 rfl (lv_at hl 1 rfl) ?_
        refine lv_iconst (v := nI 3) hx hb dM_test_30 (by decide) ?_
        refine x_cne (a := 1) (b := 3) (tgt := 48) hx hb dM_test_31 (by decide) (by omega) (by omega) (fun h29 => ?_) (fun h29 => absurd h29 (by decide))
        refine lv_iconst (v := nI 0) hx hb dM_test_48 (by decide) ?_
        refine lv_istore_n (lv' := [(3, .int (nI 0)), (0, .ref b), (1, .int (nI 1)), (2, .int y)]) hx hb dM_test_49 rfl hl (by decide) rfl (fun ls hl => ?_)
        refine lv_iload_n hx hb dM_test_50 rfl (lv_at hl 0 rfl) ?_
        refine x_zne (a := 0) (tgt := 56) hx hb dM_test_51 (by decide) (by omega) (fun h30 => absurd rfl h30) (fun h30 => ?_)
        refine lv_iconst (v := -1) hx hb dM_test_54 (by decide) ?_
        have hP := hP.sub (ws' := [(b, .inr (3, [.long sd, .int (nI nT), .int (nI nS), .ref (b + 1), .ref (b + 2), .ref (b + 3), .ref (b + 4), .ref (b + 5), .ref (b + 6), .ref (b + 7), .ref (b + 8), .int (nI 0)])), ((b + 1), .inl (κ 0, 40, .inl (fun j => nI (mk j)))), ((b + 2), .inl (κ 0, 40, .inl (fun j => nI (ms j)))), ((b + 3), .inl (κ 0, 1040, .inl (fun x => nI (ma x)))), ((b + 4), .inl (κ 0, 5200, .inl (fun x => nI (mr x)))), ((b + 5), .inl (κ 0, 416, .inl (fun x => nI (mt x)))), ((b + 6), .inl (κ 0, 120, .inl F)), ((b + 7), .inl (κ 2, 140, .inr (.inl wy))), ((b + 8), .inl (κ 2, 140, .inr (.inl nx)))]) [0, 1, 2, 3, 4, 5, 6, 7, 8] rfl
        have hD := hD.sub (ws' := [(b, .inr (3, [.long sd, .int (nI nT), .int (nI nS), .ref (b + 1), .ref (b + 2), .ref (b + 3), .ref (b + 4), .ref (b + 5), .ref (b + 6), .ref (b + 7), .ref (b + 8), .int (nI 0)])), ((b + 1), .inl (κ 0, 40, .inl (fun j => nI (mk j)))), ((b + 2), .inl (κ 0, 40, .inl (fun j => nI (ms j)))), ((b + 3), .inl (κ 0, 1040, .inl (fun x => nI (ma x)))), ((b + 4), .inl (κ 0, 5200, .inl (fun x => nI (mr x)))), ((b + 5), .inl (κ 0, 416, .inl (fun x => nI (mt x)))), ((b + 6), .inl (κ 0, 120, .inl F)), ((b + 7), .inl (κ 2, 140, .inr (.inl wy))), ((b + 8), .inl (κ 2, 140, .inr (.inl nx)))]) [0, 1, 2, 3, 4, 5, 6, 7, 8] (by decide) rfl
        exact W.iret (v := -1) hx hb hr (fun t9 ht9 hW9 => ⟨some (.int (-1)), rfl, by rw [ht9]; exact ⟨fun _ => ⟨rfl, ⟨⟨_, _, _, hP⟩, ⟨⟨hnT, hnS, hba, Nat.le_trans hbh hS.1, by omega⟩, hmk, hma, hmr, hmt⟩⟩⟩, fun q => absurd q hok, fun k n hkn e1 e2 => absurd (by rw [e1, e2]; exact okK_of hkn) hok, ⟨hS.1, fun q h1 h2 => hS.2.1 q h1 (fun z => h2 (hAO q z))⟩⟩⟩) (fun q h => hAO _ (hS.2.2 q h)) dM_test_55
      · by_cases e2 : x = nI 2
        · subst e2
          refine x_zne (a := 2) (tgt := 14) hx hb dM_test_6 (by decide) (by omega) (fun h31 => ?_) (fun h31 => absurd h31 (by decide))
          refine lv_iload_n hx hb dM_test_14 rfl (lv_at hl 1 rfl) ?_
          refine lv_iconst (v := nI 1) hx hb dM_test_15 (by decide) ?_
          refine x_ceq (a := 2) (b := 1) (tgt := 24) hx hb dM_test_16 (by decide) (by omega) (by omega) (fun h32 => absurd h32 (by decide)) (fun h32 => ?_)
          refine lv_iload_n hx hb dM_test_19 rfl (lv_at hl 1 rfl) ?_
          refine lv_iconst (v := nI 2) hx hb dM_test_20 (by decide) ?_
          refine x_cne (a := 2) (b := 2) (tgt := 29) hx hb dM_test_21 (by decide) (by omega) (by omega) (fun h33 => absurd h33 (by decide)) (fun h33 => ?_)
          refine lv_iload_n hx hb dM_test_24 rfl (lv_at hl 2 rfl) ?_
          refine lv_iconst (v := nI 2) hx hb dM_test_25 (by decide) ?_
          refine lv_icmp_eq (tgt := 44) hx hb dM_test_26 (by decide) (fun h34 => absurd (show okK (nI 2) y = true by rw [h34]; decide) hok) (fun h34 => ?_)
          refine lv_iload_n hx hb dM_test_29 rfl (lv_at hl 1 rfl) ?_
          refine lv_iconst (v := nI 3) hx hb dM_test_30 (by decide) ?_
          refine x_cne (a := 2) (b := 3) (tgt := 48) hx hb dM_test_31 (by decide) (by omega) (by omega) (fun h35 => ?_) (fun h35 => absurd h35 (by decide))
          refine lv_iconst (v := nI 0) hx hb dM_test_48 (by decide) ?_
          refine lv_istore_n (lv' := [(3, .int (nI 0)), (0, .ref b), (1, .int (nI 2)), (2, .int y)]) hx hb dM_test_49 rfl hl (by decide) rfl (fun ls hl => ?_)
          refine lv_iload_n hx hb dM_test_50 rfl (lv_at hl 0 rfl) ?_
          refine x_zne (a := 0) (tgt := 56) hx hb dM_test_51 (by decide) (by omega) (fun h36 => absurd rfl h36) (fun h36 => ?_)
          refine lv_iconst (v := -1) hx hb dM_test_54 (by decide) ?_
          have hP := hP.sub (ws' := [(b, .inr (3, [.long sd, .int (nI nT), .int (nI nS), .ref (b + 1), .ref (b + 2), .ref (b + 3), .ref (b + 4), .ref (b + 5), .ref (b + 6), .ref (b + 7), .ref (b + 8), .int (nI 0)])), ((b + 1), .inl (κ 0, 40, .inl (fun j => nI (mk j)))), ((b + 2), .inl (κ 0, 40, .inl (fun j => nI (ms j)))), ((b + 3), .inl (κ 0, 1040, .inl (fun x => nI (ma x)))), ((b + 4), .inl (κ 0, 5200, .inl (fun x => nI (mr x)))), ((b + 5), .inl (κ 0, 416, .inl (fun x => nI (mt x)))), ((b + 6), .inl (κ 0, 120, .inl F)), ((b + 7), .inl (κ 2, 140, .inr (.inl wy))), ((b + 8), .inl (κ 2, 140, .inr (.inl nx)))]) [0, 1, 2, 3, 4, 5, 6, 7, 8] rfl
          have hD := hD.sub (ws' := [(b, .inr (3, [.long sd, .int (nI nT), .int (nI nS), .ref (b + 1), .ref (b + 2), .ref (b + 3), .ref (b + 4), .ref (b + 5), .ref (b + 6), .ref (b + 7), .ref (b + 8), .int (nI 0)])), ((b + 1), .inl (κ 0, 40, .inl (fun j => nI (mk j)))), ((b + 2), .inl (κ 0, 40, .inl (fun j => nI (ms j)))), ((b + 3), .inl (κ 0, 1040, .inl (fun x => nI (ma x)))), ((b + 4), .inl (κ 0, 5200, .inl (fun x => nI (mr x)))), ((b + 5), .inl (κ 0, 416, .inl (fun x => nI (mt x)))), ((b + 6), .inl (κ 0, 120, .inl F)), ((b + 7), .inl (κ 2, 140, .inr (.inl wy))), ((b + 8), .inl (κ 2, 140, .inr (.inl nx)))]) [0, 1, 2, 3, 4, 5, 6, 7, 8] (by decide) rfl
          exact W.iret (v := -1) hx hb hr (fun t9 ht9 hW9 => ⟨some (.int (-1)), rfl, by rw [ht9]; exact ⟨fun _ => ⟨rfl, ⟨⟨_, _, _, hP⟩, ⟨⟨hnT, hnS, hba, Nat.le_trans hbh hS.1, by omega⟩, hmk, hma, hmr, hmt⟩⟩⟩, fun q => absurd q hok, fun k n hkn e1 e2 => absurd (by rw [e1, e2]; exact okK_of hkn) hok, ⟨hS.1, fun q h1 h2 => hS.2.1 q h1 (fun z => h2 (hAO q z))⟩⟩⟩) (fun q h => hAO _ (hS.2.2 q h)) dM_test_55
        · by_cases e3 : x = nI 3
          · subst e3
            refine x_zne (a := 3) (tgt := 14) hx hb dM_test_6 (by decide) (by omega) (fun h37 => ?_) (fun h37 => absurd h37 (by decide))
            refine lv_iload_n hx hb dM_test_14 rfl (lv_at hl 1 rfl) ?_
            refine lv_iconst (v := nI 1) hx hb dM_test_15 (by decide) ?_
            refine x_ceq (a := 3) (b := 1) (tgt := 24) hx hb dM_test_16 (by decide) (by omega) (by omega) (fun h38 => absurd h38 (by decide)) (fun h38 => ?_)
            refine lv_iload_n hx hb dM_test_19 rfl (lv_at hl 1 rfl) ?_
            refine lv_iconst (v := nI 2) hx hb dM_test_20 (by decide) ?_
            refine x_cne (a := 3) (b := 2) (tgt := 29) hx hb dM_test_21 (by decide) (by omega) (by omega) (fun h39 => ?_) (fun h39 => absurd h39 (by decide))
            refine lv_iload_n hx hb dM_test_29 rfl (lv_at hl 1 rfl) ?_
            refine lv_iconst (v := nI 3) hx hb dM_test_30 (by decide) ?_
            refine x_cne (a := 3) (b := 3) (tgt := 48) hx hb dM_test_31 (by decide) (by omega) (by omega) (fun h40 => absurd h40 (by decide)) (fun h40 => ?_)
            refine lv_iload_n hx hb dM_test_34 rfl (lv_at hl 2 rfl) ?_
            refine lv_iconst (v := nI 2) hx hb dM_test_35 (by decide) ?_
            refine lv_icmp_lt (tgt := 48) hx hb dM_test_36 (by decide) (fun g1 => ?_) (fun g1 => ?_)
            · refine lv_iconst (v := nI 0) hx hb dM_test_48 (by decide) ?_
              refine lv_istore_n (lv' := [(3, .int (nI 0)), (0, .ref b), (1, .int (nI 3)), (2, .int y)]) hx hb dM_test_49 rfl hl (by decide) rfl (fun ls hl => ?_)
              refine lv_iload_n hx hb dM_test_50 rfl (lv_at hl 0 rfl) ?_
              refine x_zne (a := 0) (tgt := 56) hx hb dM_test_51 (by decide) (by omega) (fun h41 => absurd rfl h41) (fun h41 => ?_)
              refine lv_iconst (v := -1) hx hb dM_test_54 (by decide) ?_
              have hP := hP.sub (ws' := [(b, .inr (3, [.long sd, .int (nI nT), .int (nI nS), .ref (b + 1), .ref (b + 2), .ref (b + 3), .ref (b + 4), .ref (b + 5), .ref (b + 6), .ref (b + 7), .ref (b + 8), .int (nI 0)])), ((b + 1), .inl (κ 0, 40, .inl (fun j => nI (mk j)))), ((b + 2), .inl (κ 0, 40, .inl (fun j => nI (ms j)))), ((b + 3), .inl (κ 0, 1040, .inl (fun x => nI (ma x)))), ((b + 4), .inl (κ 0, 5200, .inl (fun x => nI (mr x)))), ((b + 5), .inl (κ 0, 416, .inl (fun x => nI (mt x)))), ((b + 6), .inl (κ 0, 120, .inl F)), ((b + 7), .inl (κ 2, 140, .inr (.inl wy))), ((b + 8), .inl (κ 2, 140, .inr (.inl nx)))]) [0, 1, 2, 3, 4, 5, 6, 7, 8] rfl
              have hD := hD.sub (ws' := [(b, .inr (3, [.long sd, .int (nI nT), .int (nI nS), .ref (b + 1), .ref (b + 2), .ref (b + 3), .ref (b + 4), .ref (b + 5), .ref (b + 6), .ref (b + 7), .ref (b + 8), .int (nI 0)])), ((b + 1), .inl (κ 0, 40, .inl (fun j => nI (mk j)))), ((b + 2), .inl (κ 0, 40, .inl (fun j => nI (ms j)))), ((b + 3), .inl (κ 0, 1040, .inl (fun x => nI (ma x)))), ((b + 4), .inl (κ 0, 5200, .inl (fun x => nI (mr x)))), ((b + 5), .inl (κ 0, 416, .inl (fun x => nI (mt x)))), ((b + 6), .inl (κ 0, 120, .inl F)), ((b + 7), .inl (κ 2, 140, .inr (.inl wy))), ((b + 8), .inl (κ 2, 140, .inr (.inl nx)))]) [0, 1, 2, 3, 4, 5, 6, 7, 8] (by decide) rfl
              exact W.iret (v := -1) hx hb hr (fun t9 ht9 hW9 => ⟨some (.int (-1)), rfl, by rw [ht9]; exact ⟨fun _ => ⟨rfl, ⟨⟨_, _, _, hP⟩, ⟨⟨hnT, hnS, hba, Nat.le_trans hbh hS.1, by omega⟩, hmk, hma, hmr, hmt⟩⟩⟩, fun q => absurd q hok, fun k n hkn e1 e2 => absurd (by rw [e1, e2]; exact okK_of hkn) hok, ⟨hS.1, fun q h1 h2 => hS.2.1 q h1 (fun z => h2 (hAO q z))⟩⟩⟩) (fun q h => hAO _ (hS.2.2 q h)) dM_test_55
            · refine lv_iload_n hx hb dM_test_39 rfl (lv_at hl 2 rfl) ?_
              refine lv_iconst (v := nI 5) hx hb dM_test_40 (by decide) ?_
              refine lv_icmp_gt (tgt := 48) hx hb dM_test_41 (by decide) (fun h42 => ?_) (fun h42 => absurd (okK3 g1 h42) hok)
              refine lv_iconst (v := nI 0) hx hb dM_test_48 (by decide) ?_
              refine lv_istore_n (lv' := [(3, .int (nI 0)), (0, .ref b), (1, .int (nI 3)), (2, .int y)]) hx hb dM_test_49 rfl hl (by decide) rfl (fun ls hl => ?_)
              refine lv_iload_n hx hb dM_test_50 rfl (lv_at hl 0 rfl) ?_
              refine x_zne (a := 0) (tgt := 56) hx hb dM_test_51 (by decide) (by omega) (fun h43 => absurd rfl h43) (fun h43 => ?_)
              refine lv_iconst (v := -1) hx hb dM_test_54 (by decide) ?_
              have hP := hP.sub (ws' := [(b, .inr (3, [.long sd, .int (nI nT), .int (nI nS), .ref (b + 1), .ref (b + 2), .ref (b + 3), .ref (b + 4), .ref (b + 5), .ref (b + 6), .ref (b + 7), .ref (b + 8), .int (nI 0)])), ((b + 1), .inl (κ 0, 40, .inl (fun j => nI (mk j)))), ((b + 2), .inl (κ 0, 40, .inl (fun j => nI (ms j)))), ((b + 3), .inl (κ 0, 1040, .inl (fun x => nI (ma x)))), ((b + 4), .inl (κ 0, 5200, .inl (fun x => nI (mr x)))), ((b + 5), .inl (κ 0, 416, .inl (fun x => nI (mt x)))), ((b + 6), .inl (κ 0, 120, .inl F)), ((b + 7), .inl (κ 2, 140, .inr (.inl wy))), ((b + 8), .inl (κ 2, 140, .inr (.inl nx)))]) [0, 1, 2, 3, 4, 5, 6, 7, 8] rfl
              have hD := hD.sub (ws' := [(b, .inr (3, [.long sd, .int (nI nT), .int (nI nS), .ref (b + 1), .ref (b + 2), .ref (b + 3), .ref (b + 4), .ref (b + 5), .ref (b + 6), .ref (b + 7), .ref (b + 8), .int (nI 0)])), ((b + 1), .inl (κ 0, 40, .inl (fun j => nI (mk j)))), ((b + 2), .inl (κ 0, 40, .inl (fun j => nI (ms j)))), ((b + 3), .inl (κ 0, 1040, .inl (fun x => nI (ma x)))), ((b + 4), .inl (κ 0, 5200, .inl (fun x => nI (mr x)))), ((b + 5), .inl (κ 0, 416, .inl (fun x => nI (mt x)))), ((b + 6), .inl (κ 0, 120, .inl F)), ((b + 7), .inl (κ 2, 140, .inr (.inl wy))), ((b + 8), .inl (κ 2, 140, .inr (.inl nx)))]) [0, 1, 2, 3, 4, 5, 6, 7, 8] (by decide) rfl
              exact W.iret (v := -1) hx hb hr (fun t9 ht9 hW9 => ⟨some (.int (-1)), rfl, by rw [ht9]; exact ⟨fun _ => ⟨rfl, ⟨⟨_, _, _, hP⟩, ⟨⟨hnT, hnS, hba, Nat.le_trans hbh hS.1, by omega⟩, hmk, hma, hmr, hmt⟩⟩⟩, fun q => absurd q hok, fun k n hkn e1 e2 => absurd (by rw [e1, e2]; exact okK_of hkn) hok, ⟨hS.1, fun q h1 h2 => hS.2.1 q h1 (fun z => h2 (hAO q z))⟩⟩⟩) (fun q h => hAO _ (hS.2.2 q h)) dM_test_55
          · refine lv_if_ne (tgt := 14) hx hb dM_test_6 (by decide) (fun h44 => ?_) (fun h44 => absurd h44 e0)
            refine lv_iload_n hx hb dM_test_14 rfl (lv_at hl 1 rfl) ?_
            refine lv_iconst (v := nI 1) hx hb dM_test_15 (by decide) ?_
            refine lv_icmp_eq (tgt := 24) hx hb dM_test_16 (by decide) (fun h45 => absurd h45 e1) (fun h45 => ?_)
            refine lv_iload_n hx hb dM_test_19 rfl (lv_at hl 1 rfl) ?_
            refine lv_iconst (v := nI 2) hx hb dM_test_20 (by decide) ?_
            refine lv_icmp_ne (tgt := 29) hx hb dM_test_21 (by decide) (fun h46 => ?_) (fun h46 => absurd h46 e2)
            refine lv_iload_n hx hb dM_test_29 rfl (lv_at hl 1 rfl) ?_
            refine lv_iconst (v := nI 3) hx hb dM_test_30 (by decide) ?_
            refine lv_icmp_ne (tgt := 48) hx hb dM_test_31 (by decide) (fun h47 => ?_) (fun h47 => absurd h47 e3)
            refine lv_iconst (v := nI 0) hx hb dM_test_48 (by decide) ?_
            refine lv_istore_n (lv' := [(3, .int (nI 0)), (0, .ref b), (1, .int x), (2, .int y)]) hx hb dM_test_49 rfl hl (by decide) rfl (fun ls hl => ?_)
            refine lv_iload_n hx hb dM_test_50 rfl (lv_at hl 0 rfl) ?_
            refine x_zne (a := 0) (tgt := 56) hx hb dM_test_51 (by decide) (by omega) (fun h48 => absurd rfl h48) (fun h48 => ?_)
            refine lv_iconst (v := -1) hx hb dM_test_54 (by decide) ?_
            have hP := hP.sub (ws' := [(b, .inr (3, [.long sd, .int (nI nT), .int (nI nS), .ref (b + 1), .ref (b + 2), .ref (b + 3), .ref (b + 4), .ref (b + 5), .ref (b + 6), .ref (b + 7), .ref (b + 8), .int (nI 0)])), ((b + 1), .inl (κ 0, 40, .inl (fun j => nI (mk j)))), ((b + 2), .inl (κ 0, 40, .inl (fun j => nI (ms j)))), ((b + 3), .inl (κ 0, 1040, .inl (fun x => nI (ma x)))), ((b + 4), .inl (κ 0, 5200, .inl (fun x => nI (mr x)))), ((b + 5), .inl (κ 0, 416, .inl (fun x => nI (mt x)))), ((b + 6), .inl (κ 0, 120, .inl F)), ((b + 7), .inl (κ 2, 140, .inr (.inl wy))), ((b + 8), .inl (κ 2, 140, .inr (.inl nx)))]) [0, 1, 2, 3, 4, 5, 6, 7, 8] rfl
            have hD := hD.sub (ws' := [(b, .inr (3, [.long sd, .int (nI nT), .int (nI nS), .ref (b + 1), .ref (b + 2), .ref (b + 3), .ref (b + 4), .ref (b + 5), .ref (b + 6), .ref (b + 7), .ref (b + 8), .int (nI 0)])), ((b + 1), .inl (κ 0, 40, .inl (fun j => nI (mk j)))), ((b + 2), .inl (κ 0, 40, .inl (fun j => nI (ms j)))), ((b + 3), .inl (κ 0, 1040, .inl (fun x => nI (ma x)))), ((b + 4), .inl (κ 0, 5200, .inl (fun x => nI (mr x)))), ((b + 5), .inl (κ 0, 416, .inl (fun x => nI (mt x)))), ((b + 6), .inl (κ 0, 120, .inl F)), ((b + 7), .inl (κ 2, 140, .inr (.inl wy))), ((b + 8), .inl (κ 2, 140, .inr (.inl nx)))]) [0, 1, 2, 3, 4, 5, 6, 7, 8] (by decide) rfl
            exact W.iret (v := -1) hx hb hr (fun t9 ht9 hW9 => ⟨some (.int (-1)), rfl, by rw [ht9]; exact ⟨fun _ => ⟨rfl, ⟨⟨_, _, _, hP⟩, ⟨⟨hnT, hnS, hba, Nat.le_trans hbh hS.1, by omega⟩, hmk, hma, hmr, hmt⟩⟩⟩, fun q => absurd q hok, fun k n hkn e1 e2 => absurd (by rw [e1, e2]; exact okK_of hkn) hok, ⟨hS.1, fun q h1 h2 => hS.2.1 q h1 (fun z => h2 (hAO q z))⟩⟩⟩) (fun q h => hAO _ (hS.2.2 q h)) dM_test_55
