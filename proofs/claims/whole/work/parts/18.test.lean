theorem RC_test {D : va_G} {κ : Nat → ClassId} {base a : Nat} {sd : Int64} {nT nS : Nat} {bT bS : Nat → Nat} {td fd : Nat → Nat → Nat} {ta tr kd sp ca cr : Nat → Nat} {od aw rk : Nat → Nat → Nat} {H0 H : Heap} {A : Nat → Prop} {fS : Nat → Option Nat} {F G : Nat → Int32} {k n : Nat} (hR : RC D κ base a sd nT nS bT bS td fd ta tr kd sp ca cr od aw rk H0) (hn : nS < 40) (hok : okN k n) (hG : ∀ i, i < 26 → G i = nI (ordv (cntO k n) sd nS i)) (hAq : ∀ x9, A x9 → (x9 = a ∨ x9 = (a + 2) ∨ x9 = (a + 3)) ∨ H0.size ≤ x9)
    (hsz : H0.size ≤ H.size) (hk : ∀ q : Nat, q < H0.size → ¬ A q → H[q]? = H0[q]?) (hf : ∀ j, j < 40 → fS j = if j < nS then some (bS j) else none) (hP : va_P D vwCl [(a, .inr (2, [.long sd, .ref (a + 1), .ref (a + 2), .int (nI nT), .int (nI (nS + 1)), .ref (a + 3), .ref (a + 4)])), ((a + 2), .inl (κ 4, 40, .inr (.inr (.inr (.inr (va_up fS nS (some H0.size))))))), ((a + 3), .inl (κ 0, 120, .inl F)), (H0.size, .inr (1, [.int (nI k), .int (nI n), .ref (H0.size + 1), .ref (H0.size + 2), .ref (H0.size + 3), .int (nI 0), .int (nI 0)])), ((H0.size + 1), .inl (κ 0, 26, .inl G)), ((H0.size + 2), .inl (κ 1, 26, .inl (fun _ => nI 0))), ((H0.size + 3), .inl (κ 0, 130, .inl (fun _ => nI 0)))] H) :
    RC D κ base a sd nT (nS + 1) bT (u1 bS nS H0.size) td fd ta tr (u1 kd nS k) (u1 sp nS n) (u1 ca nS 0) (u1 cr nS 0) (ur od nS (ordv (cntO k n) sd nS)) (ur aw nS (fun _ => 0)) (ur rk nS (fun _ => 0)) H := by
  obtain ⟨⟨fT, fS0, mx, sw, hP0, hfT, hfS⟩, hTas, hTes, ⟨hnT, hnS, hba, hah⟩, hb1, hb2, hs1, hs2, hs3, hs4, hs5⟩ := hR
  have hend : H0.size + 3 < H.size := (hP 6 _ rfl).lt
  refine ⟨⟨fT, va_up fS nS (some H0.size), F, sw, ?_, hfT, fun j hj => ?_⟩, fun i hi => keepW hk (hTas i hi) ?_, fun j hj => ?_, ⟨⟨hnT, by omega, hba, by omega⟩, fun j hj => ?_, hb2, fun i hi => ?_, fun j hj => ?_, hs3, fun j j' h1 h2 => ?_, fun i j hi hj => ?_⟩⟩
  · have h1 := hP.sub (ws' := [(a, .inr (2, [.long sd, .ref (a + 1), .ref (a + 2), .int (nI nT), .int (nI (nS + 1)), .ref (a + 3), .ref (a + 4)]))]) [0] rfl
    have h2 := keepW hk (hP0.sub (ws' := [((a + 1), .inl (κ 3, 26, .inr (.inr (.inr (.inr fT)))))]) [1] rfl) (by
      simp only [List.map, List.nodup_cons, List.mem_cons, List.not_mem_nil, or_false, not_or, List.nodup_nil, and_true, not_false_eq_true, List.forall_mem_cons, forall_eq_or_imp, forall_eq]
      exact fun q => by have := hAq _ q; omega)
    have h3 := hP.sub (ws' := [((a + 2), .inl (κ 4, 40, .inr (.inr (.inr (.inr (va_up fS nS (some H0.size))))))), ((a + 3), .inl (κ 0, 120, .inl F))]) [1, 2] rfl
    have h4 := keepW hk (hP0.sub (ws' := [((a + 4), .inl (κ 2, 131, .inr (.inl sw)))]) [4] rfl) (by
      simp only [List.map, List.nodup_cons, List.mem_cons, List.not_mem_nil, or_false, not_or, List.nodup_nil, and_true, not_false_eq_true, List.forall_mem_cons, forall_eq_or_imp, forall_eq]
      exact fun q => by have := hAq _ q; omega)
    exact ((h1.app h2).app h3).app h4
  · by_cases e : j = nS
    · subst e
      rw [va_up_self, if_pos (by omega), u1_eq]
    · rw [va_up_ne _ _ e, hf j hj, u1_ne e]
      by_cases h : j < nS
      · rw [if_pos h, if_pos (by omega)]
      · rw [if_neg h, if_neg (by omega)]
  · simp only [List.map, List.nodup_cons, List.mem_cons, List.not_mem_nil, or_false, not_or, List.nodup_nil, and_true, not_false_eq_true, List.forall_mem_cons, forall_eq_or_imp, forall_eq]
    have b2 := hs1 i hi
    refine ⟨fun q => ?_, fun q => ?_, fun q => ?_⟩ <;> (have := hAq _ q; omega)
  · by_cases e : j = nS
    · subst e
      rw [u1_eq, u1_eq, u1_eq, u1_eq, u1_eq, ur_eq, ur_eq, ur_eq]
      have h1 := hP.sub (ws' := [(H0.size, .inr (1, [.int (nI k), .int (nI n), .ref (H0.size + 1), .ref (H0.size + 2), .ref (H0.size + 3), .int (nI 0), .int (nI 0)]))]) [3] rfl
      have h2 := hP.sub (ws' := [((H0.size + 1), .inl (κ 0, 26, .inl G))]) [4] rfl
      have h3 := hP.sub (ws' := [((H0.size + 2), .inl (κ 1, 26, .inl (fun _ => nI 0))), ((H0.size + 3), .inl (κ 0, 130, .inl (fun _ => nI 0)))]) [5, 6] rfl
      exact (h1.app (h2.congr1 hG)).app h3
    · rw [u1_ne e, u1_ne e, u1_ne e, u1_ne e, u1_ne e, ur_ne e, ur_ne e, ur_ne e]
      have b := hs2 j (by omega)
      refine keepW hk (hTes j (by omega)) ?_
      simp only [List.map, List.nodup_cons, List.mem_cons, List.not_mem_nil, or_false, not_or, List.nodup_nil, and_true, not_false_eq_true, List.forall_mem_cons, forall_eq_or_imp, forall_eq]
      refine ⟨fun q => ?_, fun q => ?_, fun q => ?_, fun q => ?_⟩ <;> (have := hAq _ q; omega)
  · by_cases e : j = nS
    · subst e
      rw [u1_eq, u1_eq, u1_eq, u1_eq, ur_eq, ur_eq, ur_eq]
      exact ⟨hok, by omega, by omega, fun i hi => ⟨ordv_lt _ _ _ (cntO_le hok).1, by omega⟩, fun x hx => by omega⟩
    · rw [u1_ne e, u1_ne e, u1_ne e, u1_ne e, ur_ne e, ur_ne e, ur_ne e]
      exact hb1 j (by omega)
  · have := hs1 i hi; omega
  · by_cases e : j = nS
    · subst e
      rw [u1_eq]
      omega
    · rw [u1_ne e]
      have b := hs2 j (by omega)
      omega
  · have e1 : j ≠ nS := by omega
    rw [u1_ne e1]
    by_cases e : j' = nS
    · subst e
      rw [u1_eq]
      have b := hs2 j (by omega)
      omega
    · rw [u1_ne e]
      exact hs4 j j' h1 (by omega)
  · have b2 := hs1 i hi
    by_cases e : j = nS
    · subst e
      rw [u1_eq]
      omega
    · rw [u1_ne e]
      exact hs5 i j hi (by omega)
set_option maxHeartbeats 400000 in
set_option maxRecDepth 100000 in
theorem c_P_test (l : Launch) (D : va_G) (κ : Nat → ClassId) (base : Nat) (H0 : Heap) {a : Nat} {sd : Int64} {nT nS : Nat} {bT bS : Nat → Nat} {td fd : Nat → Nat → Nat} {ta tr kd sp ca cr : Nat → Nat} {od aw rk : Nat → Nat → Nat} (hR : RC D κ base a sd nT nS bT bS td fd ta tr kd sp ca cr od aw rk H0) (x y : Int32) : Met l yP_test wP_test ({ frames := 2, cells := 4, slots := 189, locals := 54 }) (Pq D κ base [.ref a, .int x, .int y] H0) (q_W (fun v H => (okK x y = false → v = some (.int (-1)) ∧ RC D κ base a sd nT nS bT bS td fd ta tr kd sp ca cr od aw rk H) ∧ (okK x y = true → 40 ≤ nS → v = some (.int (-2)) ∧ RC D κ base a sd nT nS bT bS td fd ta tr kd sp ca cr od aw rk H) ∧ (∀ k n, okN k n → x = nI k → y = nI n → nS < 40 → v = some (.int (nI nS)) ∧ RC D κ base a sd nT (nS + 1) bT (u1 bS nS H0.size) td fd ta tr (u1 kd nS k) (u1 sp nS n) (u1 ca nS 0) (u1 cr nS 0) (ur od nS (ordv (cntO k n) sd nS)) (ur aw nS (fun _ => 0)) (ur rk nS (fun _ => 0)) H) ∧ FrC a nT nS bT bS H0 H)) 4 189 (OwnC a nT nS bT bS H0.size) := by
  refine Met.ofW (cc := bP_test) (maxL := 4) (ret := (some FieldType.int)) (by decide) rfl ?_
  intro p e s m args below meth c s₁ B hml hv
  obtain ⟨rfl, hH, hE⟩ := hv
  subst hH
  have hx := B.exec
  have hb := B.bytes
  have hr := B.returns
  have hT : ∀ w ∈ TT, w.before _ s = true := fun w h => atoms_spec (ws := wP_test) B.pre w (List.mem_cons_of_mem _ h)
  have hown : s.vm.findClass "TasterPanels" = some m.cls := findClass_of_methodNamed B.named
  have hlocks := B.notSynchronized
  have hK := hE.1
  have hS : va_S (fun q => base ≤ q) s.heap s.heap [] := va_S.rf
  have hAb : ∀ q : Nat, (fun q : Nat => base ≤ q) q → base ≤ q := fun _ h => h
  have hl := lv_entry ([.ref a, .int x, .int y]) (n := 4) (Nat.le_of_ble_eq_true rfl)
  rw [lg_entry_eq]
  generalize (lg_sl ([.ref a, .int x, .int y]) ++ List.replicate (4 - (lg_sl ([.ref a, .int x, .int y])).length) Slot.unset).toArray = ls at hl ⊢
  have hl : lv_has ls 4 [(0, .ref a), (1, .int x), (2, .int y)] := hl
  have hR0 := hR
  obtain ⟨⟨fT, fS, mx, sw, hP, hfT, hfS⟩, hTas, hTes, hbd⟩ := hR
  obtain ⟨⟨hnT, hnS, hba, hah⟩, hb1, hb2, hs1, hs2, hs3, hs4, hs5⟩ := hbd
  have hbs : base ≤ s.heap.size := by omega
  have hOb : ∀ x9, OwnC a nT nS bT bS s.heap.size x9 → base ≤ x9 := fun x9 h => OwnC.base hba (by omega) hs1 hs2 h
  have hS : va_S (OwnC a nT nS bT bS s.heap.size) s.heap s.heap [] := va_S.rf
  have hAb := hOb
  refine lv_iload_n hx hb dP_test_0 rfl (lv_at hl 1 rfl) ?_
  refine lv_iload_n hx hb dP_test_1 rfl (lv_at hl 2 rfl) ?_
  by_cases hok : okK x y = true
  · refine x_callP (v := .int (nI 1)) (va_runS (As := [.int x, .int y]) (rest := []) ⟨hx, hb, hml, hown, hT⟩ (c_P_isKindOf l D κ base s.heap x y 1 (by rw [if_pos hok])) (va_cwS 2 hT (TT_S kP38 ktP_isKindOf knP kcP_isKindOf) rfl rfl rfl (by decide +kernel) ⟨Nat.le_of_ble_eq_true rfl, Nat.le_of_ble_eq_true rfl⟩) (pcS hE hS hAb) rfl rfl hl.1 rfl (lv_room (Nat.le_of_ble_eq_true rfl)) dP_test_2 ⟨Nat.le_of_ble_eq_true rfl, Nat.le_of_ble_eq_true rfl⟩) ?_
    refine x_zne (a := 1) (tgt := 10) hx hb dP_test_5 (by decide) (by omega) (fun h1 => ?_) (fun h1 => absurd h1 (by decide))
    refine lv_aload_n hx hb dP_test_10 rfl (lv_at hl 0 rfl) ?_
    refine va_get (D := D) (ci := 2) (v := .int (nI nS)) (C := RP) (T := FP) (N := 7) hx hb hT inP hown hK hP 0 rfl rfl 4 (by decide) (hT _ kP42) (fun _ h9 => h9) rfl dP_test_11 ?_
    refine lv_bipush (v := nI 40) hx hb dP_test_14 (by decide) ?_
    refine x_clt (a := nS) (b := 40) (tgt := 22) hx hb dP_test_16 (by decide) (by omega) (by omega) (fun h2 => ?_) (fun h2 => ?_)
    · have hnn : nS < 40 := by omega
      obtain ⟨k, n, hkn, rfl, rfl⟩ := okK_nat hok
      have hkl := hkn.lt
      have hP : va_P D vwCl [(a, .inr (2, [.long sd, .ref (a + 1), .ref (a + 2), .int (nI nT), .int (nI nS), .ref (a + 3), .ref (a + 4)])), ((a + 2), .inl (κ 4, 40, .inr (.inr (.inr (.inr fS))))), ((a + 3), .inl (κ 0, 120, .inl mx))] s.heap := hP.sub [0, 2, 3] rfl
      have hnd : ([(a, .inr (2, [.long sd, .ref (a + 1), .ref (a + 2), .int (nI nT), .int (nI nS), .ref (a + 3), .ref (a + 4)])), ((a + 2), .inl (κ 4, 40, .inr (.inr (.inr (.inr fS))))), ((a + 3), .inl (κ 0, 120, .inl mx))] : va_W).map Prod.fst |>.Nodup := by simp only [List.map, List.nodup_cons, List.mem_cons, List.not_mem_nil, or_false, not_or, List.nodup_nil, and_true, not_false_eq_true, List.forall_mem_cons, forall_eq_or_imp, forall_eq]; omega
      have hD0 : va_D (fun q => base ≤ q) [(a, .inr (2, [.long sd, .ref (a + 1), .ref (a + 2), .int (nI nT), .int (nI nS), .ref (a + 3), .ref (a + 4)])), ((a + 2), .inl (κ 4, 40, .inr (.inr (.inr (.inr fS))))), ((a + 3), .inl (κ 0, 120, .inl mx))] := D_of hnd (by simp only [List.map, List.nodup_cons, List.mem_cons, List.not_mem_nil, or_false, not_or, List.nodup_nil, and_true, not_false_eq_true, List.forall_mem_cons, forall_eq_or_imp, forall_eq]; omega)
      have hD := hD0.self (sz := s.heap.size)
      have hAb : ∀ x9, va_A [(a, .inr (2, [.long sd, .ref (a + 1), .ref (a + 2), .int (nI nT), .int (nI nS), .ref (a + 3), .ref (a + 4)])), ((a + 2), .inl (κ 4, 40, .inr (.inr (.inr (.inr fS))))), ((a + 3), .inl (κ 0, 120, .inl mx))] s.heap.size x9 → base ≤ x9 := fun x9 h => by rcases h with ⟨k9, e9, h⟩ | h; exact hD0.2 k9 _ h; exact Nat.le_trans hbs h
      have hAq : ∀ x9, va_A [(a, .inr (2, [.long sd, .ref (a + 1), .ref (a + 2), .int (nI nT), .int (nI nS), .ref (a + 3), .ref (a + 4)])), ((a + 2), .inl (κ 4, 40, .inr (.inr (.inr (.inr fS))))), ((a + 3), .inl (κ 0, 120, .inl mx))] s.heap.size x9 → (x9 = a ∨ x9 = (a + 2) ∨ x9 = (a + 3)) ∨ s.heap.size ≤ x9 := fun x9 h => by have := A_addr h; simpa only [List.map, List.mem_cons, List.not_mem_nil, or_false] using this
      have hAO : ∀ x9, va_A [(a, .inr (2, [.long sd, .ref (a + 1), .ref (a + 2), .int (nI nT), .int (nI nS), .ref (a + 3), .ref (a + 4)])), ((a + 2), .inl (κ 4, 40, .inr (.inr (.inr (.inr fS))))), ((a + 3), .inl (κ 0, 120, .inl mx))] s.heap.size x9 → OwnC a nT nS bT bS s.heap.size x9 := fun x9 h => by exact ownR (by have := hAq x9 h; omega)
      generalize hAe : va_A [(a, .inr (2, [.long sd, .ref (a + 1), .ref (a + 2), .int (nI nT), .int (nI nS), .ref (a + 3), .ref (a + 4)])), ((a + 2), .inl (κ 4, 40, .inr (.inr (.inr (.inr fS))))), ((a + 3), .inl (κ 0, 120, .inl mx))] s.heap.size = A at hD hAb hAq hAO
      have hA : ∀ x9, s.heap.size ≤ x9 → A x9 := fun x9 h => by rw [← hAe]; exact Or.inr h
      have hS : va_S A s.heap s.heap [] := va_S.rf
      have hz : s.heap.size = s.heap.size := rfl
      refine x_new (ci := 1) (fs := [.int (nI 0), .int (nI 0), .null, .null, .null, .int (nI 0), .int (nI 0)]) (C := RS) (T := FS) (N := 7) hx hb hT inS tyS tyS_ok hown (hT _ kP15) (hT _ kxS) (hT _ knS) hK hP hD hS hA rfl (fun j hj => by rcases (show j = 0 ∨ j = 1 ∨ j = 2 ∨ j = 3 ∨ j = 4 ∨ j = 5 ∨ j = 6 by omega) with rfl | rfl | rfl | rfl | rfl | rfl | rfl <;> rfl) (Nat.le_of_ble_eq_true rfl) (Nat.le_of_ble_eq_true rfl) hz dP_test_22 (fun H hP hD hS hz => ?_)
      have hP : va_P D vwCl [(a, .inr (2, [.long sd, .ref (a + 1), .ref (a + 2), .int (nI nT), .int (nI nS), .ref (a + 3), .ref (a + 4)])), ((a + 2), .inl (κ 4, 40, .inr (.inr (.inr (.inr fS))))), ((a + 3), .inl (κ 0, 120, .inl mx)), (s.heap.size, .inr (1, [.int (nI 0), .int (nI 0), .null, .null, .null, .int (nI 0), .int (nI 0)]))] H := hP
      have hD : va_D A [(a, .inr (2, [.long sd, .ref (a + 1), .ref (a + 2), .int (nI nT), .int (nI nS), .ref (a + 3), .ref (a + 4)])), ((a + 2), .inl (κ 4, 40, .inr (.inr (.inr (.inr fS))))), ((a + 3), .inl (κ 0, 120, .inl mx)), (s.heap.size, .inr (1, [.int (nI 0), .int (nI 0), .null, .null, .null, .int (nI 0), .int (nI 0)]))] := hD
      refine lv_dup hx hb dP_test_25 rfl ?_
      refine lv_iload_n hx hb dP_test_26 rfl (lv_at hl 1 rfl) ?_
      refine lv_iload_n hx hb dP_test_27 rfl (lv_at hl 2 rfl) ?_
      have hFc := va_free (wc := [(s.heap.size, .inr (1, [.int (nI 0), .int (nI 0), .null, .null, .null, .int (nI 0), .int (nI 0)]))]) hD hS hA [3] rfl
      have hPc := hP.sub (ws' := [(s.heap.size, .inr (1, [.int (nI 0), .int (nI 0), .null, .null, .null, .int (nI 0), .int (nI 0)]))]) [3] rfl
      have hDc := (hD.sub (ws' := [(s.heap.size, .inr (1, [.int (nI 0), .int (nI 0), .null, .null, .null, .int (nI 0), .int (nI 0)]))]) [3] (by decide) rfl).weaken (fun _ _ _ h => hAb _ h)
      have hbc : base ≤ H.size := Nat.le_trans hbs hS.1
      refine x_callW (va_runIN (As := [.int (nI k), .int (nI n)]) (rest := [.ref s.heap.size]) ⟨hx, hb, hml, hown, hT⟩ (c_S_init l D κ base H (q := s.heap.size) k n hz hPc hDc hbc) ⟨va_cnB 2 hT (TT_code kcS_init) rfl rfl rfl (kN45 hE.2.1) (hT _ knS) (by decide +kernel) ⟨Nat.le_of_ble_eq_true rfl, Nat.le_of_ble_eq_true rfl⟩, rfl, hT _ kiS_init⟩ (pcS hE hS hAb) rfl rfl hl.1 rfl (lv_room (Nat.le_of_ble_eq_true rfl)) dP_test_28 ⟨Nat.le_of_ble_eq_true rfl, Nat.le_of_ble_eq_true rfl⟩) hS (fun q h => hFc q h) (fun v H1 h => Pst.fr hFc h.1) (fun v H locs hpost hS => ?_)
      obtain ⟨⟨rfl, hP1, hD1, hz1, hk1⟩, hz⟩ := hpost
      obtain ⟨hP, hD⟩ := va_join (wr := [(a, .inr (2, [.long sd, .ref (a + 1), .ref (a + 2), .int (nI nT), .int (nI nS), .ref (a + 3), .ref (a + 4)])), ((a + 2), .inl (κ 4, 40, .inr (.inr (.inr (.inr fS))))), ((a + 3), .inl (κ 0, 120, .inl mx))]) (w1 := [(s.heap.size, .inr (1, [.int (nI k), .int (nI n), .ref (s.heap.size + 1), .ref (s.heap.size + 2), .ref (s.heap.size + 3), .int (nI 0), .int (nI 0)])), ((s.heap.size + 1), .inl (κ 0, 26, .inl (fun _ => nI 0))), ((s.heap.size + 2), .inl (κ 1, 26, .inl (fun _ => nI 0))), ((s.heap.size + 3), .inl (κ 0, 130, .inl (fun _ => nI 0)))]) hP hD [3] [0, 1, 2] rfl rfl (by decide) (by decide) hk1 hFc hP1 hD1
      have hP : va_P D vwCl [(a, .inr (2, [.long sd, .ref (a + 1), .ref (a + 2), .int (nI nT), .int (nI nS), .ref (a + 3), .ref (a + 4)])), ((a + 2), .inl (κ 4, 40, .inr (.inr (.inr (.inr fS))))), ((a + 3), .inl (κ 0, 120, .inl mx)), (s.heap.size, .inr (1, [.int (nI k), .int (nI n), .ref (s.heap.size + 1), .ref (s.heap.size + 2), .ref (s.heap.size + 3), .int (nI 0), .int (nI 0)])), ((s.heap.size + 1), .inl (κ 0, 26, .inl (fun _ => nI 0))), ((s.heap.size + 2), .inl (κ 1, 26, .inl (fun _ => nI 0))), ((s.heap.size + 3), .inl (κ 0, 130, .inl (fun _ => nI 0)))] H := hP
      have hD : va_D A [(a, .inr (2, [.long sd, .ref (a + 1), .ref (a + 2), .int (nI nT), .int (nI nS), .ref (a + 3), .ref (a + 4)])), ((a + 2), .inl (κ 4, 40, .inr (.inr (.inr (.inr fS))))), ((a + 3), .inl (κ 0, 120, .inl mx)), (s.heap.size, .inr (1, [.int (nI k), .int (nI n), .ref (s.heap.size + 1), .ref (s.heap.size + 2), .ref (s.heap.size + 3), .int (nI 0), .int (nI 0)])), ((s.heap.size + 1), .inl (κ 0, 26, .inl (fun _ => nI 0))), ((s.heap.size + 2), .inl (κ 1, 26, .inl (fun _ => nI 0))), ((s.heap.size + 3), .inl (κ 0, 130, .inl (fun _ => nI 0)))] := hD
      refine W.eq (g2 := F0 m 31 ls [.ref s.heap.size]) rfl ?_
      refine lv_astore_n (lv' := [(3, .ref s.heap.size), (0, .ref a), (1, .int (nI k)), (2, .int (nI n))]) hx hb dP_test_31 rfl hl (by decide) rfl (fun ls hl => ?_)
      refine lv_aload_n hx hb dP_test_32 rfl (lv_at hl 1 rfl) ?_
      refine lv_aload_n hx hb dP_test_33 rfl (lv_at hl 0 rfl) ?_
      refine lv_aload_n hx hb dP_test_34 rfl (lv_at hl 1 rfl) ?_
      refine va_get (D := D) (ci := 2) (v := .int (nI nS)) (C := RP) (T := FP) (N := 7) hx hb hT inP hown hK hP 0 rfl rfl 4 (by decide) (hT _ kP42) (fun _ h9 => h9) rfl dP_test_35 ?_
      have hFc := va_free (wc := [(a, .inr (2, [.long sd, .ref (a + 1), .ref (a + 2), .int (nI nT), .int (nI nS), .ref (a + 3), .ref (a + 4)])), ((a + 3), .inl (κ 0, 120, .inl mx)), (s.heap.size, .inr (1, [.int (nI k), .int (nI n), .ref (s.heap.size + 1), .ref (s.heap.size + 2), .ref (s.heap.size + 3), .int (nI 0), .int (nI 0)])), ((s.heap.size + 1), .inl (κ 0, 26, .inl (fun _ => nI 0)))]) hD hS hA [0, 2, 3, 4] rfl
      have hPc := hP.sub (ws' := [(a, .inr (2, [.long sd, .ref (a + 1), .ref (a + 2), .int (nI nT), .int (nI nS), .ref (a + 3), .ref (a + 4)])), ((a + 3), .inl (κ 0, 120, .inl mx)), (s.heap.size, .inr (1, [.int (nI k), .int (nI n), .ref (s.heap.size + 1), .ref (s.heap.size + 2), .ref (s.heap.size + 3), .int (nI 0), .int (nI 0)])), ((s.heap.size + 1), .inl (κ 0, 26, .inl (fun _ => nI 0)))]) [0, 2, 3, 4] rfl
      have hDc := (hD.sub (ws' := [(a, .inr (2, [.long sd, .ref (a + 1), .ref (a + 2), .int (nI nT), .int (nI nS), .ref (a + 3), .ref (a + 4)])), ((a + 3), .inl (κ 0, 120, .inl mx)), (s.heap.size, .inr (1, [.int (nI k), .int (nI n), .ref (s.heap.size + 1), .ref (s.heap.size + 2), .ref (s.heap.size + 3), .int (nI 0), .int (nI 0)])), ((s.heap.size + 1), .inl (κ 0, 26, .inl (fun _ => nI 0)))]) [0, 2, 3, 4] (by decide) rfl).weaken (fun _ _ _ h => hAb _ h)
      have hbc : base ≤ H.size := Nat.le_trans hbs hS.1
      refine x_callW (va_runV (As := [.ref s.heap.size, .int (nI nS)]) (rest := []) ⟨hx, hb, hml, hown, hT⟩ (c_P_giveOrders l D κ base H (cntO k n) nS hkn rfl (by omega) hPc hDc hbc) (cwV 2 hT (TT_V kP48 kiP_giveOrders ksP_giveOrders knP kcP_giveOrders) rfl rfl rfl (by decide +kernel) ⟨Nat.le_of_ble_eq_true rfl, Nat.le_of_ble_eq_true rfl⟩) (pcV hE hS hAb (va_recv hK hP (ci := 2) (q0 := 0) rfl rfl)) rfl rfl hl.1 rfl (lv_room (Nat.le_of_ble_eq_true rfl)) dP_test_38 ⟨Nat.le_of_ble_eq_true rfl, Nat.le_of_ble_eq_true rfl⟩) hS (fun q h => hFc q h) (fun v H1 h => by obtain ⟨F9, G9, h9, -⟩ := h; exact Pst.fr hFc h9) (fun v H locs hpost hS => ?_)
      obtain ⟨F2, G2, ⟨rfl, hP1, hD1, hz1, hk1⟩, hG2⟩ := hpost
      obtain ⟨hP, hD⟩ := va_join (wr := [((a + 2), .inl (κ 4, 40, .inr (.inr (.inr (.inr fS))))), ((s.heap.size + 2), .inl (κ 1, 26, .inl (fun _ => nI 0))), ((s.heap.size + 3), .inl (κ 0, 130, .inl (fun _ => nI 0)))]) (w1 := [(a, .inr (2, [.long sd, .ref (a + 1), .ref (a + 2), .int (nI nT), .int (nI nS), .ref (a + 3), .ref (a + 4)])), ((a + 3), .inl (κ 0, 120, .inl F2)), (s.heap.size, .inr (1, [.int (nI k), .int (nI n), .ref (s.heap.size + 1), .ref (s.heap.size + 2), .ref (s.heap.size + 3), .int (nI 0), .int (nI 0)])), ((s.heap.size + 1), .inl (κ 0, 26, .inl G2))]) hP hD [0, 2, 3, 4] [1, 5, 6] rfl rfl (by decide) (by decide) hk1 hFc hP1 hD1
      have hP : va_P D vwCl [((a + 2), .inl (κ 4, 40, .inr (.inr (.inr (.inr fS))))), ((s.heap.size + 2), .inl (κ 1, 26, .inl (fun _ => nI 0))), ((s.heap.size + 3), .inl (κ 0, 130, .inl (fun _ => nI 0))), (a, .inr (2, [.long sd, .ref (a + 1), .ref (a + 2), .int (nI nT), .int (nI nS), .ref (a + 3), .ref (a + 4)])), ((a + 3), .inl (κ 0, 120, .inl F2)), (s.heap.size, .inr (1, [.int (nI k), .int (nI n), .ref (s.heap.size + 1), .ref (s.heap.size + 2), .ref (s.heap.size + 3), .int (nI 0), .int (nI 0)])), ((s.heap.size + 1), .inl (κ 0, 26, .inl G2))] H := hP
      have hD : va_D A [((a + 2), .inl (κ 4, 40, .inr (.inr (.inr (.inr fS))))), ((s.heap.size + 2), .inl (κ 1, 26, .inl (fun _ => nI 0))), ((s.heap.size + 3), .inl (κ 0, 130, .inl (fun _ => nI 0))), (a, .inr (2, [.long sd, .ref (a + 1), .ref (a + 2), .int (nI nT), .int (nI nS), .ref (a + 3), .ref (a + 4)])), ((a + 3), .inl (κ 0, 120, .inl F2)), (s.heap.size, .inr (1, [.int (nI k), .int (nI n), .ref (s.heap.size + 1), .ref (s.heap.size + 2), .ref (s.heap.size + 3), .int (nI 0), .int (nI 0)])), ((s.heap.size + 1), .inl (κ 0, 26, .inl G2))] := hD
      refine W.eq (g2 := F0 m 41 ls []) rfl ?_
      refine lv_aload_n hx hb dP_test_41 rfl (lv_at hl 1 rfl) ?_
      refine va_get (D := D) (ci := 2) (v := .ref (a + 2)) (C := RP) (T := FP) (N := 7) hx hb hT inP hown hK hP 3 rfl rfl 2 (by decide) (hT _ kP17) (fun _ h9 => h9) rfl dP_test_42 ?_
      refine lv_aload_n hx hb dP_test_45 rfl (lv_at hl 1 rfl) ?_
      refine va_get (D := D) (ci := 2) (v := .int (nI nS)) (C := RP) (T := FP) (N := 7) hx hb hT inP hown hK hP 3 rfl rfl 4 (by decide) (hT _ kP42) (fun _ h9 => h9) rfl dP_test_46 ?_
      refine lv_aload_n hx hb dP_test_49 rfl (lv_at hl 0 rfl) ?_
      refine x_aast hx hb hK hP hD hS 0 4 5 1 (j := nS) rfl rfl rfl rfl (by omega) (by decide) dP_test_50 (fun H locs hP hD hS hz9 => ?_)
      have hP : va_P D vwCl [((a + 2), .inl (κ 4, 40, .inr (.inr (.inr (.inr (va_up fS nS (some s.heap.size))))))), ((s.heap.size + 2), .inl (κ 1, 26, .inl (fun _ => nI 0))), ((s.heap.size + 3), .inl (κ 0, 130, .inl (fun _ => nI 0))), (a, .inr (2, [.long sd, .ref (a + 1), .ref (a + 2), .int (nI nT), .int (nI nS), .ref (a + 3), .ref (a + 4)])), ((a + 3), .inl (κ 0, 120, .inl F2)), (s.heap.size, .inr (1, [.int (nI k), .int (nI n), .ref (s.heap.size + 1), .ref (s.heap.size + 2), .ref (s.heap.size + 3), .int (nI 0), .int (nI 0)])), ((s.heap.size + 1), .inl (κ 0, 26, .inl G2))] H := hP
      have hD : va_D A [((a + 2), .inl (κ 4, 40, .inr (.inr (.inr (.inr (va_up fS nS (some s.heap.size))))))), ((s.heap.size + 2), .inl (κ 1, 26, .inl (fun _ => nI 0))), ((s.heap.size + 3), .inl (κ 0, 130, .inl (fun _ => nI 0))), (a, .inr (2, [.long sd, .ref (a + 1), .ref (a + 2), .int (nI nT), .int (nI nS), .ref (a + 3), .ref (a + 4)])), ((a + 3), .inl (κ 0, 120, .inl F2)), (s.heap.size, .inr (1, [.int (nI k), .int (nI n), .ref (s.heap.size + 1), .ref (s.heap.size + 2), .ref (s.heap.size + 3), .int (nI 0), .int (nI 0)])), ((s.heap.size + 1), .inl (κ 0, 26, .inl G2))] := hD
      refine lv_aload_n hx hb dP_test_51 rfl (lv_at hl 1 rfl) ?_
      refine lv_dup hx hb dP_test_52 rfl ?_
      refine va_get (D := D) (ci := 2) (v := .int (nI nS)) (C := RP) (T := FP) (N := 7) hx hb hT inP hown hK hP 3 rfl rfl 4 (by decide) (hT _ kP42) (fun _ h9 => h9) rfl dP_test_53 ?_
      refine lv_dup_x1 hx hb dP_test_56 rfl rfl ?_
      refine lv_iconst (v := nI 1) hx hb dP_test_57 (by decide) ?_
      refine x_iadd (v := nI (nS + 1)) hx hb dP_test_58 (nI_add _ _) ?_
      refine va_put (D := D) (ci := 2) (v := .int (nI (nS + 1))) (ty := .int) (C := RP) (T := FP) (N := 7) hx hb hT inP tyP tyP_ok nmP hown hK hP hD hS 3 rfl rfl 4 (by decide) (hT _ kP42) (fun _ h9 => h9) rfl (by decide +kernel) rfl rfl (Nat.le_of_ble_eq_true rfl) dP_test_59 (fun H locs hP hD hS => ?_)
      have hP : va_P D vwCl [((a + 2), .inl (κ 4, 40, .inr (.inr (.inr (.inr (va_up fS nS (some s.heap.size))))))), ((s.heap.size + 2), .inl (κ 1, 26, .inl (fun _ => nI 0))), ((s.heap.size + 3), .inl (κ 0, 130, .inl (fun _ => nI 0))), (a, .inr (2, [.long sd, .ref (a + 1), .ref (a + 2), .int (nI nT), .int (nI (nS + 1)), .ref (a + 3), .ref (a + 4)])), ((a + 3), .inl (κ 0, 120, .inl F2)), (s.heap.size, .inr (1, [.int (nI k), .int (nI n), .ref (s.heap.size + 1), .ref (s.heap.size + 2), .ref (s.heap.size + 3), .int (nI 0), .int (nI 0)])), ((s.heap.size + 1), .inl (κ 0, 26, .inl G2))] H := hP
      have hD : va_D A [((a + 2), .inl (κ 4, 40, .inr (.inr (.inr (.inr (va_up fS nS (some s.heap.size))))))), ((s.heap.size + 2), .inl (κ 1, 26, .inl (fun _ => nI 0))), ((s.heap.size + 3), .inl (κ 0, 130, .inl (fun _ => nI 0))), (a, .inr (2, [.long sd, .ref (a + 1), .ref (a + 2), .int (nI nT), .int (nI (nS + 1)), .ref (a + 3), .ref (a + 4)])), ((a + 3), .inl (κ 0, 120, .inl F2)), (s.heap.size, .inr (1, [.int (nI k), .int (nI n), .ref (s.heap.size + 1), .ref (s.heap.size + 2), .ref (s.heap.size + 3), .int (nI 0), .int (nI 0)])), ((s.heap.size + 1), .inl (κ 0, 26, .inl G2))] := hD
      have hP := hP.sub (ws' := [(a, .inr (2, [.long sd, .ref (a + 1), .ref (a + 2), .int (nI nT), .int (nI (nS + 1)), .ref (a + 3), .ref (a + 4)])), ((a + 2), .inl (κ 4, 40, .inr (.inr (.inr (.inr (va_up fS nS (some s.heap.size))))))), ((a + 3), .inl (κ 0, 120, .inl F2)), (s.heap.size, .inr (1, [.int (nI k), .int (nI n), .ref (s.heap.size + 1), .ref (s.heap.size + 2), .ref (s.heap.size + 3), .int (nI 0), .int (nI 0)])), ((s.heap.size + 1), .inl (κ 0, 26, .inl G2)), ((s.heap.size + 2), .inl (κ 1, 26, .inl (fun _ => nI 0))), ((s.heap.size + 3), .inl (κ 0, 130, .inl (fun _ => nI 0)))]) [3, 0, 4, 5, 6, 1, 2] rfl
      have hD := hD.sub (ws' := [(a, .inr (2, [.long sd, .ref (a + 1), .ref (a + 2), .int (nI nT), .int (nI (nS + 1)), .ref (a + 3), .ref (a + 4)])), ((a + 2), .inl (κ 4, 40, .inr (.inr (.inr (.inr (va_up fS nS (some s.heap.size))))))), ((a + 3), .inl (κ 0, 120, .inl F2)), (s.heap.size, .inr (1, [.int (nI k), .int (nI n), .ref (s.heap.size + 1), .ref (s.heap.size + 2), .ref (s.heap.size + 3), .int (nI 0), .int (nI 0)])), ((s.heap.size + 1), .inl (κ 0, 26, .inl G2)), ((s.heap.size + 2), .inl (κ 1, 26, .inl (fun _ => nI 0))), ((s.heap.size + 3), .inl (κ 0, 130, .inl (fun _ => nI 0)))]) [3, 0, 4, 5, 6, 1, 2] (by decide) rfl
      refine W.widen (k := 4) (n := 189) (by decide) (by decide) ?_
      have hinj : ∀ k2 n2, okN k2 n2 → nI k = nI k2 → nI n = nI n2 → k2 = k ∧ n2 = n := fun k2 n2 h e1 e2 => by have := h.lt; exact ⟨(nI_inj (by omega) (by omega) e1).symm, (nI_inj (by omega) (by omega) e2).symm⟩
      exact W.iret (v := nI nS) hx hb hr (fun t9 ht9 hW9 => ⟨some (.int (nI nS)), rfl, by rw [ht9]; exact ⟨fun q => absurd q (by rw [hok]; decide), fun _ q => absurd q (by omega), fun k2 n2 h2 e1 e2 _ => by obtain ⟨rfl, rfl⟩ := hinj k2 n2 h2 e1 e2; exact ⟨rfl, RC_test hR0 hnn hkn hG2 hAq hS.1 hS.2.1 hfS hP⟩, ⟨hS.1, fun q h1 h2 => hS.2.1 q h1 (fun z => h2 (hAO q z))⟩⟩⟩) (fun q h => hAO _ (hS.2.2 q h)) dP_test_62
    · refine lv_bipush (v := -2) hx hb dP_test_19 (by decide) ?_
      refine W.widen (k := 4) (n := 189) (by decide) (by decide) ?_
      exact W.iret (v := -2) hx hb hr (fun t9 ht9 hW9 => ⟨some (.int (-2)), rfl, by rw [ht9]; exact ⟨fun q => absurd q (by rw [hok]; decide), fun _ _ => ⟨rfl, hR0⟩, fun _ _ _ _ _ q => absurd q (by omega), FrC.rf⟩⟩) (fun q h => absurd h List.not_mem_nil) dP_test_21
  · refine x_callP (v := .int (nI 0)) (va_runS (As := [.int x, .int y]) (rest := []) ⟨hx, hb, hml, hown, hT⟩ (c_P_isKindOf l D κ base s.heap x y 0 (by rw [if_neg hok])) (va_cwS 2 hT (TT_S kP38 ktP_isKindOf knP kcP_isKindOf) rfl rfl rfl (by decide +kernel) ⟨Nat.le_of_ble_eq_true rfl, Nat.le_of_ble_eq_true rfl⟩) (pcS hE hS hAb) rfl rfl hl.1 rfl (lv_room (Nat.le_of_ble_eq_true rfl)) dP_test_2 ⟨Nat.le_of_ble_eq_true rfl, Nat.le_of_ble_eq_true rfl⟩) ?_
    refine x_zne (a := 0) (tgt := 10) hx hb dP_test_5 (by decide) (by omega) (fun h3 => absurd rfl h3) (fun h3 => ?_)
    refine lv_iconst (v := -1) hx hb dP_test_8 (by decide) ?_
    refine W.widen (k := 4) (n := 189) (by decide) (by decide) ?_
    exact W.iret (v := -1) hx hb hr (fun t9 ht9 hW9 => ⟨some (.int (-1)), rfl, by rw [ht9]; exact ⟨fun _ => ⟨rfl, hR0⟩, fun q => absurd q hok, fun k n hkn e1 e2 => absurd (by rw [e1, e2]; exact okK_of hkn) hok, FrC.rf⟩⟩) (fun q h => absurd h List.not_mem_nil) dP_test_9
