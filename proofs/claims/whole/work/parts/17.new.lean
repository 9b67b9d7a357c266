/-! taster() and test(): new blocks -/
theorem va_P.congr1 {D : va_G} {q : Nat} {c : ClassId} {n : Nat} {f g : Nat → Int32} {H : Heap} (h : va_P D vwCl [(q, .inl (c, n, .inl f))] H) (hfg : ∀ j, j < n → f j = g j) : va_P D vwCl [(q, .inl (c, n, .inl g))] H := by
  intro k x hx
  have hz : k < 1 := (List.getElem?_eq_some_iff.mp hx).1
  rw [show k = 0 by omega] at hx
  cases hx
  have h1 := h 0 _ rfl
  show H[q]? = some (vp_cell c (n, .inl g))
  rw [← vp_cell_congr hfg]
  exact h1
theorem RC_taster {D : va_G} {κ : Nat → ClassId} {base a : Nat} {sd : Int64} {nT nS : Nat} {bT bS : Nat → Nat} {td fd : Nat → Nat → Nat} {ta tr kd sp ca cr : Nat → Nat} {od aw rk : Nat → Nat → Nat} {H0 H : Heap} {A : Nat → Prop} {fT : Nat → Option Nat} (hR : RC D κ base a sd nT nS bT bS td fd ta tr kd sp ca cr od aw rk H0) (hn : nT < 26) (hAq : ∀ x9, A x9 → (x9 = a ∨ x9 = (a + 1)) ∨ H0.size ≤ x9)
    (hsz : H0.size ≤ H.size) (hk : ∀ q : Nat, q < H0.size → ¬ A q → H[q]? = H0[q]?) (hf : ∀ i, i < 26 → fT i = if i < nT then some (bT i) else none) (hP : va_P D vwCl [(a, .inr (2, [.long sd, .ref (a + 1), .ref (a + 2), .int (nI (nT + 1)), .int (nI nS), .ref (a + 3), .ref (a + 4)])), ((a + 1), .inl (κ 3, 26, .inr (.inr (.inr (.inr (va_up fT nT (some H0.size))))))), (H0.size, .inr (0, [.ref (H0.size + 1), .ref (H0.size + 2), .int (nI 0), .int (nI 0)])), ((H0.size + 1), .inl (κ 1, 16, .inl (fun _ => nI 0))), ((H0.size + 2), .inl (κ 1, 16, .inl (fun _ => nI 0)))] H) :
    RC D κ base a sd (nT + 1) nS (u1 bT nT H0.size) bS (ur td nT (fun _ => 0)) (ur fd nT (fun _ => 0)) (u1 ta nT 0) (u1 tr nT 0) kd sp ca cr od aw rk H := by
  obtain ⟨⟨fT0, fS, mx, sw, hP0, hfT, hfS⟩, hTas, hTes, ⟨hnT, hnS, hba, hah⟩, hb1, hb2, hs1, hs2, hs3, hs4, hs5⟩ := hR
  have hend : H0.size + 2 < H.size := (hP 4 _ rfl).lt
  refine ⟨⟨va_up fT nT (some H0.size), fS, mx, sw, ?_, fun i hi => ?_, hfS⟩, fun i hi => ?_, fun j hj => keepW hk (hTes j hj) ?_, ⟨⟨by omega, hnS, hba, by omega⟩, hb1, fun i hi => ?_, fun i hi => ?_, fun j hj => ?_, fun i i' h1 h2 => ?_, hs4, fun i j hi hj => ?_⟩⟩
  · have h1 := hP.sub (ws' := [(a, .inr (2, [.long sd, .ref (a + 1), .ref (a + 2), .int (nI (nT + 1)), .int (nI nS), .ref (a + 3), .ref (a + 4)])), ((a + 1), .inl (κ 3, 26, .inr (.inr (.inr (.inr (va_up fT nT (some H0.size)))))))]) [0, 1] rfl
    have h2 := keepW hk (hP0.sub (ws' := [((a + 2), .inl (κ 4, 40, .inr (.inr (.inr (.inr fS))))), ((a + 3), .inl (κ 0, 120, .inl mx)), ((a + 4), .inl (κ 2, 131, .inr (.inl sw)))]) [2, 3, 4] rfl) (by
      simp only [List.map, List.nodup_cons, List.mem_cons, List.not_mem_nil, or_false, not_or, List.nodup_nil, and_true, not_false_eq_true, List.forall_mem_cons, forall_eq_or_imp, forall_eq]
      refine ⟨fun q => ?_, fun q => ?_, fun q => ?_⟩ <;> (have := hAq _ q; omega))
    exact h1.app h2
  · by_cases e : i = nT
    · subst e
      rw [va_up_self, if_pos (by omega), u1_eq]
    · rw [va_up_ne _ _ e, hf i hi, u1_ne e]
      by_cases h : i < nT
      · rw [if_pos h, if_pos (by omega)]
      · rw [if_neg h, if_neg (by omega)]
  · by_cases e : i = nT
    · subst e
      rw [u1_eq, u1_eq, u1_eq, ur_eq, ur_eq]
      exact hP.sub [2, 3, 4] rfl
    · rw [u1_ne e, u1_ne e, u1_ne e, ur_ne e, ur_ne e]
      have b := hs1 i (by omega)
      refine keepW hk (hTas i (by omega)) ?_
      simp only [List.map, List.nodup_cons, List.mem_cons, List.not_mem_nil, or_false, not_or, List.nodup_nil, and_true, not_false_eq_true, List.forall_mem_cons, forall_eq_or_imp, forall_eq]
      refine ⟨fun q => ?_, fun q => ?_, fun q => ?_⟩ <;> (have := hAq _ q; omega)
  · simp only [List.map, List.nodup_cons, List.mem_cons, List.not_mem_nil, or_false, not_or, List.nodup_nil, and_true, not_false_eq_true, List.forall_mem_cons, forall_eq_or_imp, forall_eq]
    have b2 := hs2 j hj
    refine ⟨fun q => ?_, fun q => ?_, fun q => ?_, fun q => ?_⟩ <;> (have := hAq _ q; omega)
  · by_cases e : i = nT
    · subst e
      rw [u1_eq, u1_eq, ur_eq, ur_eq]
      exact ⟨by omega, by omega, fun k hk => ⟨by omega, by omega⟩⟩
    · rw [u1_ne e, u1_ne e, ur_ne e, ur_ne e]
      exact hb2 i (by omega)
  · by_cases e : i = nT
    · subst e
      rw [u1_eq]
      omega
    · rw [u1_ne e]
      have b := hs1 i (by omega)
      omega
  · have := hs2 j hj; omega
  · have e1 : i ≠ nT := by omega
    rw [u1_ne e1]
    by_cases e : i' = nT
    · subst e
      rw [u1_eq]
      have b := hs1 i (by omega)
      omega
    · rw [u1_ne e]
      exact hs3 i i' h1 (by omega)
  · have b2 := hs2 j hj
    by_cases e : i = nT
    · subst e
      rw [u1_eq]
      omega
    · rw [u1_ne e]
      exact hs5 i j (by omega) hj
set_option maxHeartbeats 400000 in
set_option maxRecDepth 100000 in
theorem c_P_taster (l : Launch) (D : va_G) (κ : Nat → ClassId) (base : Nat) (H0 : Heap) {a : Nat} {sd : Int64} {nT nS : Nat} {bT bS : Nat → Nat} {td fd : Nat → Nat → Nat} {ta tr kd sp ca cr : Nat → Nat} {od aw rk : Nat → Nat → Nat} (hR : RC D κ base a sd nT nS bT bS td fd ta tr kd sp ca cr od aw rk H0)  : Met l yP_taster wP_taster ({ frames := 2, cells := 3, slots := 36, locals := 32 }) (Pq D κ base [.ref a] H0) (q_W (fun v H => (26 ≤ nT → v = some (.int (-2)) ∧ RC D κ base a sd nT nS bT bS td fd ta tr kd sp ca cr od aw rk H) ∧ (nT < 26 → v = some (.int (nI nT)) ∧ RC D κ base a sd (nT + 1) nS (u1 bT nT H0.size) bS (ur td nT (fun _ => 0)) (ur fd nT (fun _ => 0)) (u1 ta nT 0) (u1 tr nT 0) kd sp ca cr od aw rk H) ∧ FrC a nT nS bT bS H0 H)) 3 36 (OwnC a nT nS bT bS H0.size) := by
  refine Met.ofW (cc := bP_taster) (maxL := 1) (ret := (some FieldType.int)) (by decide) rfl ?_
  intro p e s m args below meth c s₁ B hml hv
  obtain ⟨rfl, hH, hE⟩ := hv
  subst hH
  have hx := B.exec
  have hb := B.bytes
  have hr := B.returns
  have hT : ∀ w ∈ TT, w.before _ s = true := fun w h => atoms_spec (ws := wP_taster) B.pre w (List.mem_cons_of_mem _ h)
  have hown : s.vm.findClass "TasterPanels" = some m.cls := findClass_of_methodNamed B.named
  have hlocks := B.notSynchronized
  have hK := hE.1
  have hS : va_S (fun q => base ≤ q) s.heap s.heap [] := va_S.rf
  have hAb : ∀ q : Nat, (fun q : Nat => base ≤ q) q → base ≤ q := fun _ h => h
  have hl := lv_entry ([.ref a]) (n := 1) (Nat.le_of_ble_eq_true rfl)
  rw [lg_entry_eq]
  generalize (lg_sl ([.ref a]) ++ List.replicate (1 - (lg_sl ([.ref a])).length) Slot.unset).toArray = ls at hl ⊢
  have hl : lv_has ls 1 [(0, .ref a)] := hl
  have hR0 := hR
  obtain ⟨⟨fT, fS, mx, sw, hP, hfT, hfS⟩, hTas, hTes, hbd⟩ := hR
  obtain ⟨⟨hnT, hnS, hba, hah⟩, hb1, hb2, hs1, hs2, hs3, hs4, hs5⟩ := hbd
  have hbs : base ≤ s.heap.size := by omega
  have hOb : ∀ x9, OwnC a nT nS bT bS s.heap.size x9 → base ≤ x9 := fun x9 h => OwnC.base hba (by omega) hs1 hs2 h
  have hS : va_S (OwnC a nT nS bT bS s.heap.size) s.heap s.heap [] := va_S.rf
  have hAb := hOb
  refine lv_aload_n hx hb dP_taster_0 rfl (lv_at hl 0 rfl) ?_
  refine va_get (D := D) (ci := 2) (v := .int (nI nT)) (C := RP) (T := FP) (N := 7) hx hb hT inP hown hK hP 0 rfl rfl 3 (by decide) (hT _ kP33) (fun _ h9 => h9) rfl dP_taster_1 ?_
  refine lv_bipush (v := nI 26) hx hb dP_taster_4 (by decide) ?_
  refine x_clt (a := nT) (b := 26) (tgt := 12) hx hb dP_taster_6 (by decide) (by omega) (by omega) (fun h1 => ?_) (fun h1 => ?_)
  · have hnn : nT < 26 := by omega
    have hP : va_P D vwCl [(a, .inr (2, [.long sd, .ref (a + 1), .ref (a + 2), .int (nI nT), .int (nI nS), .ref (a + 3), .ref (a + 4)])), ((a + 1), .inl (κ 3, 26, .inr (.inr (.inr (.inr fT)))))] s.heap := hP.sub [0, 1] rfl
    have hnd : ([(a, .inr (2, [.long sd, .ref (a + 1), .ref (a + 2), .int (nI nT), .int (nI nS), .ref (a + 3), .ref (a + 4)])), ((a + 1), .inl (κ 3, 26, .inr (.inr (.inr (.inr fT)))))] : va_W).map Prod.fst |>.Nodup := by simp only [List.map, List.nodup_cons, List.mem_cons, List.not_mem_nil, or_false, not_or, List.nodup_nil, and_true, not_false_eq_true, List.forall_mem_cons, forall_eq_or_imp, forall_eq]; omega
    have hD0 : va_D (fun q => base ≤ q) [(a, .inr (2, [.long sd, .ref (a + 1), .ref (a + 2), .int (nI nT), .int (nI nS), .ref (a + 3), .ref (a + 4)])), ((a + 1), .inl (κ 3, 26, .inr (.inr (.inr (.inr fT)))))] := D_of hnd (by simp only [List.map, List.nodup_cons, List.mem_cons, List.not_mem_nil, or_false, not_or, List.nodup_nil, and_true, not_false_eq_true, List.forall_mem_cons, forall_eq_or_imp, forall_eq]; omega)
    have hD := hD0.self (sz := s.heap.size)
    have hAb : ∀ x9, va_A [(a, .inr (2, [.long sd, .ref (a + 1), .ref (a + 2), .int (nI nT), .int (nI nS), .ref (a + 3), .ref (a + 4)])), ((a + 1), .inl (κ 3, 26, .inr (.inr (.inr (.inr fT)))))] s.heap.size x9 → base ≤ x9 := fun x9 h => by rcases h with ⟨k9, e9, h⟩ | h; exact hD0.2 k9 _ h; exact Nat.le_trans hbs h
    have hAq : ∀ x9, va_A [(a, .inr (2, [.long sd, .ref (a + 1), .ref (a + 2), .int (nI nT), .int (nI nS), .ref (a + 3), .ref (a + 4)])), ((a + 1), .inl (κ 3, 26, .inr (.inr (.inr (.inr fT)))))] s.heap.size x9 → (x9 = a ∨ x9 = (a + 1)) ∨ s.heap.size ≤ x9 := fun x9 h => by have := A_addr h; simpa only [List.map, List.mem_cons, List.not_mem_nil, or_false] using this
    have hAO : ∀ x9, va_A [(a, .inr (2, [.long sd, .ref (a + 1), .ref (a + 2), .int (nI nT), .int (nI nS), .ref (a + 3), .ref (a + 4)])), ((a + 1), .inl (κ 3, 26, .inr (.inr (.inr (.inr fT)))))] s.heap.size x9 → OwnC a nT nS bT bS s.heap.size x9 := fun x9 h => by exact ownR (by have := hAq x9 h; omega)
    generalize hAe : va_A [(a, .inr (2, [.long sd, .ref (a + 1), .ref (a + 2), .int (nI nT), .int (nI nS), .ref (a + 3), .ref (a + 4)])), ((a + 1), .inl (κ 3, 26, .inr (.inr (.inr (.inr fT)))))] s.heap.size = A at hD hAb hAq hAO
    have hA : ∀ x9, s.heap.size ≤ x9 → A x9 := fun x9 h => by rw [← hAe]; exact Or.inr h
    have hS : va_S A s.heap s.heap [] := va_S.rf
    have hz : s.heap.size = s.heap.size := rfl
    refine lv_aload_n hx hb dP_taster_12 rfl (lv_at hl 0 rfl) ?_
    refine va_get (D := D) (ci := 2) (v := .ref (a + 1)) (C := RP) (T := FP) (N := 7) hx hb hT inP hown hK hP 0 rfl rfl 1 (by decide) (hT _ kP11) (fun _ h9 => h9) rfl dP_taster_13 ?_
    refine lv_aload_n hx hb dP_taster_16 rfl (lv_at hl 0 rfl) ?_
    refine va_get (D := D) (ci := 2) (v := .int (nI nT)) (C := RP) (T := FP) (N := 7) hx hb hT inP hown hK hP 0 rfl rfl 3 (by decide) (hT _ kP33) (fun _ h9 => h9) rfl dP_taster_17 ?_
    refine x_new (ci := 0) (fs := [.null, .null, .int (nI 0), .int (nI 0)]) (C := RT) (T := FT) (N := 4) hx hb hT inT tyT tyT_ok hown (hT _ kP9) (hT _ kxT) (hT _ knT) hK hP hD hS hA rfl (fun j hj => by rcases (show j = 0 ∨ j = 1 ∨ j = 2 ∨ j = 3 by omega) with rfl | rfl | rfl | rfl <;> rfl) (Nat.le_of_ble_eq_true rfl) (Nat.le_of_ble_eq_true rfl) hz dP_taster_20 (fun H hP hD hS hz => ?_)
    have hP : va_P D vwCl [(a, .inr (2, [.long sd, .ref (a + 1), .ref (a + 2), .int (nI nT), .int (nI nS), .ref (a + 3), .ref (a + 4)])), ((a + 1), .inl (κ 3, 26, .inr (.inr (.inr (.inr fT))))), (s.heap.size, .inr (0, [.null, .null, .int (nI 0), .int (nI 0)]))] H := hP
    have hD : va_D A [(a, .inr (2, [.long sd, .ref (a + 1), .ref (a + 2), .int (nI nT), .int (nI nS), .ref (a + 3), .ref (a + 4)])), ((a + 1), .inl (κ 3, 26, .inr (.inr (.inr (.inr fT))))), (s.heap.size, .inr (0, [.null, .null, .int (nI 0), .int (nI 0)]))] := hD
    refine lv_dup hx hb dP_taster_23 rfl ?_
    have hFc := va_free (wc := [(s.heap.size, .inr (0, [.null, .null, .int (nI 0), .int (nI 0)]))]) hD hS hA [2] rfl
    have hPc := hP.sub (ws' := [(s.heap.size, .inr (0, [.null, .null, .int (nI 0), .int (nI 0)]))]) [2] rfl
    have hDc := (hD.sub (ws' := [(s.heap.size, .inr (0, [.null, .null, .int (nI 0), .int (nI 0)]))]) [2] (by decide) rfl).weaken (fun _ _ _ h => hAb _ h)
    have hbc : base ≤ H.size := Nat.le_trans hbs hS.1
    refine x_callW (va_runIN (As := []) (rest := [.ref s.heap.size, .int (nI nT), .ref (a + 1)]) ⟨hx, hb, hml, hown, hT⟩ (c_T_init l D κ base H (q := s.heap.size) hz hPc hDc hbc) ⟨va_cnB 0 hT (TT_code kcT_init) rfl rfl rfl (kN37 hE.2.1) (hT _ knT) (by decide +kernel) ⟨Nat.le_of_ble_eq_true rfl, Nat.le_of_ble_eq_true rfl⟩, rfl, hT _ kiT_init⟩ (pcS hE hS hAb) rfl rfl hl.1 rfl (lv_room (Nat.le_of_ble_eq_true rfl)) dP_taster_24 ⟨Nat.le_of_ble_eq_true rfl, Nat.le_of_ble_eq_true rfl⟩) hS (fun q h => hFc q h) (fun v H1 h => Pst.fr hFc h.1) (fun v H locs hpost hS => ?_)
    obtain ⟨⟨rfl, hP1, hD1, hz1, hk1⟩, hz⟩ := hpost
    obtain ⟨hP, hD⟩ := va_join (wr := [(a, .inr (2, [.long sd, .ref (a + 1), .ref (a + 2), .int (nI nT), .int (nI nS), .ref (a + 3), .ref (a + 4)])), ((a + 1), .inl (κ 3, 26, .inr (.inr (.inr (.inr fT)))))]) (w1 := [(s.heap.size, .inr (0, [.ref (s.heap.size + 1), .ref (s.heap.size + 2), .int (nI 0), .int (nI 0)])), ((s.heap.size + 1), .inl (κ 1, 16, .inl (fun _ => nI 0))), ((s.heap.size + 2), .inl (κ 1, 16, .inl (fun _ => nI 0)))]) hP hD [2] [0, 1] rfl rfl (by decide) (by decide) hk1 hFc hP1 hD1
    have hP : va_P D vwCl [(a, .inr (2, [.long sd, .ref (a + 1), .ref (a + 2), .int (nI nT), .int (nI nS), .ref (a + 3), .ref (a + 4)])), ((a + 1), .inl (κ 3, 26, .inr (.inr (.inr (.inr fT))))), (s.heap.size, .inr (0, [.ref (s.heap.size + 1), .ref (s.heap.size + 2), .int (nI 0), .int (nI 0)])), ((s.heap.size + 1), .inl (κ 1, 16, .inl (fun _ => nI 0))), ((s.heap.size + 2), .inl (κ 1, 16, .inl (fun _ => nI 0)))] H := hP
    have hD : va_D A [(a, .inr (2, [.long sd, .ref (a + 1), .ref (a + 2), .int (nI nT), .int (nI nS), .ref (a + 3), .ref (a + 4)])), ((a + 1), .inl (κ 3, 26, .inr (.inr (.inr (.inr fT))))), (s.heap.size, .inr (0, [.ref (s.heap.size + 1), .ref (s.heap.size + 2), .int (nI 0), .int (nI 0)])), ((s.heap.size + 1), .inl (κ 1, 16, .inl (fun _ => nI 0))), ((s.heap.size + 2), .inl (κ 1, 16, .inl (fun _ => nI 0)))] := hD
    refine W.eq (g2 := F0 m 27 ls [.ref s.heap.size, .int (nI nT), .ref (a + 1)]) rfl ?_
    refine x_aast hx hb hK hP hD hS 1 3 2 0 (j := nT) rfl rfl rfl rfl (by omega) (by decide) dP_taster_27 (fun H locs hP hD hS hz9 => ?_)
    have hP : va_P D vwCl [(a, .inr (2, [.long sd, .ref (a + 1), .ref (a + 2), .int (nI nT), .int (nI nS), .ref (a + 3), .ref (a + 4)])), ((a + 1), .inl (κ 3, 26, .inr (.inr (.inr (.inr (va_up fT nT (some s.heap.size))))))), (s.heap.size, .inr (0, [.ref (s.heap.size + 1), .ref (s.heap.size + 2), .int (nI 0), .int (nI 0)])), ((s.heap.size + 1), .inl (κ 1, 16, .inl (fun _ => nI 0))), ((s.heap.size + 2), .inl (κ 1, 16, .inl (fun _ => nI 0)))] H := hP
    have hD : va_D A [(a, .inr (2, [.long sd, .ref (a + 1), .ref (a + 2), .int (nI nT), .int (nI nS), .ref (a + 3), .ref (a + 4)])), ((a + 1), .inl (κ 3, 26, .inr (.inr (.inr (.inr (va_up fT nT (some s.heap.size))))))), (s.heap.size, .inr (0, [.ref (s.heap.size + 1), .ref (s.heap.size + 2), .int (nI 0), .int (nI 0)])), ((s.heap.size + 1), .inl (κ 1, 16, .inl (fun _ => nI 0))), ((s.heap.size + 2), .inl (κ 1, 16, .inl (fun _ => nI 0)))] := hD
    refine lv_aload_n hx hb dP_taster_28 rfl (lv_at hl 0 rfl) ?_
    refine lv_dup hx hb dP_taster_29 rfl ?_
    refine va_get (D := D) (ci := 2) (v := .int (nI nT)) (C := RP) (T := FP) (N := 7) hx hb hT inP hown hK hP 0 rfl rfl 3 (by decide) (hT _ kP33) (fun _ h9 => h9) rfl dP_taster_30 ?_
    refine lv_dup_x1 hx hb dP_taster_33 rfl rfl ?_
    refine lv_iconst (v := nI 1) hx hb dP_taster_34 (by decide) ?_
    refine x_iadd (v := nI (nT + 1)) hx hb dP_taster_35 (nI_add _ _) ?_
    refine va_put (D := D) (ci := 2) (v := .int (nI (nT + 1))) (ty := .int) (C := RP) (T := FP) (N := 7) hx hb hT inP tyP tyP_ok nmP hown hK hP hD hS 0 rfl rfl 3 (by decide) (hT _ kP33) (fun _ h9 => h9) rfl (by decide +kernel) rfl rfl (Nat.le_of_ble_eq_true rfl) dP_taster_36 (fun H locs hP hD hS => ?_)
    have hP : va_P D vwCl [(a, .inr (2, [.long sd, .ref (a + 1), .ref (a + 2), .int (nI (nT + 1)), .int (nI nS), .ref (a + 3), .ref (a + 4)])), ((a + 1), .inl (κ 3, 26, .inr (.inr (.inr (.inr (va_up fT nT (some s.heap.size))))))), (s.heap.size, .inr (0, [.ref (s.heap.size + 1), .ref (s.heap.size + 2), .int (nI 0), .int (nI 0)])), ((s.heap.size + 1), .inl (κ 1, 16, .inl (fun _ => nI 0))), ((s.heap.size + 2), .inl (κ 1, 16, .inl (fun _ => nI 0)))] H := hP
    have hD : va_D A [(a, .inr (2, [.long sd, .ref (a + 1), .ref (a + 2), .int (nI (nT + 1)), .int (nI nS), .ref (a + 3), .ref (a + 4)])), ((a + 1), .inl (κ 3, 26, .inr (.inr (.inr (.inr (va_up fT nT (some s.heap.size))))))), (s.heap.size, .inr (0, [.ref (s.heap.size + 1), .ref (s.heap.size + 2), .int (nI 0), .int (nI 0)])), ((s.heap.size + 1), .inl (κ 1, 16, .inl (fun _ => nI 0))), ((s.heap.size + 2), .inl (κ 1, 16, .inl (fun _ => nI 0)))] := hD
    refine W.widen (k := 3) (n := 36) (by decide) (by decide) ?_
    exact W.iret (v := nI nT) hx hb hr (fun t9 ht9 hW9 => ⟨some (.int (nI nT)), rfl, by rw [ht9]; exact ⟨fun q => absurd q (by omega), fun _ => ⟨rfl, RC_taster hR0 hnn hAq hS.1 hS.2.1 hfT hP⟩, ⟨hS.1, fun q h1 h2 => hS.2.1 q h1 (fun z => h2 (hAO q z))⟩⟩⟩) (fun q h => hAO _ (hS.2.2 q h)) dP_taster_39
  · refine lv_bipush (v := -2) hx hb dP_taster_9 (by decide) ?_
    refine W.widen (k := 3) (n := 36) (by decide) (by decide) ?_
    exact W.iret (v := -2) hx hb hr (fun t9 ht9 hW9 => ⟨some (.int (-2)), rfl, by rw [ht9]; exact ⟨fun _ => ⟨rfl, hR0⟩, fun q => absurd q (by omega), FrC.rf⟩⟩) (fun q h => absurd h List.not_mem_nil) dP_taster_11
