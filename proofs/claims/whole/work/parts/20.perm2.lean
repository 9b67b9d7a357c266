theorem RC_sw {D : va_G} {κ : Nat → ClassId} {base a : Nat} {sd : Int64} {nT nS : Nat} {bT bS : Nat → Nat} {td fd : Nat → Nat → Nat} {ta tr kd sp ca cr : Nat → Nat} {od aw rk : Nat → Nat → Nat} {H0 H : Heap} {A : Nat → Prop} {S : Nat → Int64} (hR : RC D κ base a sd nT nS bT bS td fd ta tr kd sp ca cr od aw rk H0) {j : Nat} (hj : j < nS) (hAq : ∀ x9, A x9 → (x9 = a ∨ x9 = (a + 4) ∨ x9 = (bS j)) ∨ H0.size ≤ x9)
    (hsz : H0.size ≤ H.size) (hk : ∀ q : Nat, q < H0.size → ¬ A q → H[q]? = H0[q]?) (hP : va_P D vwCl [(a, .inr (2, [.long sd, .ref (a + 1), .ref (a + 2), .int (nI nT), .int (nI nS), .ref (a + 3), .ref (a + 4)])), ((a + 4), .inl (κ 2, 131, .inr (.inl S))), ((bS j), .inr (1, [.int (nI (kd j)), .int (nI (sp j)), .ref ((bS j) + 1), .ref ((bS j) + 2), .ref ((bS j) + 3), .int (nI (ca j)), .int (nI (cr j))]))] H) : RC D κ base a sd nT nS bT bS td fd ta tr kd sp ca cr od aw rk H := by
  obtain ⟨⟨fT, fS, mx, sw, hP0, hfT, hfS⟩, hTas, hTes, ⟨hnT, hnS, hba, hah⟩, hb1, hb2, hs1, hs2, hs3, hs4, hs5⟩ := hR
  have b2 := hs2 j hj
  refine ⟨⟨fT, fS, mx, S, ?_, hfT, hfS⟩, fun i hi => keepW hk (hTas i hi) ?_, fun j' hj' => ?_, ⟨⟨hnT, hnS, hba, by omega⟩, hb1, hb2, fun i hi => ?_, fun j hj => ?_, hs3, hs4, hs5⟩⟩
  · have h1 := hP.sub (ws' := [(a, .inr (2, [.long sd, .ref (a + 1), .ref (a + 2), .int (nI nT), .int (nI nS), .ref (a + 3), .ref (a + 4)]))]) [0] rfl
    have h2 := keepW hk (hP0.sub (ws' := [((a + 1), .inl (κ 3, 26, .inr (.inr (.inr (.inr fT))))), ((a + 2), .inl (κ 4, 40, .inr (.inr (.inr (.inr fS))))), ((a + 3), .inl (κ 0, 120, .inl mx))]) [1, 2, 3] rfl) (by
      simp only [List.map, List.nodup_cons, List.mem_cons, List.not_mem_nil, or_false, not_or, List.nodup_nil, and_true, not_false_eq_true, List.forall_mem_cons, forall_eq_or_imp, forall_eq]
      refine ⟨fun q => ?_, fun q => ?_, fun q => ?_⟩ <;> (have := hAq _ q; omega))
    have h3 := hP.sub (ws' := [((a + 4), .inl (κ 2, 131, .inr (.inl S)))]) [1] rfl
    exact (h1.app h2).app h3
  · simp only [List.map, List.nodup_cons, List.mem_cons, List.not_mem_nil, or_false, not_or, List.nodup_nil, and_true, not_false_eq_true, List.forall_mem_cons, forall_eq_or_imp, forall_eq]
    have b1 := hs1 i hi
    have b3 := hs5 i j hi hj
    refine ⟨fun q => ?_, fun q => ?_, fun q => ?_⟩ <;> (have := hAq _ q; omega)
  · by_cases e : j' = j
    · subst e
      have h3 := hP.sub (ws' := [((bS j'), .inr (1, [.int (nI (kd j')), .int (nI (sp j')), .ref ((bS j') + 1), .ref ((bS j') + 2), .ref ((bS j') + 3), .int (nI (ca j')), .int (nI (cr j'))]))]) [2] rfl
      have h5 := keepW hk ((hTes j' hj').sub (ws' := [(((bS j') + 1), .inl (κ 0, 26, .inl (fun i => nI (od j' i)))), (((bS j') + 2), .inl (κ 1, 26, .inl (fun i => nI (aw j' i)))), (((bS j') + 3), .inl (κ 0, 130, .inl (fun x => nI (rk j' x))))]) [1, 2, 3] rfl) (by
        simp only [List.map, List.nodup_cons, List.mem_cons, List.not_mem_nil, or_false, not_or, List.nodup_nil, and_true, not_false_eq_true, List.forall_mem_cons, forall_eq_or_imp, forall_eq]
        refine ⟨fun q => ?_, fun q => ?_, fun q => ?_⟩ <;> (have := hAq _ q; omega))
      exact h3.app h5
    · refine keepW hk (hTes j' hj') ?_
      simp only [List.map, List.nodup_cons, List.mem_cons, List.not_mem_nil, or_false, not_or, List.nodup_nil, and_true, not_false_eq_true, List.forall_mem_cons, forall_eq_or_imp, forall_eq]
      have c2 := hs2 j' hj'
      have c4 : bS j + 4 ≤ bS j' ∨ bS j' + 4 ≤ bS j := by
        rcases Nat.lt_or_gt_of_ne e with q | q
        · exact Or.inr (hs4 j' j q hj)
        · exact Or.inl (hs4 j j' q hj')
      refine ⟨fun q => ?_, fun q => ?_, fun q => ?_, fun q => ?_⟩ <;> (have := hAq _ q; omega)
  · have := hs1 i hi; omega
  · have := hs2 j hj; omega
set_option maxHeartbeats 400000 in
set_option maxRecDepth 100000 in
theorem c_P_waysAsFarAs (l : Launch) (D : va_G) (κ : Nat → ClassId) (base : Nat) (H0 : Heap) {a nT nS : Nat} {sd : Int64} {Sz : Nat → Int64} (sum m0 n : Nat) (hs0 : sum ≤ 130) (hm : m0 ≤ 26) (hn : n ≤ 5) (hn1 : 1 ≤ n) (hP : va_P D vwCl [(a, .inr (2, [.long sd, .ref (a + 1), .ref (a + 2), .int (nI nT), .int (nI nS), .ref (a + 3), .ref (a + 4)])), ((a + 4), .inl (κ 2, 131, .inr (.inl Sz)))] H0) (hD0 : va_D (fun q => base ≤ q) [(a, .inr (2, [.long sd, .ref (a + 1), .ref (a + 2), .int (nI nT), .int (nI nS), .ref (a + 3), .ref (a + 4)])), ((a + 4), .inl (κ 2, 131, .inr (.inl Sz)))]) (hbs : base ≤ H0.size)  : Met l yP_waysAsFarAs wP_waysAsFarAs ({ frames := 1, cells := 0, slots := 0, locals := 27 }) (Pq D κ base [.ref a, .int (nI sum), .int (nI m0), .int (nI n)] H0) (q_W (fun v H => ∃ S : Nat → Int64, Pst D (va_A [(a, .inr (2, [.long sd, .ref (a + 1), .ref (a + 2), .int (nI nT), .int (nI nS), .ref (a + 3), .ref (a + 4)])), ((a + 4), .inl (κ 2, 131, .inr (.inl Sz)))] H0.size) H0 (some (.long (lN (wfC sum m0 n)))) [(a, .inr (2, [.long sd, .ref (a + 1), .ref (a + 2), .int (nI nT), .int (nI nS), .ref (a + 3), .ref (a + 4)])), ((a + 4), .inl (κ 2, 131, .inr (.inl S)))] v H)) 0 0 (va_A [(a, .inr (2, [.long sd, .ref (a + 1), .ref (a + 2), .int (nI nT), .int (nI nS), .ref (a + 3), .ref (a + 4)])), ((a + 4), .inl (κ 2, 131, .inr (.inl Sz)))] H0.size) := by
  refine Met.ofW (cc := bP_waysAsFarAs) (maxL := 9) (ret := (some FieldType.long)) (by decide) rfl ?_
  intro p e s m args below meth c s₁ B hml hv
  obtain ⟨rfl, hH, hE⟩ := hv
  subst hH
  have hx := B.exec
  have hb := B.bytes
  have hr := B.returns
  have hT : ∀ w ∈ TT, w.before _ s = true := fun w h => atoms_spec (ws := wP_waysAsFarAs) B.pre w (List.mem_cons_of_mem _ h)
  have hown : s.vm.findClass "TasterPanels" = some m.cls := findClass_of_methodNamed B.named
  have hlocks := B.notSynchronized
  have hK := hE.1
  have hD := hD0.self (sz := s.heap.size)
  have hAb : ∀ x9, va_A [(a, .inr (2, [.long sd, .ref (a + 1), .ref (a + 2), .int (nI nT), .int (nI nS), .ref (a + 3), .ref (a + 4)])), ((a + 4), .inl (κ 2, 131, .inr (.inl Sz)))] s.heap.size x9 → base ≤ x9 := fun x9 h => by rcases h with ⟨k, e, h⟩ | h; exact hD0.2 k _ h; exact Nat.le_trans hbs h
  generalize hAe : va_A [(a, .inr (2, [.long sd, .ref (a + 1), .ref (a + 2), .int (nI nT), .int (nI nS), .ref (a + 3), .ref (a + 4)])), ((a + 4), .inl (κ 2, 131, .inr (.inl Sz)))] s.heap.size = A at hD hAb ⊢
  have hA : ∀ x9, s.heap.size ≤ x9 → A x9 := fun x9 h => by rw [← hAe]; exact Or.inr h
  have hS : va_S A s.heap s.heap [] := va_S.rf
  have hl := lv_entry ([.ref a, .int (nI sum), .int (nI m0), .int (nI n)]) (n := 9) (Nat.le_of_ble_eq_true rfl)
  rw [lg_entry_eq]
  generalize (lg_sl ([.ref a, .int (nI sum), .int (nI m0), .int (nI n)]) ++ List.replicate (9 - (lg_sl ([.ref a, .int (nI sum), .int (nI m0), .int (nI n)])).length) Slot.unset).toArray = ls at hl ⊢
  have hl : lv_has ls 9 [(0, .ref a), (1, .int (nI sum)), (2, .int (nI m0)), (3, .int (nI n))] := hl
  have hb9 : m0 * n ≤ 130 := by have := Nat.mul_le_mul hm hn; omega
  have hb8 : m0 * (n + 1) ≤ 156 := by have := Nat.mul_le_mul hm (show n + 1 ≤ 6 by omega); omega
  have hb7 : m0 ≤ m0 * n := Nat.le_mul_of_pos_right _ hn1
  refine lv_aload_n hx hb dP_waysAsFarAs_0 rfl (lv_at hl 0 rfl) ?_
  refine lv_iload_n hx hb dP_waysAsFarAs_1 rfl (lv_at hl 2 rfl) ?_
  refine lv_iload_n hx hb dP_waysAsFarAs_2 rfl (lv_at hl 3 rfl) ?_
  have hFc := va_free (wc := [(a, .inr (2, [.long sd, .ref (a + 1), .ref (a + 2), .int (nI nT), .int (nI nS), .ref (a + 3), .ref (a + 4)])), ((a + 4), .inl (κ 2, 131, .inr (.inl Sz)))]) hD hS hA [0, 1] rfl
  have hPc := hP.sub (ws' := [(a, .inr (2, [.long sd, .ref (a + 1), .ref (a + 2), .int (nI nT), .int (nI nS), .ref (a + 3), .ref (a + 4)])), ((a + 4), .inl (κ 2, 131, .inr (.inl Sz)))]) [0, 1] rfl
  have hDc := (hD.sub (ws' := [(a, .inr (2, [.long sd, .ref (a + 1), .ref (a + 2), .int (nI nT), .int (nI nS), .ref (a + 3), .ref (a + 4)])), ((a + 4), .inl (κ 2, 131, .inr (.inl Sz)))]) [0, 1] (by decide) rfl).weaken (fun _ _ _ h => hAb _ h)
  have hbc : base ≤ s.heap.size := Nat.le_trans hbs hS.1
  refine x_callW (va_runV (As := [.int (nI m0), .int (nI n)]) (rest := []) ⟨hx, hb, hml, hown, hT⟩ (c_P_countSums l D κ base s.heap m0 n hm hn hPc hDc hbc) (cwV 2 hT (TT_V kP200 kiP_countSums ksP_countSums knP kcP_countSums) rfl rfl rfl (by decide +kernel) ⟨Nat.le_of_ble_eq_true rfl, Nat.le_of_ble_eq_true rfl⟩) (pcV hE hS hAb (va_recv hK hP (ci := 2) (q0 := 0) rfl rfl)) rfl rfl hl.1 rfl (lv_room (Nat.le_of_ble_eq_true rfl)) dP_waysAsFarAs_3 ⟨Nat.le_of_ble_eq_true rfl, Nat.le_of_ble_eq_true rfl⟩) hS (fun q h => hFc q h) (fun v H1 h => by obtain ⟨S9, h9, -⟩ := h; exact Pst.fr hFc h9) (fun v H locs hpost hS => ?_)
  obtain ⟨S2, ⟨rfl, hP1, hD1, hz1, hk1⟩, hS2⟩ := hpost
  obtain ⟨hP, hD⟩ := va_join (wr := []) (w1 := [(a, .inr (2, [.long sd, .ref (a + 1), .ref (a + 2), .int (nI nT), .int (nI nS), .ref (a + 3), .ref (a + 4)])), ((a + 4), .inl (κ 2, 131, .inr (.inl S2)))]) hP hD [0, 1] [] rfl rfl (by decide) (by decide) hk1 hFc hP1 hD1
  have hP : va_P D vwCl [(a, .inr (2, [.long sd, .ref (a + 1), .ref (a + 2), .int (nI nT), .int (nI nS), .ref (a + 3), .ref (a + 4)])), ((a + 4), .inl (κ 2, 131, .inr (.inl S2)))] H := hP
  have hD : va_D A [(a, .inr (2, [.long sd, .ref (a + 1), .ref (a + 2), .int (nI nT), .int (nI nS), .ref (a + 3), .ref (a + 4)])), ((a + 4), .inl (κ 2, 131, .inr (.inl S2)))] := hD
  refine W.eq (g2 := F0 m 6 ls []) rfl ?_
  have hfar : adist (2 * sum) (m0 * (n + 1)) ≤ 260 := by unfold adist; split <;> omega
  have loop : ∀ (fu : Nat) (k : Nat), (k ≤ m0 * n + 1 - m0) → m0 * n + 1 - m0 - k < fu → ∀ ls : Array Slot, lv_has ls 9 [(0, .ref a), (2, .int (nI m0)), (3, .int (nI n)), (4, .int (nI (m0 * (n + 1)))), (5, .int (nI (adist (2 * sum) (m0 * (n + 1))))), (6, .long (lN (wfA (cG n m0) (m0 * (n + 1)) (adist (2 * sum) (m0 * (n + 1))) m0 k))), (8, .int (nI (m0 + k)))] → W p l e (headSpec wP_waysAsFarAs ({ frames := 1, cells := 0, slots := 0, locals := 27 })).room s m ([.ref a, .int (nI sum), .int (nI m0), .int (nI n)] : List Value).toArray below meth c H locs (0 + 0) (0 + 0) (MQ below (q_W (fun v H => ∃ S : Nat → Int64, Pst D A s.heap (some (.long (lN (wfC sum m0 n)))) [(a, .inr (2, [.long sd, .ref (a + 1), .ref (a + 2), .int (nI nT), .int (nI nS), .ref (a + 3), .ref (a + 4)])), ((a + 4), .inl (κ 2, 131, .inr (.inl S)))] v H)) ([.ref a, .int (nI sum), .int (nI m0), .int (nI n)] : List Value).toArray s 0 0 A) (F0 m 30 ls []) := by
    intro fu
    induction fu with
    | zero =>
      intro k hk hmu
      exact absurd hmu (Nat.not_lt_zero _)
    | succ fu ih =>
      intro k hk hmu ls hl
      refine lv_iload hx hb dP_waysAsFarAs_30 (lv_at hl 6 rfl) ?_
      refine lv_iload_n hx hb dP_waysAsFarAs_32 rfl (lv_at hl 1 rfl) ?_
      refine lv_iload_n hx hb dP_waysAsFarAs_33 rfl (lv_at hl 2 rfl) ?_
      refine x_imul (v := nI (m0 * n)) hx hb dP_waysAsFarAs_34 (pk_mul _ _) ?_
      refine x_cgt (a := m0 + k) (b := m0 * n) (tgt := 71) hx hb dP_waysAsFarAs_35 (by decide) (by omega) (by omega) (fun g1 => ?_) (fun g1 => ?_)
      · refine lv_lload hx hb dP_waysAsFarAs_71 (lv_at hl 5 rfl) ?_
        refine x_topl (y := lN (wfC sum m0 n)) (by rw [wfC, show k = m0 * n + 1 - m0 by omega]) ?_
        exact W.lret (v := lN (wfC sum m0 n)) hx hb hr (fun t9 ht9 hW9 => ⟨some (.long (lN (wfC sum m0 n))), rfl, by rw [ht9]; exact ⟨S2, rfl, hP, hD, hS.1, hS.2.1⟩⟩) hS.2.2 dP_waysAsFarAs_73
      · refine lv_iconst (v := nI 2) hx hb dP_waysAsFarAs_38 (by decide) ?_
        refine lv_iload hx hb dP_waysAsFarAs_39 (lv_at hl 6 rfl) ?_
        refine x_imul (v := nI (2 * (m0 + k))) hx hb dP_waysAsFarAs_41 (pk_mul _ _) ?_
        refine lv_iload hx hb dP_waysAsFarAs_42 (lv_at hl 3 rfl) ?_
        refine x_isub (v := (nI (2 * (m0 + k))) - (nI (m0 * (n + 1)))) hx hb dP_waysAsFarAs_44 (rfl) ?_
        refine va_mabs hx hb (hml.trans hl.1.symm) hown (hT _ kP203) (hT _ kt_abs) (hT _ kn_math) (hT _ kc_abs') (Nat.le_of_ble_eq_true rfl) (Nat.le_of_ble_eq_true rfl) (Nat.le_of_ble_eq_true rfl) (Nat.le_of_ble_eq_true rfl) dP_waysAsFarAs_45 ?_
        refine x_topi (y := nI (adist (2 * (m0 + k)) (m0 * (n + 1)))) (absd (by omega) (by omega)) ?_
        have hd9 : adist (2 * (m0 + k)) (m0 * (n + 1)) ≤ 300 := by unfold adist; split <;> omega
        refine lv_iload hx hb dP_waysAsFarAs_48 (lv_at hl 4 rfl) ?_
        refine x_clt (a := adist (2 * (m0 + k)) (m0 * (n + 1))) (b := adist (2 * sum) (m0 * (n + 1))) (tgt := 65) hx hb dP_waysAsFarAs_50 (by decide) (by omega) (by omega) (fun g2 => ?_) (fun g2 => ?_)
        · have e9 : wfA (cG n m0) (m0 * (n + 1)) (adist (2 * sum) (m0 * (n + 1))) m0 (k + 1) = wfA (cG n m0) (m0 * (n + 1)) (adist (2 * sum) (m0 * (n + 1))) m0 k := by rw [wfA, if_neg (by omega), Nat.add_zero]
          rw [← e9] at hl
          refine lv_iinc (v := nI (m0 + k + 1)) (lv' := [(8, .int (nI (m0 + k + 1))), (0, .ref a), (2, .int (nI m0)), (3, .int (nI n)), (4, .int (nI (m0 * (n + 1)))), (5, .int (nI (adist (2 * sum) (m0 * (n + 1))))), (6, .long (lN (wfA (cG n m0) (m0 * (n + 1)) (adist (2 * sum) (m0 * (n + 1))) m0 (k + 1))))]) hx hb dP_waysAsFarAs_65 hl (k := 6) rfl (nI_add _ _) (by decide) rfl (fun ls hl => ?_)
          refine lv_goto (tgt := 30) hx hb dP_waysAsFarAs_68 (by decide) ?_
          exact ih (k + 1) (by omega) (by omega) ls (lv_sub hl [1, 2, 3, 4, 5, 6, 0] rfl)
        · refine lv_lload hx hb dP_waysAsFarAs_53 (lv_at hl 5 rfl) ?_
          refine lv_aload_n hx hb dP_waysAsFarAs_55 rfl (lv_at hl 0 rfl) ?_
          refine va_get (D := D) (ci := 2) (v := .ref (a + 4)) (C := RP) (T := FP) (N := 7) hx hb hT inP hown hK hP 0 rfl rfl 6 (by decide) (hT _ kP25) (fun _ h9 => h9) rfl dP_waysAsFarAs_56 ?_
          refine lv_iload hx hb dP_waysAsFarAs_59 (lv_at hl 6 rfl) ?_
          refine x_lald hx hb hK hP 1 2 (j := m0 + k) (v := S2 (m0 + k)) rfl rfl (by omega) (by decide) (rfl) dP_waysAsFarAs_61 ?_
          refine x_ladd (v := (lN (wfA (cG n m0) (m0 * (n + 1)) (adist (2 * sum) (m0 * (n + 1))) m0 k)) + (S2 (m0 + k))) hx hb dP_waysAsFarAs_62 (rfl) ?_
          refine x_topl (y := lN (wfA (cG n m0) (m0 * (n + 1)) (adist (2 * sum) (m0 * (n + 1))) m0 (k + 1))) (by rw [hS2 _ (by omega), lN_add, wfA, if_pos (by omega)]) ?_
          refine lv_lstore (lv' := [(6, .long (lN (wfA (cG n m0) (m0 * (n + 1)) (adist (2 * sum) (m0 * (n + 1))) m0 (k + 1)))), (0, .ref a), (2, .int (nI m0)), (3, .int (nI n)), (4, .int (nI (m0 * (n + 1)))), (5, .int (nI (adist (2 * sum) (m0 * (n + 1))))), (8, .int (nI (m0 + k)))]) hx hb dP_waysAsFarAs_63 hl (by decide) rfl (fun ls hl => ?_)
          refine lv_iinc (v := nI (m0 + k + 1)) (lv' := [(8, .int (nI (m0 + k + 1))), (6, .long (lN (wfA (cG n m0) (m0 * (n + 1)) (adist (2 * sum) (m0 * (n + 1))) m0 (k + 1)))), (0, .ref a), (2, .int (nI m0)), (3, .int (nI n)), (4, .int (nI (m0 * (n + 1)))), (5, .int (nI (adist (2 * sum) (m0 * (n + 1)))))]) hx hb dP_waysAsFarAs_65 hl (k := 6) rfl (nI_add _ _) (by decide) rfl (fun ls hl => ?_)
          refine lv_goto (tgt := 30) hx hb dP_waysAsFarAs_68 (by decide) ?_
          exact ih (k + 1) (by omega) (by omega) ls (lv_sub hl [2, 3, 4, 5, 6, 1, 0] rfl)
  refine lv_iload_n hx hb dP_waysAsFarAs_6 rfl (lv_at hl 2 rfl) ?_
  refine lv_iload_n hx hb dP_waysAsFarAs_7 rfl (lv_at hl 3 rfl) ?_
  refine lv_iconst (v := nI 1) hx hb dP_waysAsFarAs_8 (by decide) ?_
  refine x_iadd (v := nI (n + 1)) hx hb dP_waysAsFarAs_9 (nI_add _ _) ?_
  refine x_imul (v := nI (m0 * (n + 1))) hx hb dP_waysAsFarAs_10 (pk_mul _ _) ?_
  refine lv_istore (lv' := [(4, .int (nI (m0 * (n + 1)))), (0, .ref a), (1, .int (nI sum)), (2, .int (nI m0)), (3, .int (nI n))]) hx hb dP_waysAsFarAs_11 hl (by decide) rfl (fun ls hl => ?_)
  refine lv_iconst (v := nI 2) hx hb dP_waysAsFarAs_13 (by decide) ?_
  refine lv_iload_n hx hb dP_waysAsFarAs_14 rfl (lv_at hl 2 rfl) ?_
  refine x_imul (v := nI (2 * sum)) hx hb dP_waysAsFarAs_15 (pk_mul _ _) ?_
  refine lv_iload hx hb dP_waysAsFarAs_16 (lv_at hl 0 rfl) ?_
  refine x_isub (v := (nI (2 * sum)) - (nI (m0 * (n + 1)))) hx hb dP_waysAsFarAs_18 (rfl) ?_
  refine va_mabs hx hb (hml.trans hl.1.symm) hown (hT _ kP203) (hT _ kt_abs) (hT _ kn_math) (hT _ kc_abs') (Nat.le_of_ble_eq_true rfl) (Nat.le_of_ble_eq_true rfl) (Nat.le_of_ble_eq_true rfl) (Nat.le_of_ble_eq_true rfl) dP_waysAsFarAs_19 ?_
  refine x_topi (y := nI (adist (2 * sum) (m0 * (n + 1)))) (absd (by omega) (by omega)) ?_
  refine lv_istore (lv' := [(5, .int (nI (adist (2 * sum) (m0 * (n + 1))))), (4, .int (nI (m0 * (n + 1)))), (0, .ref a), (1, .int (nI sum)), (2, .int (nI m0)), (3, .int (nI n))]) hx hb dP_waysAsFarAs_22 hl (by decide) rfl (fun ls hl => ?_)
  refine lv_lconst (v := lN 0) hx hb dP_waysAsFarAs_24 (by decide) ?_
  refine lv_lstore (lv' := [(6, .long (lN 0)), (5, .int (nI (adist (2 * sum) (m0 * (n + 1))))), (4, .int (nI (m0 * (n + 1)))), (0, .ref a), (1, .int (nI sum)), (2, .int (nI m0)), (3, .int (nI n))]) hx hb dP_waysAsFarAs_25 hl (by decide) rfl (fun ls hl => ?_)
  refine lv_iload_n hx hb dP_waysAsFarAs_27 rfl (lv_at hl 5 rfl) ?_
  refine x_topn (b := m0 + 0) (by omega) ?_
  refine lv_istore (lv' := [(8, .int (nI (m0 + 0))), (6, .long (lN 0)), (5, .int (nI (adist (2 * sum) (m0 * (n + 1))))), (4, .int (nI (m0 * (n + 1)))), (0, .ref a), (1, .int (nI sum)), (2, .int (nI m0)), (3, .int (nI n))]) hx hb dP_waysAsFarAs_28 hl (by decide) rfl (fun ls hl => ?_)
  exact loop (m0 * n + 2) 0 (by omega) (by omega) ls (lv_sub hl [4, 6, 7, 3, 2, 1, 0] rfl)
theorem rkAll_of {f : Nat → Nat} {n i : Nat} (h : ∀ k, k < n → ¬ f (i * 5 + k) = 0) : rkAll f n i = true := decide_eq_true h
set_option maxHeartbeats 400000 in
set_option maxRecDepth 100000 in
theorem c_P_permuted (l : Launch) (D : va_G) (κ : Nat → ClassId) (base : Nat) (H0 : Heap) {a : Nat} {sd : Int64} {nT nS : Nat} {bT bS : Nat → Nat} {td fd : Nat → Nat → Nat} {ta tr kd sp ca cr : Nat → Nat} {od aw rk : Nat → Nat → Nat} (hR : RC D κ base a sd nT nS bT bS td fd ta tr kd sp ca cr od aw rk H0) (x y : Int32) (r : Int64) (p0 : noS nS x → r = -1) (p1 : ∀ j, j < nS → x = nI j → ¬ kd j = 3 → r = -1) (p2 : (¬ y = 0 ∧ ¬ y = 1) → r = -1) (p3 : ∀ j, j < nS → x = nI j → rkC (rk j) (sp j) 26 = 0 → r = -1) (p4 : ∀ j p, j < nS → x = nI j → kd j = 3 → p < 2 → y = nI p → ¬ rkC (rk j) (sp j) 26 = 0 → r = lN (rdp (wfC (rkS (rk j) (sp j) 26) (rkC (rk j) (sp j) 26) (sp j)) (sp j ^ rkC (rk j) (sp j) 26) p)) : Met l yP_permuted wP_permuted ({ frames := 2, cells := 0, slots := 0, locals := 56 }) (Pq D κ base [.ref a, .int x, .int y] H0) (q_W (fun v H => v = some (.long r) ∧ RC D κ base a sd nT nS bT bS td fd ta tr kd sp ca cr od aw rk H ∧ FrC a nT nS bT bS H0 H)) 0 0 (OwnC a nT nS bT bS H0.size) := by
  refine Met.ofW (cc := bP_permuted) (maxL := 8) (ret := (some FieldType.long)) (by decide) rfl ?_
  intro p e s m args below meth c s₁ B hml hv
  obtain ⟨rfl, hH, hE⟩ := hv
  subst hH
  have hx := B.exec
  have hb := B.bytes
  have hr := B.returns
  have hT : ∀ w ∈ TT, w.before _ s = true := fun w h => atoms_spec (ws := wP_permuted) B.pre w (List.mem_cons_of_mem _ h)
  have hown : s.vm.findClass "TasterPanels" = some m.cls := findClass_of_methodNamed B.named
  have hlocks := B.notSynchronized
  have hK := hE.1
  have hS : va_S (fun q => base ≤ q) s.heap s.heap [] := va_S.rf
  have hAb : ∀ q : Nat, (fun q : Nat => base ≤ q) q → base ≤ q := fun _ h => h
  have hl := lv_entry ([.ref a, .int x, .int y]) (n := 8) (Nat.le_of_ble_eq_true rfl)
  rw [lg_entry_eq]
  generalize (lg_sl ([.ref a, .int x, .int y]) ++ List.replicate (8 - (lg_sl ([.ref a, .int x, .int y])).length) Slot.unset).toArray = ls at hl ⊢
  have hl : lv_has ls 8 [(0, .ref a), (1, .int x), (2, .int y)] := hl
  have hR0 := hR
  obtain ⟨⟨fT, fS, mx, sw, hP, hfT, hfS⟩, hTas, hTes, hbd⟩ := hR
  obtain ⟨⟨hnT, hnS, hba, hah⟩, hb1, hb2, hs1, hs2, hs3, hs4, hs5⟩ := hbd
  have hbs : base ≤ s.heap.size := by omega
  have hOb : ∀ x9, OwnC a nT nS bT bS s.heap.size x9 → base ≤ x9 := fun x9 h => OwnC.base hba (by omega) hs1 hs2 h
  have hS : va_S (OwnC a nT nS bT bS s.heap.size) s.heap s.heap [] := va_S.rf
  have hAb := hOb
  rcases whoS nS x with e1 | ⟨j, hj, hj4, rfl⟩
  · refine lv_aload_n hx hb dP_permuted_0 rfl (lv_at hl 0 rfl) ?_
    refine lv_iload_n hx hb dP_permuted_1 rfl (lv_at hl 1 rfl) ?_
    refine x_callP (v := .null) (va_runV (As := [.int x]) (rest := []) ⟨hx, hb, hml, hown, hT⟩ (c_P_rankingAt_none l D κ base s.heap (hP.sub [0, 2] rfl) x (noS_fr e1 hfS)) (cwV 1 hT (TT_V kP114 kiP_rankingAt ksP_rankingAt knP kcP_rankingAt) rfl rfl rfl (by decide +kernel) ⟨Nat.le_of_ble_eq_true rfl, Nat.le_of_ble_eq_true rfl⟩) (pcV hE hS hAb (va_recv hK hP (ci := 2) (q0 := 0) rfl rfl)) rfl rfl hl.1 rfl (lv_room (Nat.le_of_ble_eq_true rfl)) dP_permuted_2 ⟨Nat.le_of_ble_eq_true rfl, Nat.le_of_ble_eq_true rfl⟩) ?_
    refine lv_astore_nN (lv' := [(3, .null), (0, .ref a), (1, .int x), (2, .int y)]) hx hb dP_permuted_5 rfl hl (by decide) rfl (fun ls hl => ?_)
    refine lv_aload_nN hx hb dP_permuted_6 rfl (lv_at hl 0 rfl) ?_
    refine lv_ifnullN (tgt := 17) hx hb dP_permuted_7 (by decide) ?_
    refine lv_ldc2 (v := -1) hx hb hown (hT _ kP100) dP_permuted_17 ?_
    exact W.lret (v := -1) hx hb hr (fun t9 ht9 hW9 => ⟨some (.long (-1)), rfl, by rw [ht9]; exact ⟨by rw [p0 e1], hR0, FrC.rf⟩⟩) (fun q h => absurd h List.not_mem_nil) dP_permuted_20
  · have hP : va_P D vwCl [(a, .inr (2, [.long sd, .ref (a + 1), .ref (a + 2), .int (nI nT), .int (nI nS), .ref (a + 3), .ref (a + 4)])), ((a + 2), .inl (κ 4, 40, .inr (.inr (.inr (.inr fS))))), ((a + 4), .inl (κ 2, 131, .inr (.inl sw))), ((bS j), .inr (1, [.int (nI (kd j)), .int (nI (sp j)), .ref ((bS j) + 1), .ref ((bS j) + 2), .ref ((bS j) + 3), .int (nI (ca j)), .int (nI (cr j))])), (((bS j) + 3), .inl (κ 0, 130, .inl (fun x => nI (rk j x))))] s.heap := va_P.app (hP.sub [0, 2, 4] rfl) ((hTes j hj).sub [0, 3] rfl)
    have b2 := hs2 j hj
    obtain ⟨hok, -, -, -, hrk⟩ := hb1 j hj
    have hsp := hok.lt
    by_cases hk : kd j = 3
    · refine lv_aload_n hx hb dP_permuted_0 rfl (lv_at hl 0 rfl) ?_
      refine lv_iload_n hx hb dP_permuted_1 rfl (lv_at hl 1 rfl) ?_
      refine x_callP (v := .ref (bS j)) (va_runV (As := [.int (nI j)]) (rest := []) ⟨hx, hb, hml, hown, hT⟩ (c_P_rankingAt_some l D κ base s.heap (hP.sub [0, 1, 3] rfl) j hj4 (by rw [hfS j hj4, if_pos hj]) (hb1 j hj).1.lt.1 (.ref (bS j)) (fun q => absurd hk q) (fun _ => rfl)) (cwV 1 hT (TT_V kP114 kiP_rankingAt ksP_rankingAt knP kcP_rankingAt) rfl rfl rfl (by decide +kernel) ⟨Nat.le_of_ble_eq_true rfl, Nat.le_of_ble_eq_true rfl⟩) (pcV hE hS hAb (va_recv hK hP (ci := 2) (q0 := 0) rfl rfl)) rfl rfl hl.1 rfl (lv_room (Nat.le_of_ble_eq_true rfl)) dP_permuted_2 ⟨Nat.le_of_ble_eq_true rfl, Nat.le_of_ble_eq_true rfl⟩) ?_
      refine lv_astore_n (lv' := [(3, .ref (bS j)), (0, .ref a), (1, .int (nI j)), (2, .int y)]) hx hb dP_permuted_5 rfl hl (by decide) rfl (fun ls hl => ?_)
      refine lv_aload_n hx hb dP_permuted_6 rfl (lv_at hl 0 rfl) ?_
      refine lv_ifnull hx hb dP_permuted_7 ?_
      refine lv_iload_n hx hb dP_permuted_10 rfl (lv_at hl 3 rfl) ?_
      by_cases e2 : y = nI 0
      · subst e2
        refine x_callP (v := .int (nI 1)) (va_runS (As := [.int (nI 0)]) (rest := []) ⟨hx, hb, hml, hown, hT⟩ (c_P_isPart l D κ base s.heap (nI 0) 1 (by decide)) (va_cwS 1 hT (TT_S kP96 ktP_isPart knP kcP_isPart) rfl rfl rfl (by decide +kernel) ⟨Nat.le_of_ble_eq_true rfl, Nat.le_of_ble_eq_true rfl⟩) (pcS hE hS hAb) rfl rfl hl.1 rfl (lv_room (Nat.le_of_ble_eq_true rfl)) dP_permuted_11 ⟨Nat.le_of_ble_eq_true rfl, Nat.le_of_ble_eq_true rfl⟩) ?_
        refine x_zne (a := 1) (tgt := 21) hx hb dP_permuted_14 (by decide) (by omega) (fun h3 => ?_) (fun h3 => absurd h3 (by decide))
        have loop : ∀ (fu : Nat) (t : Nat), (t ≤ 26) → 26 - t < fu → ∀ ls : Array Slot, lv_has ls 8 [(0, .ref a), (2, .int (nI 0)), (3, .ref (bS j)), (4, .int (nI (rkC (rk j) (sp j) t))), (5, .int (nI (rkS (rk j) (sp j) t))), (6, .int (nI t))] → W p l e (headSpec wP_permuted ({ frames := 2, cells := 0, slots := 0, locals := 56 })).room s m ([.ref a, .int (nI j), .int (nI 0)] : List Value).toArray below meth c s.heap [] 0 0 (MQ below (q_W (fun v H => v = some (.long r) ∧ RC D κ base a sd nT nS bT bS td fd ta tr kd sp ca cr od aw rk H ∧ FrC a nT nS bT bS s.heap H)) ([.ref a, .int (nI j), .int (nI 0)] : List Value).toArray s 0 0 (OwnC a nT nS bT bS s.heap.size)) (F0 m 30 ls []) := by
          intro fu
          induction fu with
          | zero =>
            intro t ht hmu
            exact absurd hmu (Nat.not_lt_zero _)
          | succ fu ih =>
            intro t ht hmu ls hl
            refine lv_iload hx hb dP_permuted_30 (lv_at hl 5 rfl) ?_
            refine lv_bipush (v := nI 26) hx hb dP_permuted_32 (by decide) ?_
            refine x_cge (a := t) (b := 26) (tgt := 67) hx hb dP_permuted_34 (by decide) (by omega) (by omega) (fun g1 => ?_) (fun g1 => ?_)
            · have e9 : t = 26 := by omega
              subst e9
              refine lv_iload hx hb dP_permuted_67 (lv_at hl 3 rfl) ?_
              have c1 := rkC_le (rk j) (sp j) 26
              have c2 := rkS_le (rk j) (sp j) hrk 26 (by omega)
              refine x_zne (a := rkC (rk j) (sp j) 26) (tgt := 76) hx hb dP_permuted_69 (by decide) (by omega) (fun g9 => ?_) (fun g9 => ?_)
              · have hP : va_P D vwCl [(a, .inr (2, [.long sd, .ref (a + 1), .ref (a + 2), .int (nI nT), .int (nI nS), .ref (a + 3), .ref (a + 4)])), ((a + 4), .inl (κ 2, 131, .inr (.inl sw))), ((bS j), .inr (1, [.int (nI (kd j)), .int (nI (sp j)), .ref ((bS j) + 1), .ref ((bS j) + 2), .ref ((bS j) + 3), .int (nI (ca j)), .int (nI (cr j))]))] s.heap := hP.sub [0, 2, 3] rfl
                have hnd : ([(a, .inr (2, [.long sd, .ref (a + 1), .ref (a + 2), .int (nI nT), .int (nI nS), .ref (a + 3), .ref (a + 4)])), ((a + 4), .inl (κ 2, 131, .inr (.inl sw))), ((bS j), .inr (1, [.int (nI (kd j)), .int (nI (sp j)), .ref ((bS j) + 1), .ref ((bS j) + 2), .ref ((bS j) + 3), .int (nI (ca j)), .int (nI (cr j))]))] : va_W).map Prod.fst |>.Nodup := by simp only [List.map, List.nodup_cons, List.mem_cons, List.not_mem_nil, or_false, not_or, List.nodup_nil, and_true, not_false_eq_true, List.forall_mem_cons, forall_eq_or_imp, forall_eq]; omega
                have hD0 : va_D (fun q => base ≤ q) [(a, .inr (2, [.long sd, .ref (a + 1), .ref (a + 2), .int (nI nT), .int (nI nS), .ref (a + 3), .ref (a + 4)])), ((a + 4), .inl (κ 2, 131, .inr (.inl sw))), ((bS j), .inr (1, [.int (nI (kd j)), .int (nI (sp j)), .ref ((bS j) + 1), .ref ((bS j) + 2), .ref ((bS j) + 3), .int (nI (ca j)), .int (nI (cr j))]))] := D_of hnd (by simp only [List.map, List.nodup_cons, List.mem_cons, List.not_mem_nil, or_false, not_or, List.nodup_nil, and_true, not_false_eq_true, List.forall_mem_cons, forall_eq_or_imp, forall_eq]; omega)
                have hD := hD0.self (sz := s.heap.size)
                have hAb : ∀ x9, va_A [(a, .inr (2, [.long sd, .ref (a + 1), .ref (a + 2), .int (nI nT), .int (nI nS), .ref (a + 3), .ref (a + 4)])), ((a + 4), .inl (κ 2, 131, .inr (.inl sw))), ((bS j), .inr (1, [.int (nI (kd j)), .int (nI (sp j)), .ref ((bS j) + 1), .ref ((bS j) + 2), .ref ((bS j) + 3), .int (nI (ca j)), .int (nI (cr j))]))] s.heap.size x9 → base ≤ x9 := fun x9 h => by rcases h with ⟨k9, e9, h⟩ | h; exact hD0.2 k9 _ h; exact Nat.le_trans hbs h
                have hAq : ∀ x9, va_A [(a, .inr (2, [.long sd, .ref (a + 1), .ref (a + 2), .int (nI nT), .int (nI nS), .ref (a + 3), .ref (a + 4)])), ((a + 4), .inl (κ 2, 131, .inr (.inl sw))), ((bS j), .inr (1, [.int (nI (kd j)), .int (nI (sp j)), .ref ((bS j) + 1), .ref ((bS j) + 2), .ref ((bS j) + 3), .int (nI (ca j)), .int (nI (cr j))]))] s.heap.size x9 → (x9 = a ∨ x9 = (a + 4) ∨ x9 = (bS j)) ∨ s.heap.size ≤ x9 := fun x9 h => by have := A_addr h; simpa only [List.map, List.mem_cons, List.not_mem_nil, or_false] using this
                have hAO : ∀ x9, va_A [(a, .inr (2, [.long sd, .ref (a + 1), .ref (a + 2), .int (nI nT), .int (nI nS), .ref (a + 3), .ref (a + 4)])), ((a + 4), .inl (κ 2, 131, .inr (.inl sw))), ((bS j), .inr (1, [.int (nI (kd j)), .int (nI (sp j)), .ref ((bS j) + 1), .ref ((bS j) + 2), .ref ((bS j) + 3), .int (nI (ca j)), .int (nI (cr j))]))] s.heap.size x9 → OwnC a nT nS bT bS s.heap.size x9 := fun x9 h => by exact ownS hj (by have := hAq x9 h; omega)
                generalize hAe : va_A [(a, .inr (2, [.long sd, .ref (a + 1), .ref (a + 2), .int (nI nT), .int (nI nS), .ref (a + 3), .ref (a + 4)])), ((a + 4), .inl (κ 2, 131, .inr (.inl sw))), ((bS j), .inr (1, [.int (nI (kd j)), .int (nI (sp j)), .ref ((bS j) + 1), .ref ((bS j) + 2), .ref ((bS j) + 3), .int (nI (ca j)), .int (nI (cr j))]))] s.heap.size = A at hD hAb hAq hAO
                have hA : ∀ x9, s.heap.size ≤ x9 → A x9 := fun x9 h => by rw [← hAe]; exact Or.inr h
                have hS : va_S A s.heap s.heap [] := va_S.rf
                refine lv_aload_n hx hb dP_permuted_76 rfl (lv_at hl 0 rfl) ?_
                refine lv_iload hx hb dP_permuted_77 (lv_at hl 4 rfl) ?_
                refine lv_iload hx hb dP_permuted_79 (lv_at hl 3 rfl) ?_
                refine lv_aload_n hx hb dP_permuted_81 rfl (lv_at hl 2 rfl) ?_
                refine va_getN (D := D) (ci := 1) (v := .int (nI (sp j))) (C := RS) (T := FS) (N := 7) hx hb hT inS hown hK hP 2 rfl rfl 1 (by decide) (va_Nw.use rfl (kN74 hE.2.1)) (fun _ h9 => h9) rfl dP_permuted_82 ?_
                have hFc := va_free (wc := [(a, .inr (2, [.long sd, .ref (a + 1), .ref (a + 2), .int (nI nT), .int (nI nS), .ref (a + 3), .ref (a + 4)])), ((a + 4), .inl (κ 2, 131, .inr (.inl sw)))]) hD hS hA [0, 1] rfl
                have hPc := hP.sub (ws' := [(a, .inr (2, [.long sd, .ref (a + 1), .ref (a + 2), .int (nI nT), .int (nI nS), .ref (a + 3), .ref (a + 4)])), ((a + 4), .inl (κ 2, 131, .inr (.inl sw)))]) [0, 1] rfl
                have hDc := (hD.sub (ws' := [(a, .inr (2, [.long sd, .ref (a + 1), .ref (a + 2), .int (nI nT), .int (nI nS), .ref (a + 3), .ref (a + 4)])), ((a + 4), .inl (κ 2, 131, .inr (.inl sw)))]) [0, 1] (by decide) rfl).weaken (fun _ _ _ h => hAb _ h)
                have hbc : base ≤ s.heap.size := Nat.le_trans hbs hS.1
                refine x_callW (va_runV (As := [.int (nI (rkS (rk j) (sp j) 26)), .int (nI (rkC (rk j) (sp j) 26)), .int (nI (sp j))]) (rest := []) ⟨hx, hb, hml, hown, hT⟩ (c_P_waysAsFarAs l D κ base s.heap (rkS (rk j) (sp j) 26) (rkC (rk j) (sp j) 26) (sp j) (by omega) (by omega) hsp.2.2 (by omega) hPc hDc hbc) (cwV 3 hT (TT_V kP131 kiP_waysAsFarAs ksP_waysAsFarAs knP kcP_waysAsFarAs) rfl rfl rfl (by decide +kernel) ⟨Nat.le_of_ble_eq_true rfl, Nat.le_of_ble_eq_true rfl⟩) (pcV hE hS hAb (va_recv hK hP (ci := 2) (q0 := 0) rfl rfl)) rfl rfl hl.1 rfl (lv_room (Nat.le_of_ble_eq_true rfl)) dP_permuted_85 ⟨Nat.le_of_ble_eq_true rfl, Nat.le_of_ble_eq_true rfl⟩) hS (fun q h => hFc q h) (fun v H1 h => by obtain ⟨S9, h9⟩ := h; exact Pst.fr hFc h9) (fun v H locs hpost hS => ?_)
                obtain ⟨S2, rfl, hP1, hD1, hz1, hk1⟩ := hpost
                obtain ⟨hP, hD⟩ := va_join (wr := [((bS j), .inr (1, [.int (nI (kd j)), .int (nI (sp j)), .ref ((bS j) + 1), .ref ((bS j) + 2), .ref ((bS j) + 3), .int (nI (ca j)), .int (nI (cr j))]))]) (w1 := [(a, .inr (2, [.long sd, .ref (a + 1), .ref (a + 2), .int (nI nT), .int (nI nS), .ref (a + 3), .ref (a + 4)])), ((a + 4), .inl (κ 2, 131, .inr (.inl S2)))]) hP hD [0, 1] [2] rfl rfl (by decide) (by decide) hk1 hFc hP1 hD1
                have hP : va_P D vwCl [((bS j), .inr (1, [.int (nI (kd j)), .int (nI (sp j)), .ref ((bS j) + 1), .ref ((bS j) + 2), .ref ((bS j) + 3), .int (nI (ca j)), .int (nI (cr j))])), (a, .inr (2, [.long sd, .ref (a + 1), .ref (a + 2), .int (nI nT), .int (nI nS), .ref (a + 3), .ref (a + 4)])), ((a + 4), .inl (κ 2, 131, .inr (.inl S2)))] H := hP
                have hD : va_D A [((bS j), .inr (1, [.int (nI (kd j)), .int (nI (sp j)), .ref ((bS j) + 1), .ref ((bS j) + 2), .ref ((bS j) + 3), .int (nI (ca j)), .int (nI (cr j))])), (a, .inr (2, [.long sd, .ref (a + 1), .ref (a + 2), .int (nI nT), .int (nI nS), .ref (a + 3), .ref (a + 4)])), ((a + 4), .inl (κ 2, 131, .inr (.inl S2)))] := hD
                refine W.eq (g2 := F0 m 88 ls [.long (lN (wfC (rkS (rk j) (sp j) 26) (rkC (rk j) (sp j) 26) (sp j)))]) rfl ?_
                refine lv_lstore (lv' := [(6, .long (lN (wfC (rkS (rk j) (sp j) 26) (rkC (rk j) (sp j) 26) (sp j)))), (0, .ref a), (2, .int (nI 0)), (3, .ref (bS j)), (4, .int (nI (rkC (rk j) (sp j) 26))), (5, .int (nI (rkS (rk j) (sp j) 26)))]) hx hb dP_permuted_88 hl (by decide) rfl (fun ls hl => ?_)
                refine lv_lload hx hb dP_permuted_90 (lv_at hl 0 rfl) ?_
                refine lv_aload_n hx hb dP_permuted_92 rfl (lv_at hl 3 rfl) ?_
                refine va_getN (D := D) (ci := 1) (v := .int (nI (sp j))) (C := RS) (T := FS) (N := 7) hx hb hT inS hown hK hP 0 rfl rfl 1 (by decide) (va_Nw.use rfl (kN74 hE.2.1)) (fun _ h9 => h9) rfl dP_permuted_93 ?_
                refine lv_iload hx hb dP_permuted_96 (lv_at hl 4 rfl) ?_
                refine x_callP (v := .long (lN (sp j ^ rkC (rk j) (sp j) 26))) (va_runS (As := [.int (nI (sp j)), .int (nI (rkC (rk j) (sp j) 26))]) (rest := [.long (lN (wfC (rkS (rk j) (sp j) 26) (rkC (rk j) (sp j) 26) (sp j)))]) ⟨hx, hb, hml, hown, hT⟩ (c_P_power l D κ base H (sp j) (rkC (rk j) (sp j) 26) (by omega) (by omega)) (va_cwS 2 hT (TT_S kP106 ktP_power knP kcP_power) rfl rfl rfl (by decide +kernel) ⟨Nat.le_of_ble_eq_true rfl, Nat.le_of_ble_eq_true rfl⟩) (pcS hE hS hAb) rfl rfl hl.1 rfl (lv_room (Nat.le_of_ble_eq_true rfl)) dP_permuted_98 ⟨Nat.le_of_ble_eq_true rfl, Nat.le_of_ble_eq_true rfl⟩) ?_
                refine lv_iload_n hx hb dP_permuted_101 rfl (lv_at hl 2 rfl) ?_
                have hp9 := pow5_lt (n := sp j) (m := rkC (rk j) (sp j) 26) hsp.2.2 (by omega)
                have hw9 := wfC_le (rkS (rk j) (sp j) 26) (rkC (rk j) (sp j) 26) (sp j)
                refine x_callP (v := .long (lN (rdp (wfC (rkS (rk j) (sp j) 26) (rkC (rk j) (sp j) 26) (sp j)) (sp j ^ rkC (rk j) (sp j) 26) 0))) (va_runS (As := [.long (lN (wfC (rkS (rk j) (sp j) 26) (rkC (rk j) (sp j) 26) (sp j))), .long (lN (sp j ^ rkC (rk j) (sp j) 26)), .int (nI 0)]) (rest := []) ⟨hx, hb, hml, hown, hT⟩ (c_P_reducedPart l D κ base H (wfC (rkS (rk j) (sp j) 26) (rkC (rk j) (sp j) 26) (sp j)) (sp j ^ rkC (rk j) (sp j) 26) 0 (by omega) hp9 (Nat.pow_pos (by omega)) (by decide)) (va_cwS 3 hT (TT_S kP110 ktP_reducedPart knP kcP_reducedPart) rfl rfl rfl (by decide +kernel) ⟨Nat.le_of_ble_eq_true rfl, Nat.le_of_ble_eq_true rfl⟩) (pcS hE hS hAb) rfl rfl hl.1 rfl (lv_room (Nat.le_of_ble_eq_true rfl)) dP_permuted_102 ⟨Nat.le_of_ble_eq_true rfl, Nat.le_of_ble_eq_true rfl⟩) ?_
                have hP := hP.sub (ws' := [(a, .inr (2, [.long sd, .ref (a + 1), .ref (a + 2), .int (nI nT), .int (nI nS), .ref (a + 3), .ref (a + 4)])), ((a + 4), .inl (κ 2, 131, .inr (.inl S2))), ((bS j), .inr (1, [.int (nI (kd j)), .int (nI (sp j)), .ref ((bS j) + 1), .ref ((bS j) + 2), .ref ((bS j) + 3), .int (nI (ca j)), .int (nI (cr j))]))]) [1, 2, 0] rfl
                have hD := hD.sub (ws' := [(a, .inr (2, [.long sd, .ref (a + 1), .ref (a + 2), .int (nI nT), .int (nI nS), .ref (a + 3), .ref (a + 4)])), ((a + 4), .inl (κ 2, 131, .inr (.inl S2))), ((bS j), .inr (1, [.int (nI (kd j)), .int (nI (sp j)), .ref ((bS j) + 1), .ref ((bS j) + 2), .ref ((bS j) + 3), .int (nI (ca j)), .int (nI (cr j))]))]) [1, 2, 0] (by decide) rfl
                exact W.lret (v := lN (rdp (wfC (rkS (rk j) (sp j) 26) (rkC (rk j) (sp j) 26) (sp j)) (sp j ^ rkC (rk j) (sp j) 26) 0)) hx hb hr (fun t9 ht9 hW9 => ⟨some (.long (lN (rdp (wfC (rkS (rk j) (sp j) 26) (rkC (rk j) (sp j) 26) (sp j)) (sp j ^ rkC (rk j) (sp j) 26) 0))), rfl, by rw [ht9]; exact ⟨by rw [p4 j 0 hj rfl hk (by decide) rfl g9], RC_sw hR0 hj hAq hS.1 hS.2.1 hP, ⟨hS.1, fun q h1 h2 => hS.2.1 q h1 (fun z => h2 (hAO q z))⟩⟩⟩) (fun q h => hAO _ (hS.2.2 q h)) dP_permuted_105
              · refine lv_ldc2 (v := -1) hx hb hown (hT _ kP100) dP_permuted_72 ?_
                exact W.lret (v := -1) hx hb hr (fun t9 ht9 hW9 => ⟨some (.long (-1)), rfl, by rw [ht9]; exact ⟨by rw [p3 j hj rfl g9], hR0, FrC.rf⟩⟩) (fun q h => absurd h List.not_mem_nil) dP_permuted_75
            · refine lv_aload_n hx hb dP_permuted_37 rfl (lv_at hl 2 rfl) ?_
              refine lv_iload hx hb dP_permuted_38 (lv_at hl 5 rfl) ?_
              by_cases hall : rkAll (rk j) (sp j) t = true
              · refine x_callP (v := .int (nI 1)) (va_runS (As := [.ref (bS j), .int (nI t)]) (rest := []) ⟨hx, hb, hml, hown, hT⟩ (c_P_hasRankedAll l D κ base s.heap (hP.sub [3, 4] rfl) hsp.2.2 t (by omega) 1 (fun _ => rfl) (fun h => by obtain ⟨k, h8, h9⟩ := h; exact absurd (nI_inj (by have := hrk (t * 5 + k) (by omega); omega) (by decide) h9) (of_decide_eq_true hall k h8))) (va_cwS 2 hT (TT_S kP127 ktP_hasRankedAll knP kcP_hasRankedAll) rfl rfl rfl (by decide +kernel) ⟨Nat.le_of_ble_eq_true rfl, Nat.le_of_ble_eq_true rfl⟩) (pcS hE hS hAb) rfl rfl hl.1 rfl (lv_room (Nat.le_of_ble_eq_true rfl)) dP_permuted_40 ⟨Nat.le_of_ble_eq_true rfl, Nat.le_of_ble_eq_true rfl⟩) ?_
                refine x_zeq (a := 1) (tgt := 61) hx hb dP_permuted_43 (by decide) (by omega) (fun h4 => absurd h4 (by decide)) (fun h4 => ?_)
                have c8 := rkC_le (rk j) (sp j) t
                have c9 := rkS_le (rk j) (sp j) hrk t (by omega)
                refine lv_iinc (v := nI (rkC (rk j) (sp j) t + 1)) (lv' := [(4, .int (nI (rkC (rk j) (sp j) t + 1))), (0, .ref a), (2, .int (nI 0)), (3, .ref (bS j)), (5, .int (nI (rkS (rk j) (sp j) t))), (6, .int (nI t))]) hx hb dP_permuted_46 hl (k := 3) rfl (nI_add _ _) (by decide) rfl (fun ls hl => ?_)
                refine lv_iload hx hb dP_permuted_49 (lv_at hl 4 rfl) ?_
                refine lv_aload_n hx hb dP_permuted_51 rfl (lv_at hl 3 rfl) ?_
                refine lv_iload hx hb dP_permuted_52 (lv_at hl 5 rfl) ?_
                refine lv_iconst (v := nI 0) hx hb dP_permuted_54 (by decide) ?_
                refine x_callP (v := .int (nI (rk j (t * 5 + 0)))) (va_runS (As := [.ref (bS j), .int (nI t), .int (nI 0)]) (rest := [.int (nI (rkS (rk j) (sp j) t))]) ⟨hx, hb, hml, hown, hT⟩ (c_P_rankOf l D κ base s.heap (hP.sub [3, 4] rfl) t 0 (by omega) (by omega)) (va_cwS 3 hT (TT_S kP117 ktP_rankOf knP kcP_rankOf) rfl rfl rfl (by decide +kernel) ⟨Nat.le_of_ble_eq_true rfl, Nat.le_of_ble_eq_true rfl⟩) (pcS hE hS hAb) rfl rfl hl.1 rfl (lv_room (Nat.le_of_ble_eq_true rfl)) dP_permuted_55 ⟨Nat.le_of_ble_eq_true rfl, Nat.le_of_ble_eq_true rfl⟩) ?_
                refine x_iadd (v := nI ((rkS (rk j) (sp j) t) + (rk j (t * 5 + 0)))) hx hb dP_permuted_58 (nI_add _ _) ?_
                refine x_topn (b := rkS (rk j) (sp j) (t + 1)) (by rw [rkS, if_pos hall]; rfl) ?_
                refine lv_istore (lv' := [(5, .int (nI (rkS (rk j) (sp j) (t + 1)))), (4, .int (nI (rkC (rk j) (sp j) t + 1))), (0, .ref a), (2, .int (nI 0)), (3, .ref (bS j)), (6, .int (nI t))]) hx hb dP_permuted_59 hl (by decide) rfl (fun ls hl => ?_)
                refine lv_iinc (v := nI (t + 1)) (lv' := [(6, .int (nI (t + 1))), (5, .int (nI (rkS (rk j) (sp j) (t + 1)))), (4, .int (nI (rkC (rk j) (sp j) t + 1))), (0, .ref a), (2, .int (nI 0)), (3, .ref (bS j))]) hx hb dP_permuted_61 hl (k := 5) rfl (nI_add _ _) (by decide) rfl (fun ls hl => ?_)
                refine lv_goto (tgt := 30) hx hb dP_permuted_64 (by decide) ?_
                rw [show rkC (rk j) (sp j) t + 1 = rkC (rk j) (sp j) (t + 1) by rw [rkC, if_pos hall]] at hl
                exact ih (t + 1) (by omega) (by omega) ls (lv_sub hl [3, 4, 5, 2, 1, 0] rfl)
              · refine x_callP (v := .int (nI 0)) (va_runS (As := [.ref (bS j), .int (nI t)]) (rest := []) ⟨hx, hb, hml, hown, hT⟩ (c_P_hasRankedAll l D κ base s.heap (hP.sub [3, 4] rfl) hsp.2.2 t (by omega) 0 (fun h => absurd (rkAll_of (fun k hk9 q => h k hk9 (by show nI (rk j (t * 5 + k)) = 0; rw [q]; exact nI_0))) hall) (fun _ => rfl)) (va_cwS 2 hT (TT_S kP127 ktP_hasRankedAll knP kcP_hasRankedAll) rfl rfl rfl (by decide +kernel) ⟨Nat.le_of_ble_eq_true rfl, Nat.le_of_ble_eq_true rfl⟩) (pcS hE hS hAb) rfl rfl hl.1 rfl (lv_room (Nat.le_of_ble_eq_true rfl)) dP_permuted_40 ⟨Nat.le_of_ble_eq_true rfl, Nat.le_of_ble_eq_true rfl⟩) ?_
                refine x_zeq (a := 0) (tgt := 61) hx hb dP_permuted_43 (by decide) (by omega) (fun h5 => ?_) (fun h5 => absurd rfl h5)
                refine lv_iinc (v := nI (t + 1)) (lv' := [(6, .int (nI (t + 1))), (0, .ref a), (2, .int (nI 0)), (3, .ref (bS j)), (4, .int (nI (rkC (rk j) (sp j) t))), (5, .int (nI (rkS (rk j) (sp j) t)))]) hx hb dP_permuted_61 hl (k := 5) rfl (nI_add _ _) (by decide) rfl (fun ls hl => ?_)
                refine lv_goto (tgt := 30) hx hb dP_permuted_64 (by decide) ?_
                rw [show rkC (rk j) (sp j) t = rkC (rk j) (sp j) (t + 1) by rw [rkC, if_neg hall]; rfl, show rkS (rk j) (sp j) t = rkS (rk j) (sp j) (t + 1) by rw [rkS, if_neg hall]; rfl] at hl
                exact ih (t + 1) (by omega) (by omega) ls (lv_sub hl [1, 2, 3, 4, 5, 0] rfl)
        refine lv_iconst (v := nI 0) hx hb dP_permuted_21 (by decide) ?_
        refine lv_istore (lv' := [(4, .int (nI 0)), (3, .ref (bS j)), (0, .ref a), (1, .int (nI j)), (2, .int (nI 0))]) hx hb dP_permuted_22 hl (by decide) rfl (fun ls hl => ?_)
        refine lv_iconst (v := nI 0) hx hb dP_permuted_24 (by decide) ?_
        refine lv_istore (lv' := [(5, .int (nI 0)), (4, .int (nI 0)), (3, .ref (bS j)), (0, .ref a), (1, .int (nI j)), (2, .int (nI 0))]) hx hb dP_permuted_25 hl (by decide) rfl (fun ls hl => ?_)
        refine lv_iconst (v := nI 0) hx hb dP_permuted_27 (by decide) ?_
        refine lv_istore (lv' := [(6, .int (nI 0)), (5, .int (nI 0)), (4, .int (nI 0)), (3, .ref (bS j)), (0, .ref a), (1, .int (nI j)), (2, .int (nI 0))]) hx hb dP_permuted_28 hl (by decide) rfl (fun ls hl => ?_)
        exact loop 27 0 (by omega) (by omega) ls (lv_sub hl [4, 6, 3, 2, 1, 0] rfl)
      · by_cases e3 : y = nI 1
        · subst e3
          refine x_callP (v := .int (nI 1)) (va_runS (As := [.int (nI 1)]) (rest := []) ⟨hx, hb, hml, hown, hT⟩ (c_P_isPart l D κ base s.heap (nI 1) 1 (by decide)) (va_cwS 1 hT (TT_S kP96 ktP_isPart knP kcP_isPart) rfl rfl rfl (by decide +kernel) ⟨Nat.le_of_ble_eq_true rfl, Nat.le_of_ble_eq_true rfl⟩) (pcS hE hS hAb) rfl rfl hl.1 rfl (lv_room (Nat.le_of_ble_eq_true rfl)) dP_permuted_11 ⟨Nat.le_of_ble_eq_true rfl, Nat.le_of_ble_eq_true rfl⟩) ?_
          refine x_zne (a := 1) (tgt := 21) hx hb dP_permuted_14 (by decide) (by omega) (fun h6 => ?_) (fun h6 => absurd h6 (by decide))
          have loop : ∀ (fu : Nat) (t : Nat), (t ≤ 26) → 26 - t < fu → ∀ ls : Array Slot, lv_has ls 8 [(0, .ref a), (2, .int (nI 1)), (3, .ref (bS j)), (4, .int (nI (rkC (rk j) (sp j) t))), (5, .int (nI (rkS (rk j) (sp j) t))), (6, .int (nI t))] → W p l e (headSpec wP_permuted ({ frames := 2, cells := 0, slots := 0, locals := 56 })).room s m ([.ref a, .int (nI j), .int (nI 1)] : List Value).toArray below meth c s.heap [] (0 + 0) (0 + 0) (MQ below (q_W (fun v H => v = some (.long r) ∧ RC D κ base a sd nT nS bT bS td fd ta tr kd sp ca cr od aw rk H ∧ FrC a nT nS bT bS s.heap H)) ([.ref a, .int (nI j), .int (nI 1)] : List Value).toArray s 0 0 (OwnC a nT nS bT bS s.heap.size)) (F0 m 30 ls []) := by
            intro fu
            induction fu with
            | zero =>
              intro t ht hmu
              exact absurd hmu (Nat.not_lt_zero _)
            | succ fu ih =>
              intro t ht hmu ls hl
              refine lv_iload hx hb dP_permuted_30 (lv_at hl 5 rfl) ?_
              refine lv_bipush (v := nI 26) hx hb dP_permuted_32 (by decide) ?_
              refine x_cge (a := t) (b := 26) (tgt := 67) hx hb dP_permuted_34 (by decide) (by omega) (by omega) (fun g1 => ?_) (fun g1 => ?_)
              · have e9 : t = 26 := by omega
                subst e9
                refine lv_iload hx hb dP_permuted_67 (lv_at hl 3 rfl) ?_
                have c1 := rkC_le (rk j) (sp j) 26
                have c2 := rkS_le (rk j) (sp j) hrk 26 (by omega)
                refine x_zne (a := rkC (rk j) (sp j) 26) (tgt := 76) hx hb dP_permuted_69 (by decide) (by omega) (fun g9 => ?_) (fun g9 => ?_)
                · have hP : va_P D vwCl [(a, .inr (2, [.long sd, .ref (a + 1), .ref (a + 2), .int (nI nT), .int (nI nS), .ref (a + 3), .ref (a + 4)])), ((a + 4), .inl (κ 2, 131, .inr (.inl sw))), ((bS j), .inr (1, [.int (nI (kd j)), .int (nI (sp j)), .ref ((bS j) + 1), .ref ((bS j) + 2), .ref ((bS j) + 3), .int (nI (ca j)), .int (nI (cr j))]))] s.heap := hP.sub [0, 2, 3] rfl
                  have hnd : ([(a, .inr (2, [.long sd, .ref (a + 1), .ref (a + 2), .int (nI nT), .int (nI nS), .ref (a + 3), .ref (a + 4)])), ((a + 4), .inl (κ 2, 131, .inr (.inl sw))), ((bS j), .inr (1, [.int (nI (kd j)), .int (nI (sp j)), .ref ((bS j) + 1), .ref ((bS j) + 2), .ref ((bS j) + 3), .int (nI (ca j)), .int (nI (cr j))]))] : va_W).map Prod.fst |>.Nodup := by simp only [List.map, List.nodup_cons, List.mem_cons, List.not_mem_nil, or_false, not_or, List.nodup_nil, and_true, not_false_eq_true, List.forall_mem_cons, forall_eq_or_imp, forall_eq]; omega
                  have hD0 : va_D (fun q => base ≤ q) [(a, .inr (2, [.long sd, .ref (a + 1), .ref (a + 2), .int (nI nT), .int (nI nS), .ref (a + 3), .ref (a + 4)])), ((a + 4), .inl (κ 2, 131, .inr (.inl sw))), ((bS j), .inr (1, [.int (nI (kd j)), .int (nI (sp j)), .ref ((bS j) + 1), .ref ((bS j) + 2), .ref ((bS j) + 3), .int (nI (ca j)), .int (nI (cr j))]))] := D_of hnd (by simp only [List.map, List.nodup_cons, List.mem_cons, List.not_mem_nil, or_false, not_or, List.nodup_nil, and_true, not_false_eq_true, List.forall_mem_cons, forall_eq_or_imp, forall_eq]; omega)
                  have hD := hD0.self (sz := s.heap.size)
                  have hAb : ∀ x9, va_A [(a, .inr (2, [.long sd, .ref (a + 1), .ref (a + 2), .int (nI nT), .int (nI nS), .ref (a + 3), .ref (a + 4)])), ((a + 4), .inl (κ 2, 131, .inr (.inl sw))), ((bS j), .inr (1, [.int (nI (kd j)), .int (nI (sp j)), .ref ((bS j) + 1), .ref ((bS j) + 2), .ref ((bS j) + 3), .int (nI (ca j)), .int (nI (cr j))]))] s.heap.size x9 → base ≤ x9 := fun x9 h => by rcases h with ⟨k9, e9, h⟩ | h; exact hD0.2 k9 _ h; exact Nat.le_trans hbs h
                  have hAq : ∀ x9, va_A [(a, .inr (2, [.long sd, .ref (a + 1), .ref (a + 2), .int (nI nT), .int (nI nS), .ref (a + 3), .ref (a + 4)])), ((a + 4), .inl (κ 2, 131, .inr (.inl sw))), ((bS j), .inr (1, [.int (nI (kd j)), .int (nI (sp j)), .ref ((bS j) + 1), .ref ((bS j) + 2), .ref ((bS j) + 3), .int (nI (ca j)), .int (nI (cr j))]))] s.heap.size x9 → (x9 = a ∨ x9 = (a + 4) ∨ x9 = (bS j)) ∨ s.heap.size ≤ x9 := fun x9 h => by have := A_addr h; simpa only [List.map, List.mem_cons, List.not_mem_nil, or_false] using this
                  have hAO : ∀ x9, va_A [(a, .inr (2, [.long sd, .ref (a + 1), .ref (a + 2), .int (nI nT), .int (nI nS), .ref (a + 3), .ref (a + 4)])), ((a + 4), .inl (κ 2, 131, .inr (.inl sw))), ((bS j), .inr (1, [.int (nI (kd j)), .int (nI (sp j)), .ref ((bS j) + 1), .ref ((bS j) + 2), .ref ((bS j) + 3), .int (nI (ca j)), .int (nI (cr j))]))] s.heap.size x9 → OwnC a nT nS bT bS s.heap.size x9 := fun x9 h => by exact ownS hj (by have := hAq x9 h; omega)
                  generalize hAe : va_A [(a, .inr (2, [.long sd, .ref (a + 1), .ref (a + 2), .int (nI nT), .int (nI nS), .ref (a + 3), .ref (a + 4)])), ((a + 4), .inl (κ 2, 131, .inr (.inl sw))), ((bS j), .inr (1, [.int (nI (kd j)), .int (nI (sp j)), .ref ((bS j) + 1), .ref ((bS j) + 2), .ref ((bS j) + 3), .int (nI (ca j)), .int (nI (cr j))]))] s.heap.size = A at hD hAb hAq hAO
                  have hA : ∀ x9, s.heap.size ≤ x9 → A x9 := fun x9 h => by rw [← hAe]; exact Or.inr h
                  have hS : va_S A s.heap s.heap [] := va_S.rf
                  refine lv_aload_n hx hb dP_permuted_76 rfl (lv_at hl 0 rfl) ?_
                  refine lv_iload hx hb dP_permuted_77 (lv_at hl 4 rfl) ?_
                  refine lv_iload hx hb dP_permuted_79 (lv_at hl 3 rfl) ?_
                  refine lv_aload_n hx hb dP_permuted_81 rfl (lv_at hl 2 rfl) ?_
                  refine va_getN (D := D) (ci := 1) (v := .int (nI (sp j))) (C := RS) (T := FS) (N := 7) hx hb hT inS hown hK hP 2 rfl rfl 1 (by decide) (va_Nw.use rfl (kN74 hE.2.1)) (fun _ h9 => h9) rfl dP_permuted_82 ?_
                  have hFc := va_free (wc := [(a, .inr (2, [.long sd, .ref (a + 1), .ref (a + 2), .int (nI nT), .int (nI nS), .ref (a + 3), .ref (a + 4)])), ((a + 4), .inl (κ 2, 131, .inr (.inl sw)))]) hD hS hA [0, 1] rfl
                  have hPc := hP.sub (ws' := [(a, .inr (2, [.long sd, .ref (a + 1), .ref (a + 2), .int (nI nT), .int (nI nS), .ref (a + 3), .ref (a + 4)])), ((a + 4), .inl (κ 2, 131, .inr (.inl sw)))]) [0, 1] rfl
                  have hDc := (hD.sub (ws' := [(a, .inr (2, [.long sd, .ref (a + 1), .ref (a + 2), .int (nI nT), .int (nI nS), .ref (a + 3), .ref (a + 4)])), ((a + 4), .inl (κ 2, 131, .inr (.inl sw)))]) [0, 1] (by decide) rfl).weaken (fun _ _ _ h => hAb _ h)
                  have hbc : base ≤ s.heap.size := Nat.le_trans hbs hS.1
                  refine x_callW (va_runV (As := [.int (nI (rkS (rk j) (sp j) 26)), .int (nI (rkC (rk j) (sp j) 26)), .int (nI (sp j))]) (rest := []) ⟨hx, hb, hml, hown, hT⟩ (c_P_waysAsFarAs l D κ base s.heap (rkS (rk j) (sp j) 26) (rkC (rk j) (sp j) 26) (sp j) (by omega) (by omega) hsp.2.2 (by omega) hPc hDc hbc) (cwV 3 hT (TT_V kP131 kiP_waysAsFarAs ksP_waysAsFarAs knP kcP_waysAsFarAs) rfl rfl rfl (by decide +kernel) ⟨Nat.le_of_ble_eq_true rfl, Nat.le_of_ble_eq_true rfl⟩) (pcV hE hS hAb (va_recv hK hP (ci := 2) (q0 := 0) rfl rfl)) rfl rfl hl.1 rfl (lv_room (Nat.le_of_ble_eq_true rfl)) dP_permuted_85 ⟨Nat.le_of_ble_eq_true rfl, Nat.le_of_ble_eq_true rfl⟩) hS (fun q h => hFc q h) (fun v H1 h => by obtain ⟨S9, h9⟩ := h; exact Pst.fr hFc h9) (fun v H locs hpost hS => ?_)
                  obtain ⟨S2, rfl, hP1, hD1, hz1, hk1⟩ := hpost
                  obtain ⟨hP, hD⟩ := va_join (wr := [((bS j), .inr (1, [.int (nI (kd j)), .int (nI (sp j)), .ref ((bS j) + 1), .ref ((bS j) + 2), .ref ((bS j) + 3), .int (nI (ca j)), .int (nI (cr j))]))]) (w1 := [(a, .inr (2, [.long sd, .ref (a + 1), .ref (a + 2), .int (nI nT), .int (nI nS), .ref (a + 3), .ref (a + 4)])), ((a + 4), .inl (κ 2, 131, .inr (.inl S2)))]) hP hD [0, 1] [2] rfl rfl (by decide) (by decide) hk1 hFc hP1 hD1
                  have hP : va_P D vwCl [((bS j), .inr (1, [.int (nI (kd j)), .int (nI (sp j)), .ref ((bS j) + 1), .ref ((bS j) + 2), .ref ((bS j) + 3), .int (nI (ca j)), .int (nI (cr j))])), (a, .inr (2, [.long sd, .ref (a + 1), .ref (a + 2), .int (nI nT), .int (nI nS), .ref (a + 3), .ref (a + 4)])), ((a + 4), .inl (κ 2, 131, .inr (.inl S2)))] H := hP
                  have hD : va_D A [((bS j), .inr (1, [.int (nI (kd j)), .int (nI (sp j)), .ref ((bS j) + 1), .ref ((bS j) + 2), .ref ((bS j) + 3), .int (nI (ca j)), .int (nI (cr j))])), (a, .inr (2, [.long sd, .ref (a + 1), .ref (a + 2), .int (nI nT), .int (nI nS), .ref (a + 3), .ref (a + 4)])), ((a + 4), .inl (κ 2, 131, .inr (.inl S2)))] := hD
                  refine W.eq (g2 := F0 m 88 ls [.long (lN (wfC (rkS (rk j) (sp j) 26) (rkC (rk j) (sp j) 26) (sp j)))]) rfl ?_
                  refine lv_lstore (lv' := [(6, .long (lN (wfC (rkS (rk j) (sp j) 26) (rkC (rk j) (sp j) 26) (sp j)))), (0, .ref a), (2, .int (nI 1)), (3, .ref (bS j)), (4, .int (nI (rkC (rk j) (sp j) 26))), (5, .int (nI (rkS (rk j) (sp j) 26)))]) hx hb dP_permuted_88 hl (by decide) rfl (fun ls hl => ?_)
                  refine lv_lload hx hb dP_permuted_90 (lv_at hl 0 rfl) ?_
                  refine lv_aload_n hx hb dP_permuted_92 rfl (lv_at hl 3 rfl) ?_
                  refine va_getN (D := D) (ci := 1) (v := .int (nI (sp j))) (C := RS) (T := FS) (N := 7) hx hb hT inS hown hK hP 0 rfl rfl 1 (by decide) (va_Nw.use rfl (kN74 hE.2.1)) (fun _ h9 => h9) rfl dP_permuted_93 ?_
                  refine lv_iload hx hb dP_permuted_96 (lv_at hl 4 rfl) ?_
                  refine x_callP (v := .long (lN (sp j ^ rkC (rk j) (sp j) 26))) (va_runS (As := [.int (nI (sp j)), .int (nI (rkC (rk j) (sp j) 26))]) (rest := [.long (lN (wfC (rkS (rk j) (sp j) 26) (rkC (rk j) (sp j) 26) (sp j)))]) ⟨hx, hb, hml, hown, hT⟩ (c_P_power l D κ base H (sp j) (rkC (rk j) (sp j) 26) (by omega) (by omega)) (va_cwS 2 hT (TT_S kP106 ktP_power knP kcP_power) rfl rfl rfl (by decide +kernel) ⟨Nat.le_of_ble_eq_true rfl, Nat.le_of_ble_eq_true rfl⟩) (pcS hE hS hAb) rfl rfl hl.1 rfl (lv_room (Nat.le_of_ble_eq_true rfl)) dP_permuted_98 ⟨Nat.le_of_ble_eq_true rfl, Nat.le_of_ble_eq_true rfl⟩) ?_
                  refine lv_iload_n hx hb dP_permuted_101 rfl (lv_at hl 2 rfl) ?_
                  have hp9 := pow5_lt (n := sp j) (m := rkC (rk j) (sp j) 26) hsp.2.2 (by omega)
                  have hw9 := wfC_le (rkS (rk j) (sp j) 26) (rkC (rk j) (sp j) 26) (sp j)
                  refine x_callP (v := .long (lN (rdp (wfC (rkS (rk j) (sp j) 26) (rkC (rk j) (sp j) 26) (sp j)) (sp j ^ rkC (rk j) (sp j) 26) 1))) (va_runS (As := [.long (lN (wfC (rkS (rk j) (sp j) 26) (rkC (rk j) (sp j) 26) (sp j))), .long (lN (sp j ^ rkC (rk j) (sp j) 26)), .int (nI 1)]) (rest := []) ⟨hx, hb, hml, hown, hT⟩ (c_P_reducedPart l D κ base H (wfC (rkS (rk j) (sp j) 26) (rkC (rk j) (sp j) 26) (sp j)) (sp j ^ rkC (rk j) (sp j) 26) 1 (by omega) hp9 (Nat.pow_pos (by omega)) (by decide)) (va_cwS 3 hT (TT_S kP110 ktP_reducedPart knP kcP_reducedPart) rfl rfl rfl (by decide +kernel) ⟨Nat.le_of_ble_eq_true rfl, Nat.le_of_ble_eq_true rfl⟩) (pcS hE hS hAb) rfl rfl hl.1 rfl (lv_room (Nat.le_of_ble_eq_true rfl)) dP_permuted_102 ⟨Nat.le_of_ble_eq_true rfl, Nat.le_of_ble_eq_true rfl⟩) ?_
                  have hP := hP.sub (ws' := [(a, .inr (2, [.long sd, .ref (a + 1), .ref (a + 2), .int (nI nT), .int (nI nS), .ref (a + 3), .ref (a + 4)])), ((a + 4), .inl (κ 2, 131, .inr (.inl S2))), ((bS j), .inr (1, [.int (nI (kd j)), .int (nI (sp j)), .ref ((bS j) + 1), .ref ((bS j) + 2), .ref ((bS j) + 3), .int (nI (ca j)), .int (nI (cr j))]))]) [1, 2, 0] rfl
                  have hD := hD.sub (ws' := [(a, .inr (2, [.long sd, .ref (a + 1), .ref (a + 2), .int (nI nT), .int (nI nS), .ref (a + 3), .ref (a + 4)])), ((a + 4), .inl (κ 2, 131, .inr (.inl S2))), ((bS j), .inr (1, [.int (nI (kd j)), .int (nI (sp j)), .ref ((bS j) + 1), .ref ((bS j) + 2), .ref ((bS j) + 3), .int (nI (ca j)), .int (nI (cr j))]))]) [1, 2, 0] (by decide) rfl
                  exact W.lret (v := lN (rdp (wfC (rkS (rk j) (sp j) 26) (rkC (rk j) (sp j) 26) (sp j)) (sp j ^ rkC (rk j) (sp j) 26) 1)) hx hb hr (fun t9 ht9 hW9 => ⟨some (.long (lN (rdp (wfC (rkS (rk j) (sp j) 26) (rkC (rk j) (sp j) 26) (sp j)) (sp j ^ rkC (rk j) (sp j) 26) 1))), rfl, by rw [ht9]; exact ⟨by rw [p4 j 1 hj rfl hk (by decide) rfl g9], RC_sw hR0 hj hAq hS.1 hS.2.1 hP, ⟨hS.1, fun q h1 h2 => hS.2.1 q h1 (fun z => h2 (hAO q z))⟩⟩⟩) (fun q h => hAO _ (hS.2.2 q h)) dP_permuted_105
                · refine lv_ldc2 (v := -1) hx hb hown (hT _ kP100) dP_permuted_72 ?_
                  exact W.lret (v := -1) hx hb hr (fun t9 ht9 hW9 => ⟨some (.long (-1)), rfl, by rw [ht9]; exact ⟨by rw [p3 j hj rfl g9], hR0, FrC.rf⟩⟩) (fun q h => absurd h List.not_mem_nil) dP_permuted_75
              · refine lv_aload_n hx hb dP_permuted_37 rfl (lv_at hl 2 rfl) ?_
                refine lv_iload hx hb dP_permuted_38 (lv_at hl 5 rfl) ?_
                by_cases hall : rkAll (rk j) (sp j) t = true
                · refine x_callP (v := .int (nI 1)) (va_runS (As := [.ref (bS j), .int (nI t)]) (rest := []) ⟨hx, hb, hml, hown, hT⟩ (c_P_hasRankedAll l D κ base s.heap (hP.sub [3, 4] rfl) hsp.2.2 t (by omega) 1 (fun _ => rfl) (fun h => by obtain ⟨k, h8, h9⟩ := h; exact absurd (nI_inj (by have := hrk (t * 5 + k) (by omega); omega) (by decide) h9) (of_decide_eq_true hall k h8))) (va_cwS 2 hT (TT_S kP127 ktP_hasRankedAll knP kcP_hasRankedAll) rfl rfl rfl (by decide +kernel) ⟨Nat.le_of_ble_eq_true rfl, Nat.le_of_ble_eq_true rfl⟩) (pcS hE hS hAb) rfl rfl hl.1 rfl (lv_room (Nat.le_of_ble_eq_true rfl)) dP_permuted_40 ⟨Nat.le_of_ble_eq_true rfl, Nat.le_of_ble_eq_true rfl⟩) ?_
                  refine x_zeq (a := 1) (tgt := 61) hx hb dP_permuted_43 (by decide) (by omega) (fun h7 => absurd h7 (by decide)) (fun h7 => ?_)
                  have c8 := rkC_le (rk j) (sp j) t
                  have c9 := rkS_le (rk j) (sp j) hrk t (by omega)
                  refine lv_iinc (v := nI (rkC (rk j) (sp j) t + 1)) (lv' := [(4, .int (nI (rkC (rk j) (sp j) t + 1))), (0, .ref a), (2, .int (nI 1)), (3, .ref (bS j)), (5, .int (nI (rkS (rk j) (sp j) t))), (6, .int (nI t))]) hx hb dP_permuted_46 hl (k := 3) rfl (nI_add _ _) (by decide) rfl (fun ls hl => ?_)
                  refine lv_iload hx hb dP_permuted_49 (lv_at hl 4 rfl) ?_
                  refine lv_aload_n hx hb dP_permuted_51 rfl (lv_at hl 3 rfl) ?_
                  refine lv_iload hx hb dP_permuted_52 (lv_at hl 5 rfl) ?_
                  refine lv_iconst (v := nI 0) hx hb dP_permuted_54 (by decide) ?_
                  refine x_callP (v := .int (nI (rk j (t * 5 + 0)))) (va_runS (As := [.ref (bS j), .int (nI t), .int (nI 0)]) (rest := [.int (nI (rkS (rk j) (sp j) t))]) ⟨hx, hb, hml, hown, hT⟩ (c_P_rankOf l D κ base s.heap (hP.sub [3, 4] rfl) t 0 (by omega) (by omega)) (va_cwS 3 hT (TT_S kP117 ktP_rankOf knP kcP_rankOf) rfl rfl rfl (by decide +kernel) ⟨Nat.le_of_ble_eq_true rfl, Nat.le_of_ble_eq_true rfl⟩) (pcS hE hS hAb) rfl rfl hl.1 rfl (lv_room (Nat.le_of_ble_eq_true rfl)) dP_permuted_55 ⟨Nat.le_of_ble_eq_true rfl, Nat.le_of_ble_eq_true rfl⟩) ?_
                  refine x_iadd (v := nI ((rkS (rk j) (sp j) t) + (rk j (t * 5 + 0)))) hx hb dP_permuted_58 (nI_add _ _) ?_
                  refine x_topn (b := rkS (rk j) (sp j) (t + 1)) (by rw [rkS, if_pos hall]; rfl) ?_
                  refine lv_istore (lv' := [(5, .int (nI (rkS (rk j) (sp j) (t + 1)))), (4, .int (nI (rkC (rk j) (sp j) t + 1))), (0, .ref a), (2, .int (nI 1)), (3, .ref (bS j)), (6, .int (nI t))]) hx hb dP_permuted_59 hl (by decide) rfl (fun ls hl => ?_)
                  refine lv_iinc (v := nI (t + 1)) (lv' := [(6, .int (nI (t + 1))), (5, .int (nI (rkS (rk j) (sp j) (t + 1)))), (4, .int (nI (rkC (rk j) (sp j) t + 1))), (0, .ref a), (2, .int (nI 1)), (3, .ref (bS j))]) hx hb dP_permuted_61 hl (k := 5) rfl (nI_add _ _) (by decide) rfl (fun ls hl => ?_)
                  refine lv_goto (tgt := 30) hx hb dP_permuted_64 (by decide) ?_
                  rw [show rkC (rk j) (sp j) t + 1 = rkC (rk j) (sp j) (t + 1) by rw [rkC, if_pos hall]] at hl
                  exact ih (t + 1) (by omega) (by omega) ls (lv_sub hl [3, 4, 5, 2, 1, 0] rfl)
                · refine x_callP (v := .int (nI 0)) (va_runS (As := [.ref (bS j), .int (nI t)]) (rest := []) ⟨hx, hb, hml, hown, hT⟩ (c_P_hasRankedAll l D κ base s.heap (hP.sub [3, 4] rfl) hsp.2.2 t (by omega) 0 (fun h => absurd (rkAll_of (fun k hk9 q => h k hk9 (by show nI (rk j (t * 5 + k)) = 0; rw [q]; exact nI_0))) hall) (fun _ => rfl)) (va_cwS 2 hT (TT_S kP127 ktP_hasRankedAll knP kcP_hasRankedAll) rfl rfl rfl (by decide +kernel) ⟨Nat.le_of_ble_eq_true rfl, Nat.le_of_ble_eq_true rfl⟩) (pcS hE hS hAb) rfl rfl hl.1 rfl (lv_room (Nat.le_of_ble_eq_true rfl)) dP_permuted_40 ⟨Nat.le_of_ble_eq_true rfl, Nat.le_of_ble_eq_true rfl⟩) ?_
                  refine x_zeq (a := 0) (tgt := 61) hx hb dP_permuted_43 (by decide) (by omega) (fun h8 => ?_) (fun h8 => absurd rfl h8)
                  refine lv_iinc (v := nI (t + 1)) (lv' := [(6, .int (nI (t + 1))), (0, .ref a), (2, .int (nI 1)), (3, .ref (bS j)), (4, .int (nI (rkC (rk j) (sp j) t))), (5, .int (nI (rkS (rk j) (sp j) t)))]) hx hb dP_permuted_61 hl (k := 5) rfl (nI_add _ _) (by decide) rfl (fun ls hl => ?_)
                  refine lv_goto (tgt := 30) hx hb dP_permuted_64 (by decide) ?_
                  rw [show rkC (rk j) (sp j) t = rkC (rk j) (sp j) (t + 1) by rw [rkC, if_neg hall]; rfl, show rkS (rk j) (sp j) t = rkS (rk j) (sp j) (t + 1) by rw [rkS, if_neg hall]; rfl] at hl
                  exact ih (t + 1) (by omega) (by omega) ls (lv_sub hl [1, 2, 3, 4, 5, 0] rfl)
          refine lv_iconst (v := nI 0) hx hb dP_permuted_21 (by decide) ?_
          refine lv_istore (lv' := [(4, .int (nI 0)), (3, .ref (bS j)), (0, .ref a), (1, .int (nI j)), (2, .int (nI 1))]) hx hb dP_permuted_22 hl (by decide) rfl (fun ls hl => ?_)
          refine lv_iconst (v := nI 0) hx hb dP_permuted_24 (by decide) ?_
          refine lv_istore (lv' := [(5, .int (nI 0)), (4, .int (nI 0)), (3, .ref (bS j)), (0, .ref a), (1, .int (nI j)), (2, .int (nI 1))]) hx hb dP_permuted_25 hl (by decide) rfl (fun ls hl => ?_)
          refine lv_iconst (v := nI 0) hx hb dP_permuted_27 (by decide) ?_
          refine lv_istore (lv' := [(6, .int (nI 0)), (5, .int (nI 0)), (4, .int (nI 0)), (3, .ref (bS j)), (0, .ref a), (1, .int (nI j)), (2, .int (nI 1))]) hx hb dP_permuted_28 hl (by decide) rfl (fun ls hl => ?_)
          exact loop 27 0 (by omega) (by omega) ls (lv_sub hl [4, 6, 3, 2, 1, 0] rfl)
        · refine x_callP (v := .int (nI 0)) (va_runS (As := [.int y]) (rest := []) ⟨hx, hb, hml, hown, hT⟩ (c_P_isPart l D κ base s.heap y 0 (by rw [if_neg]; intro q; rcases q with q | q; exact e2 q; exact e3 q)) (va_cwS 1 hT (TT_S kP96 ktP_isPart knP kcP_isPart) rfl rfl rfl (by decide +kernel) ⟨Nat.le_of_ble_eq_true rfl, Nat.le_of_ble_eq_true rfl⟩) (pcS hE hS hAb) rfl rfl hl.1 rfl (lv_room (Nat.le_of_ble_eq_true rfl)) dP_permuted_11 ⟨Nat.le_of_ble_eq_true rfl, Nat.le_of_ble_eq_true rfl⟩) ?_
          refine x_zne (a := 0) (tgt := 21) hx hb dP_permuted_14 (by decide) (by omega) (fun h9 => absurd rfl h9) (fun h9 => ?_)
          refine lv_ldc2 (v := -1) hx hb hown (hT _ kP100) dP_permuted_17 ?_
          exact W.lret (v := -1) hx hb hr (fun t9 ht9 hW9 => ⟨some (.long (-1)), rfl, by rw [ht9]; exact ⟨by rw [p2 ⟨e2, e3⟩], hR0, FrC.rf⟩⟩) (fun q h => absurd h List.not_mem_nil) dP_permuted_20
    · refine lv_aload_n hx hb dP_permuted_0 rfl (lv_at hl 0 rfl) ?_
      refine lv_iload_n hx hb dP_permuted_1 rfl (lv_at hl 1 rfl) ?_
      refine x_callP (v := .null) (va_runV (As := [.int (nI j)]) (rest := []) ⟨hx, hb, hml, hown, hT⟩ (c_P_rankingAt_some l D κ base s.heap (hP.sub [0, 1, 3] rfl) j hj4 (by rw [hfS j hj4, if_pos hj]) (hb1 j hj).1.lt.1 (.null) (fun _ => rfl) (fun q => absurd q hk)) (cwV 1 hT (TT_V kP114 kiP_rankingAt ksP_rankingAt knP kcP_rankingAt) rfl rfl rfl (by decide +kernel) ⟨Nat.le_of_ble_eq_true rfl, Nat.le_of_ble_eq_true rfl⟩) (pcV hE hS hAb (va_recv hK hP (ci := 2) (q0 := 0) rfl rfl)) rfl rfl hl.1 rfl (lv_room (Nat.le_of_ble_eq_true rfl)) dP_permuted_2 ⟨Nat.le_of_ble_eq_true rfl, Nat.le_of_ble_eq_true rfl⟩) ?_
      refine lv_astore_nN (lv' := [(3, .null), (0, .ref a), (1, .int (nI j)), (2, .int y)]) hx hb dP_permuted_5 rfl hl (by decide) rfl (fun ls hl => ?_)
      refine lv_aload_nN hx hb dP_permuted_6 rfl (lv_at hl 0 rfl) ?_
      refine lv_ifnullN (tgt := 17) hx hb dP_permuted_7 (by decide) ?_
      refine lv_ldc2 (v := -1) hx hb hown (hT _ kP100) dP_permuted_17 ?_
      exact W.lret (v := -1) hx hb hr (fun t9 ht9 hW9 => ⟨some (.long (-1)), rfl, by rw [ht9]; exact ⟨by rw [p1 j hj rfl hk], hR0, FrC.rf⟩⟩) (fun q h => absurd h List.not_mem_nil) dP_permuted_20
