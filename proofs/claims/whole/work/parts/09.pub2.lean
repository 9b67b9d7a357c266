/-! chance, size, row (where it answers) -/
theorem lpos (u : Int64) : u < lN 1 ∨ ∃ A : Nat, 1 ≤ A ∧ A < 2 ^ 63 ∧ u = lN A := by
  by_cases h : u < lN 1
  · exact Or.inl h
  · obtain ⟨k, hk, e⟩ := pk_lOf (x := u) (fun q => h (Int64.lt_trans q (by decide)))
    subst e
    refine Or.inr ⟨k, ?_, hk, rfl⟩
    rcases Nat.eq_zero_or_pos k with h1 | h1
    · subst h1
      exact absurd (by decide) h
    · exact h1
set_option maxHeartbeats 400000 in
set_option maxRecDepth 100000 in
theorem c_P_chance (l : Launch) (D : va_G) (κ : Nat → ClassId) (base : Nat) (H0 : Heap) {a : Nat} {sd : Int64} {nT nS : Nat} {bT bS : Nat → Nat} {td fd : Nat → Nat → Nat} {ta tr kd sp ca cr : Nat → Nat} {od aw rk : Nat → Nat → Nat} (hR : RC D κ base a sd nT nS bT bS td fd ta tr kd sp ca cr od aw rk H0) (x y : Int32) (r : Int64) (h0 : noS nS x → r = -1) (h1 : ∀ j, j < nS → x = nI j → (kd j = 3 ∨ ca j = 0) → r = -1) (h2 : (¬ y = 0 ∧ ¬ y = 1) → r = -1) (h3 : ∀ j p, j < nS → x = nI j → ¬ kd j = 3 → ¬ ca j = 0 → p < 2 → y = nI p → r = lN (rdp (pw_ways (cr j) (ca j) (sp j)) (sp j ^ ca j) p)) : Met l yP_chance wP_chance ({ frames := 2, cells := 0, slots := 0, locals := 56 }) (Pq D κ base [.ref a, .int x, .int y] H0) (q_P (some (.long r))) 0 0 (fun _ => False) := by
  refine Met.ofW (cc := bP_chance) (maxL := 6) (ret := (some FieldType.long)) (by decide) rfl ?_
  intro p e s m args below meth c s₁ B hml hv
  obtain ⟨rfl, hH, hE⟩ := hv
  subst hH
  have hx := B.exec
  have hb := B.bytes
  have hr := B.returns
  have hT : ∀ w ∈ TT, w.before _ s = true := fun w h => atoms_spec (ws := wP_chance) B.pre w (List.mem_cons_of_mem _ h)
  have hown : s.vm.findClass "TasterPanels" = some m.cls := findClass_of_methodNamed B.named
  have hlocks := B.notSynchronized
  have hK := hE.1
  have hS : va_S (fun q => base ≤ q) s.heap s.heap [] := va_S.rf
  have hAb : ∀ q : Nat, (fun q : Nat => base ≤ q) q → base ≤ q := fun _ h => h
  have hl := lv_entry ([.ref a, .int x, .int y]) (n := 6) (Nat.le_of_ble_eq_true rfl)
  rw [lg_entry_eq]
  generalize (lg_sl ([.ref a, .int x, .int y]) ++ List.replicate (6 - (lg_sl ([.ref a, .int x, .int y])).length) Slot.unset).toArray = ls at hl ⊢
  have hl : lv_has ls 6 [(0, .ref a), (1, .int x), (2, .int y)] := hl
  obtain ⟨⟨fT, fS, mx, sw, hP, hfT, hfS⟩, hTas, hTes, hbd⟩ := hR
  obtain ⟨⟨hnT, hnS, hba, hah⟩, hb1, hb2, hb3⟩ := hbd
  rcases whoS nS x with e1 | ⟨j, hj, hj4, rfl⟩
  · refine lv_aload_n hx hb dP_chance_0 rfl (lv_at hl 0 rfl) ?_
    refine lv_iload_n hx hb dP_chance_1 rfl (lv_at hl 1 rfl) ?_
    refine x_callP (v := .null) (va_runV (As := [.int x]) (rest := []) ⟨hx, hb, hml, hown, hT⟩ (c_P_differenceAt_none l D κ base s.heap (hP.sub [0, 2] rfl) x (noS_fr e1 hfS)) (cwV 1 hT (TT_V kP71 kiP_differenceAt ksP_differenceAt knP kcP_differenceAt) rfl rfl rfl (by decide +kernel) ⟨Nat.le_of_ble_eq_true rfl, Nat.le_of_ble_eq_true rfl⟩) (pcV hE hS hAb (va_recv hK hP (ci := 2) (q0 := 0) rfl rfl)) rfl rfl hl.1 rfl (lv_room (Nat.le_of_ble_eq_true rfl)) dP_chance_2 ⟨Nat.le_of_ble_eq_true rfl, Nat.le_of_ble_eq_true rfl⟩) ?_
    refine lv_astore_nN (lv' := [(3, .null), (0, .ref a), (1, .int x), (2, .int y)]) hx hb dP_chance_5 rfl hl (by decide) rfl (fun ls hl => ?_)
    refine lv_aload_nN hx hb dP_chance_6 rfl (lv_at hl 0 rfl) ?_
    refine lv_ifnullN (tgt := 24) hx hb dP_chance_7 (by decide) ?_
    refine lv_ldc2 (v := -1) hx hb hown (hT _ kP100) dP_chance_24 ?_
    refine x_topl (y := r) ((h0 e1).symm) ?_
    exact W.lret (v := r) hx hb hr (fun t9 ht9 hW9 => ⟨rfl, ht9⟩) (fun q h => absurd h List.not_mem_nil) dP_chance_27
  · have hP : va_P D vwCl [(a, .inr (2, [.long sd, .ref (a + 1), .ref (a + 2), .int (nI nT), .int (nI nS), .ref (a + 3), .ref (a + 4)])), ((a + 2), .inl (κ 4, 40, .inr (.inr (.inr (.inr fS))))), ((bS j), .inr (1, [.int (nI (kd j)), .int (nI (sp j)), .ref ((bS j) + 1), .ref ((bS j) + 2), .ref ((bS j) + 3), .int (nI (ca j)), .int (nI (cr j))]))] s.heap := va_P.app (hP.sub [0, 2] rfl) ((hTes j hj).sub [0] rfl)
    obtain ⟨hok, hca, hcr, -, -⟩ := hb1 j hj
    by_cases hk : kd j = 3
    · refine lv_aload_n hx hb dP_chance_0 rfl (lv_at hl 0 rfl) ?_
      refine lv_iload_n hx hb dP_chance_1 rfl (lv_at hl 1 rfl) ?_
      refine x_callP (v := .null) (va_runV (As := [.int (nI j)]) (rest := []) ⟨hx, hb, hml, hown, hT⟩ (c_P_differenceAt_some l D κ base s.heap (hP.sub [0, 1, 2] rfl) j hj4 (by rw [hfS j hj4, if_pos hj]) (hb1 j hj).1.lt.1 (.null) (fun _ => rfl) (fun q => absurd hk q)) (cwV 1 hT (TT_V kP71 kiP_differenceAt ksP_differenceAt knP kcP_differenceAt) rfl rfl rfl (by decide +kernel) ⟨Nat.le_of_ble_eq_true rfl, Nat.le_of_ble_eq_true rfl⟩) (pcV hE hS hAb (va_recv hK hP (ci := 2) (q0 := 0) rfl rfl)) rfl rfl hl.1 rfl (lv_room (Nat.le_of_ble_eq_true rfl)) dP_chance_2 ⟨Nat.le_of_ble_eq_true rfl, Nat.le_of_ble_eq_true rfl⟩) ?_
      refine lv_astore_nN (lv' := [(3, .null), (0, .ref a), (1, .int (nI j)), (2, .int y)]) hx hb dP_chance_5 rfl hl (by decide) rfl (fun ls hl => ?_)
      refine lv_aload_nN hx hb dP_chance_6 rfl (lv_at hl 0 rfl) ?_
      refine lv_ifnullN (tgt := 24) hx hb dP_chance_7 (by decide) ?_
      refine lv_ldc2 (v := -1) hx hb hown (hT _ kP100) dP_chance_24 ?_
      refine x_topl (y := r) ((h1 j hj rfl (Or.inl hk)).symm) ?_
      exact W.lret (v := r) hx hb hr (fun t9 ht9 hW9 => ⟨rfl, ht9⟩) (fun q h => absurd h List.not_mem_nil) dP_chance_27
    · have h23 := sp23 hok hk
      refine lv_aload_n hx hb dP_chance_0 rfl (lv_at hl 0 rfl) ?_
      refine lv_iload_n hx hb dP_chance_1 rfl (lv_at hl 1 rfl) ?_
      refine x_callP (v := .ref (bS j)) (va_runV (As := [.int (nI j)]) (rest := []) ⟨hx, hb, hml, hown, hT⟩ (c_P_differenceAt_some l D κ base s.heap (hP.sub [0, 1, 2] rfl) j hj4 (by rw [hfS j hj4, if_pos hj]) (hb1 j hj).1.lt.1 (.ref (bS j)) (fun q => absurd q hk) (fun _ => rfl)) (cwV 1 hT (TT_V kP71 kiP_differenceAt ksP_differenceAt knP kcP_differenceAt) rfl rfl rfl (by decide +kernel) ⟨Nat.le_of_ble_eq_true rfl, Nat.le_of_ble_eq_true rfl⟩) (pcV hE hS hAb (va_recv hK hP (ci := 2) (q0 := 0) rfl rfl)) rfl rfl hl.1 rfl (lv_room (Nat.le_of_ble_eq_true rfl)) dP_chance_2 ⟨Nat.le_of_ble_eq_true rfl, Nat.le_of_ble_eq_true rfl⟩) ?_
      refine lv_astore_n (lv' := [(3, .ref (bS j)), (0, .ref a), (1, .int (nI j)), (2, .int y)]) hx hb dP_chance_5 rfl hl (by decide) rfl (fun ls hl => ?_)
      refine lv_aload_n hx hb dP_chance_6 rfl (lv_at hl 0 rfl) ?_
      refine lv_ifnull hx hb dP_chance_7 ?_
      refine lv_aload_n hx hb dP_chance_10 rfl (lv_at hl 0 rfl) ?_
      refine va_getN (D := D) (ci := 1) (v := .int (nI (ca j))) (C := RS) (T := FS) (N := 7) hx hb hT inS hown hK hP 2 rfl rfl 5 (by decide) (va_Nw.use rfl (kN81 hE.2.1)) (fun _ h9 => h9) rfl dP_chance_11 ?_
      refine x_zeq (a := ca j) (tgt := 24) hx hb dP_chance_14 (by decide) (by omega) (fun g1 => ?_) (fun g1 => ?_)
      · refine lv_ldc2 (v := -1) hx hb hown (hT _ kP100) dP_chance_24 ?_
        refine x_topl (y := r) ((h1 j hj rfl (Or.inr g1)).symm) ?_
        exact W.lret (v := r) hx hb hr (fun t9 ht9 hW9 => ⟨rfl, ht9⟩) (fun q h => absurd h List.not_mem_nil) dP_chance_27
      · refine lv_iload_n hx hb dP_chance_17 rfl (lv_at hl 3 rfl) ?_
        by_cases e2 : y = nI 0
        · subst e2
          refine x_callP (v := .int (nI 1)) (va_runS (As := [.int (nI 0)]) (rest := []) ⟨hx, hb, hml, hown, hT⟩ (c_P_isPart l D κ base s.heap (nI 0) 1 (by decide)) (va_cwS 1 hT (TT_S kP96 ktP_isPart knP kcP_isPart) rfl rfl rfl (by decide +kernel) ⟨Nat.le_of_ble_eq_true rfl, Nat.le_of_ble_eq_true rfl⟩) (pcS hE hS hAb) rfl rfl hl.1 rfl (lv_room (Nat.le_of_ble_eq_true rfl)) dP_chance_18 ⟨Nat.le_of_ble_eq_true rfl, Nat.le_of_ble_eq_true rfl⟩) ?_
          refine x_zne (a := 1) (tgt := 28) hx hb dP_chance_21 (by decide) (by omega) (fun h4 => ?_) (fun h4 => absurd h4 (by decide))
          refine lv_aload_n hx hb dP_chance_28 rfl (lv_at hl 0 rfl) ?_
          refine va_getN (D := D) (ci := 1) (v := .int (nI (cr j))) (C := RS) (T := FS) (N := 7) hx hb hT inS hown hK hP 2 rfl rfl 6 (by decide) (va_Nw.use rfl (kN92 hE.2.1)) (fun _ h9 => h9) rfl dP_chance_29 ?_
          refine lv_aload_n hx hb dP_chance_32 rfl (lv_at hl 0 rfl) ?_
          refine va_getN (D := D) (ci := 1) (v := .int (nI (ca j))) (C := RS) (T := FS) (N := 7) hx hb hT inS hown hK hP 2 rfl rfl 5 (by decide) (va_Nw.use rfl (kN81 hE.2.1)) (fun _ h9 => h9) rfl dP_chance_33 ?_
          refine lv_aload_n hx hb dP_chance_36 rfl (lv_at hl 0 rfl) ?_
          refine va_getN (D := D) (ci := 1) (v := .int (nI (sp j))) (C := RS) (T := FS) (N := 7) hx hb hT inS hown hK hP 2 rfl rfl 1 (by decide) (va_Nw.use rfl (kN74 hE.2.1)) (fun _ h9 => h9) rfl dP_chance_37 ?_
          refine x_callP (v := .long (lN (pw_ways (cr j) (ca j) (sp j)))) (va_runS (As := [.int (nI (cr j)), .int (nI (ca j)), .int (nI (sp j))]) (rest := []) ⟨hx, hb, hml, hown, hT⟩ (c_P_waysOfAtLeast l D κ base s.heap (cr j) (ca j) (sp j) (by omega) (by omega) h23) (va_cwS 3 hT (TT_S kP102 ktP_waysOfAtLeast knP kcP_waysOfAtLeast) rfl rfl rfl (by decide +kernel) ⟨Nat.le_of_ble_eq_true rfl, Nat.le_of_ble_eq_true rfl⟩) (pcS hE hS hAb) rfl rfl hl.1 rfl (lv_room (Nat.le_of_ble_eq_true rfl)) dP_chance_40 ⟨Nat.le_of_ble_eq_true rfl, Nat.le_of_ble_eq_true rfl⟩) ?_
          refine lv_lstore (lv' := [(4, .long (lN (pw_ways (cr j) (ca j) (sp j)))), (3, .ref (bS j)), (0, .ref a), (1, .int (nI j)), (2, .int (nI 0))]) hx hb dP_chance_43 hl (by decide) rfl (fun ls hl => ?_)
          refine lv_lload hx hb dP_chance_45 (lv_at hl 0 rfl) ?_
          refine lv_aload_n hx hb dP_chance_47 rfl (lv_at hl 1 rfl) ?_
          refine va_getN (D := D) (ci := 1) (v := .int (nI (sp j))) (C := RS) (T := FS) (N := 7) hx hb hT inS hown hK hP 2 rfl rfl 1 (by decide) (va_Nw.use rfl (kN74 hE.2.1)) (fun _ h9 => h9) rfl dP_chance_48 ?_
          refine lv_aload_n hx hb dP_chance_51 rfl (lv_at hl 1 rfl) ?_
          refine va_getN (D := D) (ci := 1) (v := .int (nI (ca j))) (C := RS) (T := FS) (N := 7) hx hb hT inS hown hK hP 2 rfl rfl 5 (by decide) (va_Nw.use rfl (kN81 hE.2.1)) (fun _ h9 => h9) rfl dP_chance_52 ?_
          refine x_callP (v := .long (lN (sp j ^ ca j))) (va_runS (As := [.int (nI (sp j)), .int (nI (ca j))]) (rest := [.long (lN (pw_ways (cr j) (ca j) (sp j)))]) ⟨hx, hb, hml, hown, hT⟩ (c_P_power l D κ base s.heap (sp j) (ca j) (by omega) (by omega)) (va_cwS 2 hT (TT_S kP106 ktP_power knP kcP_power) rfl rfl rfl (by decide +kernel) ⟨Nat.le_of_ble_eq_true rfl, Nat.le_of_ble_eq_true rfl⟩) (pcS hE hS hAb) rfl rfl hl.1 rfl (lv_room (Nat.le_of_ble_eq_true rfl)) dP_chance_55 ⟨Nat.le_of_ble_eq_true rfl, Nat.le_of_ble_eq_true rfl⟩) ?_
          refine lv_iload_n hx hb dP_chance_58 rfl (lv_at hl 4 rfl) ?_
          have hw := pw_lt (r := cr j) (show ca j < 27 by omega) (by omega) h23
          have hp2 := pp_lt (show ca j < 27 by omega) h23
          refine x_callP (v := .long (lN (rdp (pw_ways (cr j) (ca j) (sp j)) (sp j ^ ca j) 0))) (va_runS (As := [.long (lN (pw_ways (cr j) (ca j) (sp j))), .long (lN (sp j ^ ca j)), .int (nI 0)]) (rest := []) ⟨hx, hb, hml, hown, hT⟩ (c_P_reducedPart l D κ base s.heap (pw_ways (cr j) (ca j) (sp j)) (sp j ^ ca j) 0 (by omega) hp2 (Nat.pow_pos (by omega)) (by decide)) (va_cwS 3 hT (TT_S kP110 ktP_reducedPart knP kcP_reducedPart) rfl rfl rfl (by decide +kernel) ⟨Nat.le_of_ble_eq_true rfl, Nat.le_of_ble_eq_true rfl⟩) (pcS hE hS hAb) rfl rfl hl.1 rfl (lv_room (Nat.le_of_ble_eq_true rfl)) dP_chance_59 ⟨Nat.le_of_ble_eq_true rfl, Nat.le_of_ble_eq_true rfl⟩) ?_
          refine x_topl (y := r) ((h3 j 0 hj rfl hk g1 (by decide) rfl).symm) ?_
          exact W.lret (v := r) hx hb hr (fun t9 ht9 hW9 => ⟨rfl, ht9⟩) (fun q h => absurd h List.not_mem_nil) dP_chance_62
        · by_cases e3 : y = nI 1
          · subst e3
            refine x_callP (v := .int (nI 1)) (va_runS (As := [.int (nI 1)]) (rest := []) ⟨hx, hb, hml, hown, hT⟩ (c_P_isPart l D κ base s.heap (nI 1) 1 (by decide)) (va_cwS 1 hT (TT_S kP96 ktP_isPart knP kcP_isPart) rfl rfl rfl (by decide +kernel) ⟨Nat.le_of_ble_eq_true rfl, Nat.le_of_ble_eq_true rfl⟩) (pcS hE hS hAb) rfl rfl hl.1 rfl (lv_room (Nat.le_of_ble_eq_true rfl)) dP_chance_18 ⟨Nat.le_of_ble_eq_true rfl, Nat.le_of_ble_eq_true rfl⟩) ?_
            refine x_zne (a := 1) (tgt := 28) hx hb dP_chance_21 (by decide) (by omega) (fun h5 => ?_) (fun h5 => absurd h5 (by decide))
            refine lv_aload_n hx hb dP_chance_28 rfl (lv_at hl 0 rfl) ?_
            refine va_getN (D := D) (ci := 1) (v := .int (nI (cr j))) (C := RS) (T := FS) (N := 7) hx hb hT inS hown hK hP 2 rfl rfl 6 (by decide) (va_Nw.use rfl (kN92 hE.2.1)) (fun _ h9 => h9) rfl dP_chance_29 ?_
            refine lv_aload_n hx hb dP_chance_32 rfl (lv_at hl 0 rfl) ?_
            refine va_getN (D := D) (ci := 1) (v := .int (nI (ca j))) (C := RS) (T := FS) (N := 7) hx hb hT inS hown hK hP 2 rfl rfl 5 (by decide) (va_Nw.use rfl (kN81 hE.2.1)) (fun _ h9 => h9) rfl dP_chance_33 ?_
            refine lv_aload_n hx hb dP_chance_36 rfl (lv_at hl 0 rfl) ?_
            refine va_getN (D := D) (ci := 1) (v := .int (nI (sp j))) (C := RS) (T := FS) (N := 7) hx hb hT inS hown hK hP 2 rfl rfl 1 (by decide) (va_Nw.use rfl (kN74 hE.2.1)) (fun _ h9 => h9) rfl dP_chance_37 ?_
            refine x_callP (v := .long (lN (pw_ways (cr j) (ca j) (sp j)))) (va_runS (As := [.int (nI (cr j)), .int (nI (ca j)), .int (nI (sp j))]) (rest := []) ⟨hx, hb, hml, hown, hT⟩ (c_P_waysOfAtLeast l D κ base s.heap (cr j) (ca j) (sp j) (by omega) (by omega) h23) (va_cwS 3 hT (TT_S kP102 ktP_waysOfAtLeast knP kcP_waysOfAtLeast) rfl rfl rfl (by decide +kernel) ⟨Nat.le_of_ble_eq_true rfl, Nat.le_of_ble_eq_true rfl⟩) (pcS hE hS hAb) rfl rfl hl.1 rfl (lv_room (Nat.le_of_ble_eq_true rfl)) dP_chance_40 ⟨Nat.le_of_ble_eq_true rfl, Nat.le_of_ble_eq_true rfl⟩) ?_
            refine lv_lstore (lv' := [(4, .long (lN (pw_ways (cr j) (ca j) (sp j)))), (3, .ref (bS j)), (0, .ref a), (1, .int (nI j)), (2, .int (nI 1))]) hx hb dP_chance_43 hl (by decide) rfl (fun ls hl => ?_)
            refine lv_lload hx hb dP_chance_45 (lv_at hl 0 rfl) ?_
            refine lv_aload_n hx hb dP_chance_47 rfl (lv_at hl 1 rfl) ?_
            refine va_getN (D := D) (ci := 1) (v := .int (nI (sp j))) (C := RS) (T := FS) (N := 7) hx hb hT inS hown hK hP 2 rfl rfl 1 (by decide) (va_Nw.use rfl (kN74 hE.2.1)) (fun _ h9 => h9) rfl dP_chance_48 ?_
            refine lv_aload_n hx hb dP_chance_51 rfl (lv_at hl 1 rfl) ?_
            refine va_getN (D := D) (ci := 1) (v := .int (nI (ca j))) (C := RS) (T := FS) (N := 7) hx hb hT inS hown hK hP 2 rfl rfl 5 (by decide) (va_Nw.use rfl (kN81 hE.2.1)) (fun _ h9 => h9) rfl dP_chance_52 ?_
            refine x_callP (v := .long (lN (sp j ^ ca j))) (va_runS (As := [.int (nI (sp j)), .int (nI (ca j))]) (rest := [.long (lN (pw_ways (cr j) (ca j) (sp j)))]) ⟨hx, hb, hml, hown, hT⟩ (c_P_power l D κ base s.heap (sp j) (ca j) (by omega) (by omega)) (va_cwS 2 hT (TT_S kP106 ktP_power knP kcP_power) rfl rfl rfl (by decide +kernel) ⟨Nat.le_of_ble_eq_true rfl, Nat.le_of_ble_eq_true rfl⟩) (pcS hE hS hAb) rfl rfl hl.1 rfl (lv_room (Nat.le_of_ble_eq_true rfl)) dP_chance_55 ⟨Nat.le_of_ble_eq_true rfl, Nat.le_of_ble_eq_true rfl⟩) ?_
            refine lv_iload_n hx hb dP_chance_58 rfl (lv_at hl 4 rfl) ?_
            have hw := pw_lt (r := cr j) (show ca j < 27 by omega) (by omega) h23
            have hp2 := pp_lt (show ca j < 27 by omega) h23
            refine x_callP (v := .long (lN (rdp (pw_ways (cr j) (ca j) (sp j)) (sp j ^ ca j) 1))) (va_runS (As := [.long (lN (pw_ways (cr j) (ca j) (sp j))), .long (lN (sp j ^ ca j)), .int (nI 1)]) (rest := []) ⟨hx, hb, hml, hown, hT⟩ (c_P_reducedPart l D κ base s.heap (pw_ways (cr j) (ca j) (sp j)) (sp j ^ ca j) 1 (by omega) hp2 (Nat.pow_pos (by omega)) (by decide)) (va_cwS 3 hT (TT_S kP110 ktP_reducedPart knP kcP_reducedPart) rfl rfl rfl (by decide +kernel) ⟨Nat.le_of_ble_eq_true rfl, Nat.le_of_ble_eq_true rfl⟩) (pcS hE hS hAb) rfl rfl hl.1 rfl (lv_room (Nat.le_of_ble_eq_true rfl)) dP_chance_59 ⟨Nat.le_of_ble_eq_true rfl, Nat.le_of_ble_eq_true rfl⟩) ?_
            refine x_topl (y := r) ((h3 j 1 hj rfl hk g1 (by decide) rfl).symm) ?_
            exact W.lret (v := r) hx hb hr (fun t9 ht9 hW9 => ⟨rfl, ht9⟩) (fun q h => absurd h List.not_mem_nil) dP_chance_62
          · refine x_callP (v := .int (nI 0)) (va_runS (As := [.int y]) (rest := []) ⟨hx, hb, hml, hown, hT⟩ (c_P_isPart l D κ base s.heap y 0 (by rw [if_neg]; intro q; rcases q with q | q; exact e2 q; exact e3 q)) (va_cwS 1 hT (TT_S kP96 ktP_isPart knP kcP_isPart) rfl rfl rfl (by decide +kernel) ⟨Nat.le_of_ble_eq_true rfl, Nat.le_of_ble_eq_true rfl⟩) (pcS hE hS hAb) rfl rfl hl.1 rfl (lv_room (Nat.le_of_ble_eq_true rfl)) dP_chance_18 ⟨Nat.le_of_ble_eq_true rfl, Nat.le_of_ble_eq_true rfl⟩) ?_
            refine x_zne (a := 0) (tgt := 28) hx hb dP_chance_21 (by decide) (by omega) (fun h6 => absurd rfl h6) (fun h6 => ?_)
            refine lv_ldc2 (v := -1) hx hb hown (hT _ kP100) dP_chance_24 ?_
            refine x_topl (y := r) ((h2 ⟨e2, e3⟩).symm) ?_
            exact W.lret (v := r) hx hb hr (fun t9 ht9 hW9 => ⟨rfl, ht9⟩) (fun q h => absurd h List.not_mem_nil) dP_chance_27
set_option maxHeartbeats 400000 in
set_option maxRecDepth 100000 in
theorem c_P_size (l : Launch) (D : va_G) (κ : Nat → ClassId) (base : Nat) (H0 : Heap) (a : Nat) (x : Int32) (u v : Int64) (r : Int32) (h0 : (x < 0 ∨ nI 3 ≤ x ∨ u < lN 1 ∨ v < lN 1) → r = -1) (h1 : ∀ k A BB, k < 3 → x = nI k → 1 ≤ A → A < 2 ^ 63 → u = lN A → 1 ≤ BB → BB < 2 ^ 63 → v = lN BB → r = szF (if k = 0 then 3 else 2) ((BB - 1) / A + 1) 26 1) : Met l yP_size wP_size ({ frames := 1, cells := 0, slots := 0, locals := 24 }) (Pq D κ base [.ref a, .int x, .long u, .long v] H0) (q_P (some (.int r))) 0 0 (fun _ => False) := by
  refine Met.ofW (cc := bP_size) (maxL := 10) (ret := (some FieldType.int)) (by decide) rfl ?_
  intro p e s m args below meth c s₁ B hml hv
  obtain ⟨rfl, hH, hE⟩ := hv
  subst hH
  have hx := B.exec
  have hb := B.bytes
  have hr := B.returns
  have hT : ∀ w ∈ TT, w.before _ s = true := fun w h => atoms_spec (ws := wP_size) B.pre w (List.mem_cons_of_mem _ h)
  have hown : s.vm.findClass "TasterPanels" = some m.cls := findClass_of_methodNamed B.named
  have hlocks := B.notSynchronized
  have hK := hE.1
  have hS : va_S (fun q => base ≤ q) s.heap s.heap [] := va_S.rf
  have hAb : ∀ q : Nat, (fun q : Nat => base ≤ q) q → base ≤ q := fun _ h => h
  have hl := lv_entry ([.ref a, .int x, .long u, .long v]) (n := 10) (Nat.le_of_ble_eq_true rfl)
  rw [lg_entry_eq]
  generalize (lg_sl ([.ref a, .int x, .long u, .long v]) ++ List.replicate (10 - (lg_sl ([.ref a, .int x, .long u, .long v])).length) Slot.unset).toArray = ls at hl ⊢
  have hl : lv_has ls 10 [(0, .ref a), (1, .int x), (2, .long u), (4, .long v)] := hl
  rcases pk_ix x (show 3 < 2 ^ 31 by decide) with e1 | e1 | ⟨k, hk, rfl⟩
  · refine lv_iload_n hx hb dP_size_0 rfl (lv_at hl 1 rfl) ?_
    refine lv_if_lt (tgt := 22) hx hb dP_size_1 (by decide) (fun h1 => ?_) (fun h1 => absurd e1 h1)
    refine lv_iconst (v := -1) hx hb dP_size_22 (by decide) ?_
    refine x_topi (y := r) ((h0 (Or.inl e1)).symm) ?_
    exact W.iret (v := r) hx hb hr (fun t9 ht9 hW9 => ⟨rfl, ht9⟩) (fun q h => absurd h List.not_mem_nil) dP_size_23
  · refine lv_iload_n hx hb dP_size_0 rfl (lv_at hl 1 rfl) ?_
    refine lv_if_lt (tgt := 22) hx hb dP_size_1 (by decide) (fun h2 => absurd (Int32.lt_of_le_of_lt e1 h2) (by decide)) (fun h2 => ?_)
    refine lv_iload_n hx hb dP_size_4 rfl (lv_at hl 1 rfl) ?_
    refine lv_iconst (v := nI 2) hx hb dP_size_5 (by decide) ?_
    refine lv_icmp_gt (tgt := 22) hx hb dP_size_6 (by decide) (fun h3 => ?_) (fun h3 => absurd (Int32.lt_of_lt_of_le (show nI 2 < nI 3 by decide) e1) h3)
    refine lv_iconst (v := -1) hx hb dP_size_22 (by decide) ?_
    refine x_topi (y := r) ((h0 (Or.inr (Or.inl e1))).symm) ?_
    exact W.iret (v := r) hx hb hr (fun t9 ht9 hW9 => ⟨rfl, ht9⟩) (fun q h => absurd h List.not_mem_nil) dP_size_23
  · refine lv_iload_n hx hb dP_size_0 rfl (lv_at hl 1 rfl) ?_
    refine x_zlt (a := k) (tgt := 22) hx hb dP_size_1 (by decide) (by omega) ?_
    refine lv_iload_n hx hb dP_size_4 rfl (lv_at hl 1 rfl) ?_
    refine lv_iconst (v := nI 2) hx hb dP_size_5 (by decide) ?_
    refine x_cgt (a := k) (b := 2) (tgt := 22) hx hb dP_size_6 (by decide) (by omega) (by omega) (fun h5 => absurd h5 (by omega)) (fun h5 => ?_)
    refine lv_lload_n hx hb dP_size_9 rfl (lv_at hl 2 rfl) ?_
    refine lv_lconst (v := lN 1) hx hb dP_size_10 (by decide) ?_
    rcases lpos u with e2 | ⟨A, hA1, hA2, rfl⟩
    · refine x_llt (tgt := 22) hx hb dP_size_11 dP_size_12 (by decide) (fun h6 => ?_) (fun h6 => absurd e2 h6)
      refine lv_iconst (v := -1) hx hb dP_size_22 (by decide) ?_
      refine x_topi (y := r) ((h0 (Or.inr (Or.inr (Or.inl e2)))).symm) ?_
      exact W.iret (v := r) hx hb hr (fun t9 ht9 hW9 => ⟨rfl, ht9⟩) (fun q h => absurd h List.not_mem_nil) dP_size_23
    · refine x_llt (tgt := 22) hx hb dP_size_11 dP_size_12 (by decide) (fun h7 => absurd ((pk_lLT hA2 (by decide)).mp h7) (by omega)) (fun h7 => ?_)
      refine lv_lload hx hb dP_size_15 (lv_at hl 3 rfl) ?_
      refine lv_lconst (v := lN 1) hx hb dP_size_17 (by decide) ?_
      rcases lpos v with e3 | ⟨BB, hB1, hB2, rfl⟩
      · refine x_lge (tgt := 24) hx hb dP_size_18 dP_size_19 (by decide) (fun h8 => absurd (Int64.lt_of_lt_of_le e3 h8) (fun q => Int64.lt_irrefl q)) (fun h8 => ?_)
        refine lv_iconst (v := -1) hx hb dP_size_22 (by decide) ?_
        refine x_topi (y := r) ((h0 (Or.inr (Or.inr (Or.inr e3)))).symm) ?_
        exact W.iret (v := r) hx hb hr (fun t9 ht9 hW9 => ⟨rfl, ht9⟩) (fun q h => absurd h List.not_mem_nil) dP_size_23
      · refine x_lge (tgt := 24) hx hb dP_size_18 dP_size_19 (by decide) (fun h9 => ?_) (fun h9 => absurd ((pk_lLE (by decide) hB2).mpr hB1) h9)
        refine lv_lload hx hb dP_size_24 (lv_at hl 3 rfl) ?_
        refine lv_lconst (v := lN 1) hx hb dP_size_26 (by decide) ?_
        refine x_lsub (v := (lN BB) - (lN 1)) hx hb dP_size_27 (rfl) ?_
        refine x_topl (y := lN (BB - 1)) (lN_sub hB1) ?_
        have hw : (BB - 1) / A + 1 < 2 ^ 63 := by have := Nat.div_le_self (BB - 1) A; omega
        refine lv_lload_n hx hb dP_size_28 rfl (lv_at hl 2 rfl) ?_
        refine x_ldiv (v := lN ((BB - 1) / A)) hx hb dP_size_29 (lN_ne0 (by omega) (hA2)) (pk_lDiv (by omega) (by omega) (hA2)) ?_
        refine lv_lconst (v := lN 1) hx hb dP_size_30 (by decide) ?_
        refine x_ladd (v := lN (((BB - 1) / A) + 1)) hx hb dP_size_31 (lN_add _ _) ?_
        refine lv_lstore (lv' := [(6, .long (lN (((BB - 1) / A) + 1))), (0, .ref a), (1, .int (nI k)), (2, .long (lN A)), (4, .long (lN BB))]) hx hb dP_size_32 hl (by decide) rfl (fun ls hl => ?_)
        refine lv_iload_n hx hb dP_size_34 rfl (lv_at hl 2 rfl) ?_
        refine x_zne (a := k) (tgt := 42) hx hb dP_size_35 (by decide) (by omega) (fun g0 => ?_) (fun g0 => ?_)
        · refine lv_iconst (v := nI 2) hx hb dP_size_42 (by decide) ?_
          refine lv_istore (lv' := [(8, .int (nI 2)), (6, .long (lN (((BB - 1) / A) + 1))), (0, .ref a), (1, .int (nI k)), (2, .long (lN A)), (4, .long (lN BB))]) hx hb dP_size_43 hl (by decide) rfl (fun ls hl => ?_)
          refine lv_iconst (v := nI 1) hx hb dP_size_45 (by decide) ?_
          refine lv_istore (lv' := [(9, .int (nI 1)), (8, .int (nI 2)), (6, .long (lN (((BB - 1) / A) + 1))), (0, .ref a), (1, .int (nI k)), (2, .long (lN A)), (4, .long (lN BB))]) hx hb dP_size_46 hl (by decide) rfl (fun ls hl => ?_)
          have loop : ∀ (fu : Nat) (w : Nat), (w ≤ 27) → (1 ≤ w) → (szF 2 ((BB - 1) / A + 1) (27 - w) w = szF 2 ((BB - 1) / A + 1) 26 1) → 27 - w < fu → ∀ ls : Array Slot, lv_has ls 10 [(6, .long (lN ((BB - 1) / A + 1))), (8, .int (nI 2)), (9, .int (nI w))] → W p l e (headSpec wP_size ({ frames := 1, cells := 0, slots := 0, locals := 24 })).room s m ([.ref a, .int (nI k), .long (lN A), .long (lN BB)] : List Value).toArray below meth c s.heap [] 0 0 (MQ below (q_P (some (.int r))) ([.ref a, .int (nI k), .long (lN A), .long (lN BB)] : List Value).toArray s 0 0 (fun _ => False)) (F0 m 48 ls []) := by
            intro fu
            induction fu with
            | zero =>
              intro w hc hc1 heq hmu
              exact absurd hmu (Nat.not_lt_zero _)
            | succ fu ih =>
              intro w hc hc1 heq hmu ls hl
              refine lv_iload hx hb dP_size_48 (lv_at hl 2 rfl) ?_
              refine lv_bipush (v := nI 26) hx hb dP_size_50 (by decide) ?_
              refine x_cgt (a := w) (b := 26) (tgt := 77) hx hb dP_size_52 (by decide) (by omega) (by omega) (fun g1 => ?_) (fun g1 => ?_)
              · refine lv_iconst (v := -1) hx hb dP_size_77 (by decide) ?_
                refine x_topi (y := r) (by rw [h1 k A BB hk rfl hA1 hA2 rfl hB1 hB2 rfl, if_neg g0, ← heq, show 27 - w = 0 by omega]; rfl) ?_
                exact W.iret (v := r) hx hb hr (fun t9 ht9 hW9 => ⟨rfl, ht9⟩) (fun q h => absurd h List.not_mem_nil) dP_size_78
              · rw [show 27 - w = (27 - (w + 1)) + 1 by omega, szF] at heq
                have hpp := pp_lt (pl := 2) (show w < 27 by omega) (by decide)
                refine lv_iload hx hb dP_size_55 (lv_at hl 1 rfl) ?_
                refine lv_iload hx hb dP_size_57 (lv_at hl 2 rfl) ?_
                refine x_callP (v := .long (lN (2 ^ w))) (va_runS (As := [.int (nI 2), .int (nI w)]) (rest := []) ⟨hx, hb, hml, hown, hT⟩ (c_P_power l D κ base s.heap 2 w (by decide) (by omega)) (va_cwS 2 hT (TT_S kP106 ktP_power knP kcP_power) rfl rfl rfl (by decide +kernel) ⟨Nat.le_of_ble_eq_true rfl, Nat.le_of_ble_eq_true rfl⟩) (pcS hE hS hAb) rfl rfl hl.1 rfl (lv_room (Nat.le_of_ble_eq_true rfl)) dP_size_59 ⟨Nat.le_of_ble_eq_true rfl, Nat.le_of_ble_eq_true rfl⟩) ?_
                refine lv_lload hx hb dP_size_62 (lv_at hl 0 rfl) ?_
                refine x_llt (tgt := 71) hx hb dP_size_64 dP_size_65 (by decide) (fun g2 => ?_) (fun g2 => ?_)
                · rw [if_neg (Nat.not_le.mpr ((pk_lLT hpp hw).mp g2))] at heq
                  refine lv_iinc (v := nI (w + 1)) (lv' := [(9, .int (nI (w + 1))), (6, .long (lN ((BB - 1) / A + 1))), (8, .int (nI 2))]) hx hb dP_size_71 hl (k := 2) rfl (nI_add _ _) (by decide) rfl (fun ls hl => ?_)
                  refine lv_goto (tgt := 48) hx hb dP_size_74 (by decide) ?_
                  exact ih (w + 1) (by omega) (by omega) heq (by omega) ls (lv_sub hl [1, 2, 0] rfl)
                · rw [if_pos (Nat.le_of_not_lt fun q => g2 ((pk_lLT hpp hw).mpr q))] at heq
                  refine lv_iload hx hb dP_size_68 (lv_at hl 2 rfl) ?_
                  refine x_topi (y := r) (by rw [h1 k A BB hk rfl hA1 hA2 rfl hB1 hB2 rfl, if_neg g0, ← heq]) ?_
                  exact W.iret (v := r) hx hb hr (fun t9 ht9 hW9 => ⟨rfl, ht9⟩) (fun q h => absurd h List.not_mem_nil) dP_size_70
          exact loop 27 1 (by omega) (by omega) rfl (by omega) ls (lv_sub hl [2, 1, 0] rfl)
        · refine lv_iconst (v := nI 3) hx hb dP_size_38 (by decide) ?_
          refine lv_goto (tgt := 43) hx hb dP_size_39 (by decide) ?_
          refine lv_istore (lv' := [(8, .int (nI 3)), (6, .long (lN (((BB - 1) / A) + 1))), (0, .ref a), (1, .int (nI k)), (2, .long (lN A)), (4, .long (lN BB))]) hx hb dP_size_43 hl (by decide) rfl (fun ls hl => ?_)
          refine lv_iconst (v := nI 1) hx hb dP_size_45 (by decide) ?_
          refine lv_istore (lv' := [(9, .int (nI 1)), (8, .int (nI 3)), (6, .long (lN (((BB - 1) / A) + 1))), (0, .ref a), (1, .int (nI k)), (2, .long (lN A)), (4, .long (lN BB))]) hx hb dP_size_46 hl (by decide) rfl (fun ls hl => ?_)
          have loop : ∀ (fu : Nat) (w : Nat), (w ≤ 27) → (1 ≤ w) → (szF 3 ((BB - 1) / A + 1) (27 - w) w = szF 3 ((BB - 1) / A + 1) 26 1) → 27 - w < fu → ∀ ls : Array Slot, lv_has ls 10 [(6, .long (lN ((BB - 1) / A + 1))), (8, .int (nI 3)), (9, .int (nI w))] → W p l e (headSpec wP_size ({ frames := 1, cells := 0, slots := 0, locals := 24 })).room s m ([.ref a, .int (nI k), .long (lN A), .long (lN BB)] : List Value).toArray below meth c s.heap [] 0 0 (MQ below (q_P (some (.int r))) ([.ref a, .int (nI k), .long (lN A), .long (lN BB)] : List Value).toArray s 0 0 (fun _ => False)) (F0 m 48 ls []) := by
            intro fu
            induction fu with
            | zero =>
              intro w hc hc1 heq hmu
              exact absurd hmu (Nat.not_lt_zero _)
            | succ fu ih =>
              intro w hc hc1 heq hmu ls hl
              refine lv_iload hx hb dP_size_48 (lv_at hl 2 rfl) ?_
              refine lv_bipush (v := nI 26) hx hb dP_size_50 (by decide) ?_
              refine x_cgt (a := w) (b := 26) (tgt := 77) hx hb dP_size_52 (by decide) (by omega) (by omega) (fun g1 => ?_) (fun g1 => ?_)
              · refine lv_iconst (v := -1) hx hb dP_size_77 (by decide) ?_
                refine x_topi (y := r) (by rw [h1 k A BB hk rfl hA1 hA2 rfl hB1 hB2 rfl, if_pos g0, ← heq, show 27 - w = 0 by omega]; rfl) ?_
                exact W.iret (v := r) hx hb hr (fun t9 ht9 hW9 => ⟨rfl, ht9⟩) (fun q h => absurd h List.not_mem_nil) dP_size_78
              · rw [show 27 - w = (27 - (w + 1)) + 1 by omega, szF] at heq
                have hpp := pp_lt (pl := 3) (show w < 27 by omega) (by decide)
                refine lv_iload hx hb dP_size_55 (lv_at hl 1 rfl) ?_
                refine lv_iload hx hb dP_size_57 (lv_at hl 2 rfl) ?_
                refine x_callP (v := .long (lN (3 ^ w))) (va_runS (As := [.int (nI 3), .int (nI w)]) (rest := []) ⟨hx, hb, hml, hown, hT⟩ (c_P_power l D κ base s.heap 3 w (by decide) (by omega)) (va_cwS 2 hT (TT_S kP106 ktP_power knP kcP_power) rfl rfl rfl (by decide +kernel) ⟨Nat.le_of_ble_eq_true rfl, Nat.le_of_ble_eq_true rfl⟩) (pcS hE hS hAb) rfl rfl hl.1 rfl (lv_room (Nat.le_of_ble_eq_true rfl)) dP_size_59 ⟨Nat.le_of_ble_eq_true rfl, Nat.le_of_ble_eq_true rfl⟩) ?_
                refine lv_lload hx hb dP_size_62 (lv_at hl 0 rfl) ?_
                refine x_llt (tgt := 71) hx hb dP_size_64 dP_size_65 (by decide) (fun g2 => ?_) (fun g2 => ?_)
                · rw [if_neg (Nat.not_le.mpr ((pk_lLT hpp hw).mp g2))] at heq
                  refine lv_iinc (v := nI (w + 1)) (lv' := [(9, .int (nI (w + 1))), (6, .long (lN ((BB - 1) / A + 1))), (8, .int (nI 3))]) hx hb dP_size_71 hl (k := 2) rfl (nI_add _ _) (by decide) rfl (fun ls hl => ?_)
                  refine lv_goto (tgt := 48) hx hb dP_size_74 (by decide) ?_
                  exact ih (w + 1) (by omega) (by omega) heq (by omega) ls (lv_sub hl [1, 2, 0] rfl)
                · rw [if_pos (Nat.le_of_not_lt fun q => g2 ((pk_lLT hpp hw).mpr q))] at heq
                  refine lv_iload hx hb dP_size_68 (lv_at hl 2 rfl) ?_
                  refine x_topi (y := r) (by rw [h1 k A BB hk rfl hA1 hA2 rfl hB1 hB2 rfl, if_pos g0, ← heq]) ?_
                  exact W.iret (v := r) hx hb hr (fun t9 ht9 hW9 => ⟨rfl, ht9⟩) (fun q h => absurd h List.not_mem_nil) dP_size_70
          exact loop 27 1 (by omega) (by omega) rfl (by omega) ls (lv_sub hl [2, 1, 0] rfl)
set_option maxHeartbeats 400000 in
set_option maxRecDepth 100000 in
theorem c_P_row (l : Launch) (D : va_G) (κ : Nat → ClassId) (base : Nat) (H0 : Heap) (a k : Nat) (hk1 : 1 ≤ k) (hk2 : k ≤ 26) : Met l yP_row wP_row ({ frames := 1, cells := 0, slots := 0, locals := 27 }) (Pq D κ base [.ref a, .int (nI k)] H0) (q_P (some (.int (nI (rwF k (k + 1) 0))))) 0 0 (fun _ => False) := by
  refine Met.ofW (cc := bP_row) (maxL := 5) (ret := (some FieldType.int)) (by decide) rfl ?_
  intro p e s m args below meth c s₁ B hml hv
  obtain ⟨rfl, hH, hE⟩ := hv
  subst hH
  have hx := B.exec
  have hb := B.bytes
  have hr := B.returns
  have hT : ∀ w ∈ TT, w.before _ s = true := fun w h => atoms_spec (ws := wP_row) B.pre w (List.mem_cons_of_mem _ h)
  have hown : s.vm.findClass "TasterPanels" = some m.cls := findClass_of_methodNamed B.named
  have hlocks := B.notSynchronized
  have hK := hE.1
  have hS : va_S (fun q => base ≤ q) s.heap s.heap [] := va_S.rf
  have hAb : ∀ q : Nat, (fun q : Nat => base ≤ q) q → base ≤ q := fun _ h => h
  have hl := lv_entry ([.ref a, .int (nI k)]) (n := 5) (Nat.le_of_ble_eq_true rfl)
  rw [lg_entry_eq]
  generalize (lg_sl ([.ref a, .int (nI k)]) ++ List.replicate (5 - (lg_sl ([.ref a, .int (nI k)])).length) Slot.unset).toArray = ls at hl ⊢
  have hl : lv_has ls 5 [(0, .ref a), (1, .int (nI k))] := hl
  refine lv_iload_n hx hb dP_row_0 rfl (lv_at hl 1 rfl) ?_
  refine lv_iconst (v := nI 1) hx hb dP_row_1 (by decide) ?_
  refine x_clt (a := k) (b := 1) (tgt := 11) hx hb dP_row_2 (by decide) (by omega) (by omega) (fun h1 => absurd h1 (by omega)) (fun h1 => ?_)
  refine lv_iload_n hx hb dP_row_5 rfl (lv_at hl 1 rfl) ?_
  refine lv_bipush (v := nI 26) hx hb dP_row_6 (by decide) ?_
  refine x_cle (a := k) (b := 26) (tgt := 21) hx hb dP_row_8 (by decide) (by omega) (by omega) (fun h2 => ?_) (fun h2 => absurd h2 (by omega))
  have loop : ∀ (fu : Nat) (r : Nat), (r ≤ k + 1) → (rwF k (k + 1 - r) r = rwF k (k + 1) 0) → k + 1 - r < fu → ∀ ls : Array Slot, lv_has ls 5 [(1, .int (nI k)), (2, .long (lN (3 ^ k))), (4, .int (nI r))] → W p l e (headSpec wP_row ({ frames := 1, cells := 0, slots := 0, locals := 27 })).room s m ([.ref a, .int (nI k)] : List Value).toArray below meth c s.heap [] 0 0 (MQ below (q_P (some (.int (nI (rwF k (k + 1) 0))))) ([.ref a, .int (nI k)] : List Value).toArray s 0 0 (fun _ => False)) (F0 m 30 ls []) := by
    intro fu
    induction fu with
    | zero =>
      intro r hr1 heq hmu
      exact absurd hmu (Nat.not_lt_zero _)
    | succ fu ih =>
      intro r hr1 heq hmu ls hl
      refine lv_iload hx hb dP_row_30 (lv_at hl 2 rfl) ?_
      refine lv_iload_n hx hb dP_row_32 rfl (lv_at hl 0 rfl) ?_
      refine x_cgt (a := r) (b := k) (tgt := 61) hx hb dP_row_33 (by decide) (by omega) (by omega) (fun g1 => ?_) (fun g1 => ?_)
      · refine lv_iload_n hx hb dP_row_61 rfl (lv_at hl 0 rfl) ?_
        refine lv_iconst (v := nI 1) hx hb dP_row_62 (by decide) ?_
        refine x_iadd (v := nI (k + 1)) hx hb dP_row_63 (nI_add _ _) ?_
        refine x_topn (b := rwF k (k + 1) 0) (by rw [← heq, show k + 1 - r = 0 by omega]; rfl) ?_
        exact W.iret (v := nI (rwF k (k + 1) 0)) hx hb hr (fun t9 ht9 hW9 => ⟨rfl, ht9⟩) (fun q h => absurd h List.not_mem_nil) dP_row_64
      · rw [show k + 1 - r = (k + 1 - (r + 1)) + 1 by omega, rwF] at heq
        have hw := pw_lt (n := k) (r := r) (pl := 3) (by omega) (by omega) (Or.inr rfl)
        have hpp := pp_lt (n := k) (pl := 3) (by omega) (Or.inr rfl)
        refine lv_ldc2 (v := lN 20) hx hb hown (hT _ kP155) dP_row_36 ?_
        refine lv_iload hx hb dP_row_39 (lv_at hl 2 rfl) ?_
        refine lv_iload_n hx hb dP_row_41 rfl (lv_at hl 0 rfl) ?_
        refine lv_iconst (v := nI 3) hx hb dP_row_42 (by decide) ?_
        refine x_callP (v := .long (lN (pw_ways r k 3))) (va_runS (As := [.int (nI r), .int (nI k), .int (nI 3)]) (rest := [.long (lN 20)]) ⟨hx, hb, hml, hown, hT⟩ (c_P_waysOfAtLeast l D κ base s.heap r k 3 (by omega) (by omega) (Or.inr rfl)) (va_cwS 3 hT (TT_S kP102 ktP_waysOfAtLeast knP kcP_waysOfAtLeast) rfl rfl rfl (by decide +kernel) ⟨Nat.le_of_ble_eq_true rfl, Nat.le_of_ble_eq_true rfl⟩) (pcS hE hS hAb) rfl rfl hl.1 rfl (lv_room (Nat.le_of_ble_eq_true rfl)) dP_row_43 ⟨Nat.le_of_ble_eq_true rfl, Nat.le_of_ble_eq_true rfl⟩) ?_
        refine x_lmul (v := lN (20 * (pw_ways r k 3))) hx hb dP_row_46 (lN_mul _ _) ?_
        refine lv_lload_n hx hb dP_row_47 rfl (lv_at hl 1 rfl) ?_
        refine x_lgt (tgt := 55) hx hb dP_row_48 dP_row_49 (by decide) (fun g2 => ?_) (fun g2 => ?_)
        · rw [if_neg (Nat.not_le.mpr ((pk_lLT hpp hw).mp g2))] at heq
          refine lv_iinc (v := nI (r + 1)) (lv' := [(4, .int (nI (r + 1))), (1, .int (nI k)), (2, .long (lN (3 ^ k)))]) hx hb dP_row_55 hl (k := 2) rfl (nI_add _ _) (by decide) rfl (fun ls hl => ?_)
          refine lv_goto (tgt := 30) hx hb dP_row_58 (by decide) ?_
          exact ih (r + 1) (by omega) heq (by omega) ls (lv_sub hl [1, 2, 0] rfl)
        · rw [if_pos (Nat.le_of_not_lt fun q => g2 ((pk_lLT hpp hw).mpr q))] at heq
          refine lv_iload hx hb dP_row_52 (lv_at hl 2 rfl) ?_
          refine x_topn (b := rwF k (k + 1) 0) (heq) ?_
          exact W.iret (v := nI (rwF k (k + 1) 0)) hx hb hr (fun t9 ht9 hW9 => ⟨rfl, ht9⟩) (fun q h => absurd h List.not_mem_nil) dP_row_54
  refine lv_iconst (v := nI 3) hx hb dP_row_21 (by decide) ?_
  refine lv_iload_n hx hb dP_row_22 rfl (lv_at hl 1 rfl) ?_
  refine x_callP (v := .long (lN (3 ^ k))) (va_runS (As := [.int (nI 3), .int (nI k)]) (rest := []) ⟨hx, hb, hml, hown, hT⟩ (c_P_power l D κ base s.heap 3 k (by decide) (by omega)) (va_cwS 2 hT (TT_S kP106 ktP_power knP kcP_power) rfl rfl rfl (by decide +kernel) ⟨Nat.le_of_ble_eq_true rfl, Nat.le_of_ble_eq_true rfl⟩) (pcS hE hS hAb) rfl rfl hl.1 rfl (lv_room (Nat.le_of_ble_eq_true rfl)) dP_row_23 ⟨Nat.le_of_ble_eq_true rfl, Nat.le_of_ble_eq_true rfl⟩) ?_
  refine lv_lstore_n (lv' := [(2, .long (lN (3 ^ k))), (0, .ref a), (1, .int (nI k))]) hx hb dP_row_26 rfl hl (by decide) rfl (fun ls hl => ?_)
  refine lv_iconst (v := nI 0) hx hb dP_row_27 (by decide) ?_
  refine lv_istore (lv' := [(4, .int (nI 0)), (2, .long (lN (3 ^ k))), (0, .ref a), (1, .int (nI k))]) hx hb dP_row_28 hl (by decide) rfl (fun ls hl => ?_)
  exact loop (k + 2) 0 (by omega) rfl (by omega) ls (lv_sub hl [3, 1, 0] rfl)
