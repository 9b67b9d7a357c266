set_option maxHeartbeats 400000 in
set_option maxRecDepth 100000 in
theorem c_P_level (l : Launch) (D : va_G) (κ : Nat → ClassId) (base : Nat) (H0 : Heap) {a : Nat} {sd : Int64} {nT nS : Nat} {bT bS : Nat → Nat} {td fd : Nat → Nat → Nat} {ta tr kd sp ca cr : Nat → Nat} {od aw rk : Nat → Nat → Nat} (hR : RC D κ base a sd nT nS bT bS td fd ta tr kd sp ca cr od aw rk H0) (x y : Int32) (z : Nat) (hz1 : z ≤ 1) (r : Nat) (td2 fd2 : Nat → Nat → Nat) (h0 : (noT nT x ∨ y < 0 ∨ nI 16 ≤ y) → r = 0 ∧ td2 = td ∧ fd2 = fd) (h1 : ∀ i k, i < nT → k < 16 → x = nI i → y = nI k → r = 1 ∧ td2 = u2 td i k 1 ∧ fd2 = u2 fd i k z) : Met l yP_level wP_level ({ frames := 1, cells := 0, slots := 0, locals := 21 }) (Pq D κ base [.ref a, .int x, .int y, .int (nI z)] H0) (q_W (fun v H => v = some (.int (nI r)) ∧ RC D κ base a sd nT nS bT bS td2 fd2 ta tr kd sp ca cr od aw rk H ∧ FrC a nT nS bT bS H0 H)) 0 0 (OwnC a nT nS bT bS H0.size) := by
  refine Met.ofW (cc := bP_level) (maxL := 5) (ret := (some FieldType.boolean)) (by decide) rfl ?_
  intro p e s m args below meth c s₁ B hml hv
  obtain ⟨rfl, hH, hE⟩ := hv
  subst hH
  have hx := B.exec
  have hb := B.bytes
  have hr := B.returns
  have hT : ∀ w ∈ TT, w.before _ s = true := fun w h => atoms_spec (ws := wP_level) B.pre w (List.mem_cons_of_mem _ h)
  have hown : s.vm.findClass "TasterPanels" = some m.cls := findClass_of_methodNamed B.named
  have hlocks := B.notSynchronized
  have hK := hE.1
  have hS : va_S (fun q => base ≤ q) s.heap s.heap [] := va_S.rf
  have hAb : ∀ q : Nat, (fun q : Nat => base ≤ q) q → base ≤ q := fun _ h => h
  have hl := lv_entry ([.ref a, .int x, .int y, .int (nI z)]) (n := 5) (Nat.le_of_ble_eq_true rfl)
  rw [lg_entry_eq]
  generalize (lg_sl ([.ref a, .int x, .int y, .int (nI z)]) ++ List.replicate (5 - (lg_sl ([.ref a, .int x, .int y, .int (nI z)])).length) Slot.unset).toArray = ls at hl ⊢
  have hl : lv_has ls 5 [(0, .ref a), (1, .int x), (2, .int y), (3, .int (nI z))] := hl
  have hR0 := hR
  obtain ⟨⟨fT, fS, mx, sw, hP, hfT, hfS⟩, hTas, hTes, hbd⟩ := hR
  obtain ⟨⟨hnT, hnS, hba, hah⟩, hb1, hb2, hs1, hs2, hs3, hs4, hs5⟩ := hbd
  have hbs : base ≤ s.heap.size := by omega
  have hOb : ∀ x9, OwnC a nT nS bT bS s.heap.size x9 → base ≤ x9 := fun x9 h => OwnC.base hba (by omega) hs1 hs2 h
  have hS : va_S (OwnC a nT nS bT bS s.heap.size) s.heap s.heap [] := va_S.rf
  have hAb := hOb
  rcases whoT nT x with e1 | ⟨i, hi, hi26, rfl⟩
  · refine lv_aload_n hx hb dP_level_0 rfl (lv_at hl 0 rfl) ?_
    refine lv_iload_n hx hb dP_level_1 rfl (lv_at hl 1 rfl) ?_
    refine x_callP (v := .null) (va_runV (As := [.int x]) (rest := []) ⟨hx, hb, hml, hown, hT⟩ (c_P_tasterAt l D κ base s.heap (hP.sub [0, 1] rfl) x .null (fun _ => rfl) (none_at (by decide) (noT_fr e1 hfT))) (cwV 1 hT (TT_V kP56 kiP_tasterAt ksP_tasterAt knP kcP_tasterAt) rfl rfl rfl (by decide +kernel) ⟨Nat.le_of_ble_eq_true rfl, Nat.le_of_ble_eq_true rfl⟩) (pcV hE hS hAb (va_recv hK hP (ci := 2) (q0 := 0) rfl rfl)) rfl rfl hl.1 rfl (lv_room (Nat.le_of_ble_eq_true rfl)) dP_level_2 ⟨Nat.le_of_ble_eq_true rfl, Nat.le_of_ble_eq_true rfl⟩) ?_
    refine lv_astoreN (lv' := [(4, .null), (0, .ref a), (1, .int x), (2, .int y), (3, .int (nI z))]) hx hb dP_level_5 hl (by decide) rfl (fun ls hl => ?_)
    refine lv_aloadN hx hb dP_level_7 (lv_at hl 0 rfl) ?_
    refine lv_ifnullN (tgt := 22) hx hb dP_level_9 (by decide) ?_
    refine lv_iconst (v := nI 0) hx hb dP_level_22 (by decide) ?_
    obtain ⟨g1, g2, g3⟩ := h0 (Or.inl e1)
    exact W.zret (v := nI 0) hx hb hr (by decide) (fun t9 ht9 hW9 => ⟨some (.int (nI 0)), rfl, by rw [ht9]; exact ⟨by rw [g1], by rw [g2, g3]; exact hR0, FrC.rf⟩⟩) (fun q h => absurd h List.not_mem_nil) dP_level_23
  · have hP : va_P D vwCl [(a, .inr (2, [.long sd, .ref (a + 1), .ref (a + 2), .int (nI nT), .int (nI nS), .ref (a + 3), .ref (a + 4)])), ((a + 1), .inl (κ 3, 26, .inr (.inr (.inr (.inr fT))))), ((bT i), .inr (0, [.ref ((bT i) + 1), .ref ((bT i) + 2), .int (nI (ta i)), .int (nI (tr i))])), (((bT i) + 1), .inl (κ 1, 16, .inl (fun k => nI (td i k)))), (((bT i) + 2), .inl (κ 1, 16, .inl (fun k => nI (fd i k))))] s.heap := va_P.app (hP.sub [0, 1] rfl) ((hTas i hi).sub [0, 1, 2] rfl)
    have b1 := hs1 i hi
    refine lv_aload_n hx hb dP_level_0 rfl (lv_at hl 0 rfl) ?_
    refine lv_iload_n hx hb dP_level_1 rfl (lv_at hl 1 rfl) ?_
    refine x_callP (v := .ref (bT i)) (va_runV (As := [.int (nI i)]) (rest := []) ⟨hx, hb, hml, hown, hT⟩ (c_P_tasterAt l D κ base s.heap (hP.sub [0, 1] rfl) (nI i) (.ref (bT i)) (fun h => at_out (by decide) hi26 h rfl) (some_at (by decide) hi26 (by rw [hfT i hi26, if_pos hi]))) (cwV 1 hT (TT_V kP56 kiP_tasterAt ksP_tasterAt knP kcP_tasterAt) rfl rfl rfl (by decide +kernel) ⟨Nat.le_of_ble_eq_true rfl, Nat.le_of_ble_eq_true rfl⟩) (pcV hE hS hAb (va_recv hK hP (ci := 2) (q0 := 0) rfl rfl)) rfl rfl hl.1 rfl (lv_room (Nat.le_of_ble_eq_true rfl)) dP_level_2 ⟨Nat.le_of_ble_eq_true rfl, Nat.le_of_ble_eq_true rfl⟩) ?_
    refine lv_astore (lv' := [(4, .ref (bT i)), (0, .ref a), (1, .int (nI i)), (2, .int y), (3, .int (nI z))]) hx hb dP_level_5 hl (by decide) rfl (fun ls hl => ?_)
    refine lv_aload hx hb dP_level_7 (lv_at hl 0 rfl) ?_
    refine lv_ifnull hx hb dP_level_9 ?_
    refine lv_iload_n hx hb dP_level_12 rfl (lv_at hl 3 rfl) ?_
    rcases pk_ix y (show 16 < 2 ^ 31 by decide) with e2 | e2 | ⟨k, hk, rfl⟩
    · refine lv_if_lt (tgt := 22) hx hb dP_level_13 (by decide) (fun h3 => ?_) (fun h3 => absurd e2 h3)
      refine lv_iconst (v := nI 0) hx hb dP_level_22 (by decide) ?_
      obtain ⟨g1, g2, g3⟩ := h0 (Or.inr (Or.inl e2))
      exact W.zret (v := nI 0) hx hb hr (by decide) (fun t9 ht9 hW9 => ⟨some (.int (nI 0)), rfl, by rw [ht9]; exact ⟨by rw [g1], by rw [g2, g3]; exact hR0, FrC.rf⟩⟩) (fun q h => absurd h List.not_mem_nil) dP_level_23
    · refine lv_if_lt (tgt := 22) hx hb dP_level_13 (by decide) (fun h4 => absurd (Int32.lt_of_le_of_lt e2 h4) (by decide)) (fun h4 => ?_)
      refine lv_iload_n hx hb dP_level_16 rfl (lv_at hl 3 rfl) ?_
      refine lv_bipush (v := nI 16) hx hb dP_level_17 (by decide) ?_
      refine lv_icmp_lt (tgt := 24) hx hb dP_level_19 (by decide) (fun h5 => absurd (Int32.lt_of_le_of_lt e2 h5) (fun q => Int32.lt_irrefl q)) (fun h5 => ?_)
      refine lv_iconst (v := nI 0) hx hb dP_level_22 (by decide) ?_
      obtain ⟨g1, g2, g3⟩ := h0 (Or.inr (Or.inr e2))
      exact W.zret (v := nI 0) hx hb hr (by decide) (fun t9 ht9 hW9 => ⟨some (.int (nI 0)), rfl, by rw [ht9]; exact ⟨by rw [g1], by rw [g2, g3]; exact hR0, FrC.rf⟩⟩) (fun q h => absurd h List.not_mem_nil) dP_level_23
    · refine x_zlt (a := k) (tgt := 22) hx hb dP_level_13 (by decide) (by omega) ?_
      refine lv_iload_n hx hb dP_level_16 rfl (lv_at hl 3 rfl) ?_
      refine lv_bipush (v := nI 16) hx hb dP_level_17 (by decide) ?_
      refine x_clt (a := k) (b := 16) (tgt := 24) hx hb dP_level_19 (by decide) (by omega) (by omega) (fun h7 => ?_) (fun h7 => absurd h7 (by omega))
      obtain ⟨g1, g2, g3⟩ := h1 i k hi hk rfl rfl
      rcases (show z = 0 ∨ z = 1 by omega) with rfl | rfl
      · have hnd : ([(a, .inr (2, [.long sd, .ref (a + 1), .ref (a + 2), .int (nI nT), .int (nI nS), .ref (a + 3), .ref (a + 4)])), ((a + 1), .inl (κ 3, 26, .inr (.inr (.inr (.inr fT))))), ((bT i), .inr (0, [.ref ((bT i) + 1), .ref ((bT i) + 2), .int (nI (ta i)), .int (nI (tr i))])), (((bT i) + 1), .inl (κ 1, 16, .inl (fun k => nI (td i k)))), (((bT i) + 2), .inl (κ 1, 16, .inl (fun k => nI (fd i k))))] : va_W).map Prod.fst |>.Nodup := by simp only [List.map, List.nodup_cons, List.mem_cons, List.not_mem_nil, or_false, not_or, List.nodup_nil, and_true, not_false_eq_true, List.forall_mem_cons, forall_eq_or_imp, forall_eq]; omega
        have hD0 : va_D (fun q => base ≤ q) [(a, .inr (2, [.long sd, .ref (a + 1), .ref (a + 2), .int (nI nT), .int (nI nS), .ref (a + 3), .ref (a + 4)])), ((a + 1), .inl (κ 3, 26, .inr (.inr (.inr (.inr fT))))), ((bT i), .inr (0, [.ref ((bT i) + 1), .ref ((bT i) + 2), .int (nI (ta i)), .int (nI (tr i))])), (((bT i) + 1), .inl (κ 1, 16, .inl (fun k => nI (td i k)))), (((bT i) + 2), .inl (κ 1, 16, .inl (fun k => nI (fd i k))))] := D_of hnd (by simp only [List.map, List.nodup_cons, List.mem_cons, List.not_mem_nil, or_false, not_or, List.nodup_nil, and_true, not_false_eq_true, List.forall_mem_cons, forall_eq_or_imp, forall_eq]; omega)
        have hD := hD0.self (sz := s.heap.size)
        have hAb : ∀ x9, va_A [(a, .inr (2, [.long sd, .ref (a + 1), .ref (a + 2), .int (nI nT), .int (nI nS), .ref (a + 3), .ref (a + 4)])), ((a + 1), .inl (κ 3, 26, .inr (.inr (.inr (.inr fT))))), ((bT i), .inr (0, [.ref ((bT i) + 1), .ref ((bT i) + 2), .int (nI (ta i)), .int (nI (tr i))])), (((bT i) + 1), .inl (κ 1, 16, .inl (fun k => nI (td i k)))), (((bT i) + 2), .inl (κ 1, 16, .inl (fun k => nI (fd i k))))] s.heap.size x9 → base ≤ x9 := fun x9 h => by rcases h with ⟨k9, e9, h⟩ | h; exact hD0.2 k9 _ h; exact Nat.le_trans hbs h
        have hAq : ∀ x9, va_A [(a, .inr (2, [.long sd, .ref (a + 1), .ref (a + 2), .int (nI nT), .int (nI nS), .ref (a + 3), .ref (a + 4)])), ((a + 1), .inl (κ 3, 26, .inr (.inr (.inr (.inr fT))))), ((bT i), .inr (0, [.ref ((bT i) + 1), .ref ((bT i) + 2), .int (nI (ta i)), .int (nI (tr i))])), (((bT i) + 1), .inl (κ 1, 16, .inl (fun k => nI (td i k)))), (((bT i) + 2), .inl (κ 1, 16, .inl (fun k => nI (fd i k))))] s.heap.size x9 → (x9 = a ∨ x9 = (a + 1) ∨ x9 = (bT i) ∨ x9 = ((bT i) + 1) ∨ x9 = ((bT i) + 2)) ∨ s.heap.size ≤ x9 := fun x9 h => by have := A_addr h; simpa only [List.map, List.mem_cons, List.not_mem_nil, or_false] using this
        have hAO : ∀ x9, va_A [(a, .inr (2, [.long sd, .ref (a + 1), .ref (a + 2), .int (nI nT), .int (nI nS), .ref (a + 3), .ref (a + 4)])), ((a + 1), .inl (κ 3, 26, .inr (.inr (.inr (.inr fT))))), ((bT i), .inr (0, [.ref ((bT i) + 1), .ref ((bT i) + 2), .int (nI (ta i)), .int (nI (tr i))])), (((bT i) + 1), .inl (κ 1, 16, .inl (fun k => nI (td i k)))), (((bT i) + 2), .inl (κ 1, 16, .inl (fun k => nI (fd i k))))] s.heap.size x9 → OwnC a nT nS bT bS s.heap.size x9 := fun x9 h => by exact ownT hi (by have := hAq x9 h; omega)
        generalize hAe : va_A [(a, .inr (2, [.long sd, .ref (a + 1), .ref (a + 2), .int (nI nT), .int (nI nS), .ref (a + 3), .ref (a + 4)])), ((a + 1), .inl (κ 3, 26, .inr (.inr (.inr (.inr fT))))), ((bT i), .inr (0, [.ref ((bT i) + 1), .ref ((bT i) + 2), .int (nI (ta i)), .int (nI (tr i))])), (((bT i) + 1), .inl (κ 1, 16, .inl (fun k => nI (td i k)))), (((bT i) + 2), .inl (κ 1, 16, .inl (fun k => nI (fd i k))))] s.heap.size = A at hD hAb hAq hAO
        have hA : ∀ x9, s.heap.size ≤ x9 → A x9 := fun x9 h => by rw [← hAe]; exact Or.inr h
        have hS : va_S A s.heap s.heap [] := va_S.rf
        refine lv_aload hx hb dP_level_24 (lv_at hl 0 rfl) ?_
        refine va_getN (D := D) (ci := 0) (v := .ref ((bT i) + 1)) (C := RT) (T := FT) (N := 4) hx hb hT inT hown hK hP 2 rfl rfl 0 (by decide) (va_Nw.use rfl (kN136 hE.2.1)) (fun _ h9 => h9) rfl dP_level_26 ?_
        refine lv_iload_n hx hb dP_level_29 rfl (lv_at hl 3 rfl) ?_
        refine lv_iconst (v := nI 1) hx hb dP_level_30 (by decide) ?_
        refine x_zast hx hb hK hP hD hS 3 1 (j := k) rfl rfl (by omega) (by decide) (by decide) dP_level_31 (fun H locs hP hD hS => ?_)
        have hP : va_P D vwCl [(a, .inr (2, [.long sd, .ref (a + 1), .ref (a + 2), .int (nI nT), .int (nI nS), .ref (a + 3), .ref (a + 4)])), ((a + 1), .inl (κ 3, 26, .inr (.inr (.inr (.inr fT))))), ((bT i), .inr (0, [.ref ((bT i) + 1), .ref ((bT i) + 2), .int (nI (ta i)), .int (nI (tr i))])), (((bT i) + 1), .inl (κ 1, 16, .inl (upd (fun k => nI (td i k)) k (nI 1)))), (((bT i) + 2), .inl (κ 1, 16, .inl (fun k => nI (fd i k))))] H := hP
        have hD : va_D A [(a, .inr (2, [.long sd, .ref (a + 1), .ref (a + 2), .int (nI nT), .int (nI nS), .ref (a + 3), .ref (a + 4)])), ((a + 1), .inl (κ 3, 26, .inr (.inr (.inr (.inr fT))))), ((bT i), .inr (0, [.ref ((bT i) + 1), .ref ((bT i) + 2), .int (nI (ta i)), .int (nI (tr i))])), (((bT i) + 1), .inl (κ 1, 16, .inl (upd (fun k => nI (td i k)) k (nI 1)))), (((bT i) + 2), .inl (κ 1, 16, .inl (fun k => nI (fd i k))))] := hD
        refine lv_aload hx hb dP_level_32 (lv_at hl 0 rfl) ?_
        refine va_getN (D := D) (ci := 0) (v := .ref ((bT i) + 2)) (C := RT) (T := FT) (N := 4) hx hb hT inT hown hK hP 2 rfl rfl 1 (by decide) (va_Nw.use rfl (kN139 hE.2.1)) (fun _ h9 => h9) rfl dP_level_34 ?_
        refine lv_iload_n hx hb dP_level_37 rfl (lv_at hl 3 rfl) ?_
        refine lv_iload_n hx hb dP_level_38 rfl (lv_at hl 4 rfl) ?_
        refine x_zast hx hb hK hP hD hS 4 1 (j := k) rfl rfl (by omega) (by decide) (by decide) dP_level_39 (fun H locs hP hD hS => ?_)
        have hP : va_P D vwCl [(a, .inr (2, [.long sd, .ref (a + 1), .ref (a + 2), .int (nI nT), .int (nI nS), .ref (a + 3), .ref (a + 4)])), ((a + 1), .inl (κ 3, 26, .inr (.inr (.inr (.inr fT))))), ((bT i), .inr (0, [.ref ((bT i) + 1), .ref ((bT i) + 2), .int (nI (ta i)), .int (nI (tr i))])), (((bT i) + 1), .inl (κ 1, 16, .inl (upd (fun k => nI (td i k)) k (nI 1)))), (((bT i) + 2), .inl (κ 1, 16, .inl (upd (fun k => nI (fd i k)) k (nI 0))))] H := hP
        have hD : va_D A [(a, .inr (2, [.long sd, .ref (a + 1), .ref (a + 2), .int (nI nT), .int (nI nS), .ref (a + 3), .ref (a + 4)])), ((a + 1), .inl (κ 3, 26, .inr (.inr (.inr (.inr fT))))), ((bT i), .inr (0, [.ref ((bT i) + 1), .ref ((bT i) + 2), .int (nI (ta i)), .int (nI (tr i))])), (((bT i) + 1), .inl (κ 1, 16, .inl (upd (fun k => nI (td i k)) k (nI 1)))), (((bT i) + 2), .inl (κ 1, 16, .inl (upd (fun k => nI (fd i k)) k (nI 0))))] := hD
        refine lv_iconst (v := nI 1) hx hb dP_level_40 (by decide) ?_
        exact W.zret (v := nI 1) hx hb hr (by decide) (fun t9 ht9 hW9 => ⟨some (.int (nI 1)), rfl, by rw [ht9]; exact ⟨by rw [g1], by rw [g2, g3]; exact RC_level hR0 hi (by decide) hAq hS.1 hS.2.1 hfT hP, ⟨hS.1, fun q h1 h2 => hS.2.1 q h1 (fun z => h2 (hAO q z))⟩⟩⟩) (fun q h => hAO _ (hS.2.2 q h)) dP_level_41
      · have hnd : ([(a, .inr (2, [.long sd, .ref (a + 1), .ref (a + 2), .int (nI nT), .int (nI nS), .ref (a + 3), .ref (a + 4)])), ((a + 1), .inl (κ 3, 26, .inr (.inr (.inr (.inr fT))))), ((bT i), .inr (0, [.ref ((bT i) + 1), .ref ((bT i) + 2), .int (nI (ta i)), .int (nI (tr i))])), (((bT i) + 1), .inl (κ 1, 16, .inl (fun k => nI (td i k)))), (((bT i) + 2), .inl (κ 1, 16, .inl (fun k => nI (fd i k))))] : va_W).map Prod.fst |>.Nodup := by simp only [List.map, List.nodup_cons, List.mem_cons, List.not_mem_nil, or_false, not_or, List.nodup_nil, and_true, not_false_eq_true, List.forall_mem_cons, forall_eq_or_imp, forall_eq]; omega
        have hD0 : va_D (fun q => base ≤ q) [(a, .inr (2, [.long sd, .ref (a + 1), .ref (a + 2), .int (nI nT), .int (nI nS), .ref (a + 3), .ref (a + 4)])), ((a + 1), .inl (κ 3, 26, .inr (.inr (.inr (.inr fT))))), ((bT i), .inr (0, [.ref ((bT i) + 1), .ref ((bT i) + 2), .int (nI (ta i)), .int (nI (tr i))])), (((bT i) + 1), .inl (κ 1, 16, .inl (fun k => nI (td i k)))), (((bT i) + 2), .inl (κ 1, 16, .inl (fun k => nI (fd i k))))] := D_of hnd (by simp only [List.map, List.nodup_cons, List.mem_cons, List.not_mem_nil, or_false, not_or, List.nodup_nil, and_true, not_false_eq_true, List.forall_mem_cons, forall_eq_or_imp, forall_eq]; omega)
        have hD := hD0.self (sz := s.heap.size)
        have hAb : ∀ x9, va_A [(a, .inr (2, [.long sd, .ref (a + 1), .ref (a + 2), .int (nI nT), .int (nI nS), .ref (a + 3), .ref (a + 4)])), ((a + 1), .inl (κ 3, 26, .inr (.inr (.inr (.inr fT))))), ((bT i), .inr (0, [.ref ((bT i) + 1), .ref ((bT i) + 2), .int (nI (ta i)), .int (nI (tr i))])), (((bT i) + 1), .inl (κ 1, 16, .inl (fun k => nI (td i k)))), (((bT i) + 2), .inl (κ 1, 16, .inl (fun k => nI (fd i k))))] s.heap.size x9 → base ≤ x9 := fun x9 h => by rcases h with ⟨k9, e9, h⟩ | h; exact hD0.2 k9 _ h; exact Nat.le_trans hbs h
        have hAq : ∀ x9, va_A [(a, .inr (2, [.long sd, .ref (a + 1), .ref (a + 2), .int (nI nT), .int (nI nS), .ref (a + 3), .ref (a + 4)])), ((a + 1), .inl (κ 3, 26, .inr (.inr (.inr (.inr fT))))), ((bT i), .inr (0, [.ref ((bT i) + 1), .ref ((bT i) + 2), .int (nI (ta i)), .int (nI (tr i))])), (((bT i) + 1), .inl (κ 1, 16, .inl (fun k => nI (td i k)))), (((bT i) + 2), .inl (κ 1, 16, .inl (fun k => nI (fd i k))))] s.heap.size x9 → (x9 = a ∨ x9 = (a + 1) ∨ x9 = (bT i) ∨ x9 = ((bT i) + 1) ∨ x9 = ((bT i) + 2)) ∨ s.heap.size ≤ x9 := fun x9 h => by have := A_addr h; simpa only [List.map, List.mem_cons, List.not_mem_nil, or_false] using this
        have hAO : ∀ x9, va_A [(a, .inr (2, [.long sd, .ref (a + 1), .ref (a + 2), .int (nI nT), .int (nI nS), .ref (a + 3), .ref (a + 4)])), ((a + 1), .inl (κ 3, 26, .inr (.inr (.inr (.inr fT))))), ((bT i), .inr (0, [.ref ((bT i) + 1), .ref ((bT i) + 2), .int (nI (ta i)), .int (nI (tr i))])), (((bT i) + 1), .inl (κ 1, 16, .inl (fun k => nI (td i k)))), (((bT i) + 2), .inl (κ 1, 16, .inl (fun k => nI (fd i k))))] s.heap.size x9 → OwnC a nT nS bT bS s.heap.size x9 := fun x9 h => by exact ownT hi (by have := hAq x9 h; omega)
        generalize hAe : va_A [(a, .inr (2, [.long sd, .ref (a + 1), .ref (a + 2), .int (nI nT), .int (nI nS), .ref (a + 3), .ref (a + 4)])), ((a + 1), .inl (κ 3, 26, .inr (.inr (.inr (.inr fT))))), ((bT i), .inr (0, [.ref ((bT i) + 1), .ref ((bT i) + 2), .int (nI (ta i)), .int (nI (tr i))])), (((bT i) + 1), .inl (κ 1, 16, .inl (fun k => nI (td i k)))), (((bT i) + 2), .inl (κ 1, 16, .inl (fun k => nI (fd i k))))] s.heap.size = A at hD hAb hAq hAO
        have hA : ∀ x9, s.heap.size ≤ x9 → A x9 := fun x9 h => by rw [← hAe]; exact Or.inr h
        have hS : va_S A s.heap s.heap [] := va_S.rf
        refine lv_aload hx hb dP_level_24 (lv_at hl 0 rfl) ?_
        refine va_getN (D := D) (ci := 0) (v := .ref ((bT i) + 1)) (C := RT) (T := FT) (N := 4) hx hb hT inT hown hK hP 2 rfl rfl 0 (by decide) (va_Nw.use rfl (kN136 hE.2.1)) (fun _ h9 => h9) rfl dP_level_26 ?_
        refine lv_iload_n hx hb dP_level_29 rfl (lv_at hl 3 rfl) ?_
        refine lv_iconst (v := nI 1) hx hb dP_level_30 (by decide) ?_
        refine x_zast hx hb hK hP hD hS 3 1 (j := k) rfl rfl (by omega) (by decide) (by decide) dP_level_31 (fun H locs hP hD hS => ?_)
        have hP : va_P D vwCl [(a, .inr (2, [.long sd, .ref (a + 1), .ref (a + 2), .int (nI nT), .int (nI nS), .ref (a + 3), .ref (a + 4)])), ((a + 1), .inl (κ 3, 26, .inr (.inr (.inr (.inr fT))))), ((bT i), .inr (0, [.ref ((bT i) + 1), .ref ((bT i) + 2), .int (nI (ta i)), .int (nI (tr i))])), (((bT i) + 1), .inl (κ 1, 16, .inl (upd (fun k => nI (td i k)) k (nI 1)))), (((bT i) + 2), .inl (κ 1, 16, .inl (fun k => nI (fd i k))))] H := hP
        have hD : va_D A [(a, .inr (2, [.long sd, .ref (a + 1), .ref (a + 2), .int (nI nT), .int (nI nS), .ref (a + 3), .ref (a + 4)])), ((a + 1), .inl (κ 3, 26, .inr (.inr (.inr (.inr fT))))), ((bT i), .inr (0, [.ref ((bT i) + 1), .ref ((bT i) + 2), .int (nI (ta i)), .int (nI (tr i))])), (((bT i) + 1), .inl (κ 1, 16, .inl (upd (fun k => nI (td i k)) k (nI 1)))), (((bT i) + 2), .inl (κ 1, 16, .inl (fun k => nI (fd i k))))] := hD
        refine lv_aload hx hb dP_level_32 (lv_at hl 0 rfl) ?_
        refine va_getN (D := D) (ci := 0) (v := .ref ((bT i) + 2)) (C := RT) (T := FT) (N := 4) hx hb hT inT hown hK hP 2 rfl rfl 1 (by decide) (va_Nw.use rfl (kN139 hE.2.1)) (fun _ h9 => h9) rfl dP_level_34 ?_
        refine lv_iload_n hx hb dP_level_37 rfl (lv_at hl 3 rfl) ?_
        refine lv_iload_n hx hb dP_level_38 rfl (lv_at hl 4 rfl) ?_
        refine x_zast hx hb hK hP hD hS 4 1 (j := k) rfl rfl (by omega) (by decide) (by decide) dP_level_39 (fun H locs hP hD hS => ?_)
        have hP : va_P D vwCl [(a, .inr (2, [.long sd, .ref (a + 1), .ref (a + 2), .int (nI nT), .int (nI nS), .ref (a + 3), .ref (a + 4)])), ((a + 1), .inl (κ 3, 26, .inr (.inr (.inr (.inr fT))))), ((bT i), .inr (0, [.ref ((bT i) + 1), .ref ((bT i) + 2), .int (nI (ta i)), .int (nI (tr i))])), (((bT i) + 1), .inl (κ 1, 16, .inl (upd (fun k => nI (td i k)) k (nI 1)))), (((bT i) + 2), .inl (κ 1, 16, .inl (upd (fun k => nI (fd i k)) k (nI 1))))] H := hP
        have hD : va_D A [(a, .inr (2, [.long sd, .ref (a + 1), .ref (a + 2), .int (nI nT), .int (nI nS), .ref (a + 3), .ref (a + 4)])), ((a + 1), .inl (κ 3, 26, .inr (.inr (.inr (.inr fT))))), ((bT i), .inr (0, [.ref ((bT i) + 1), .ref ((bT i) + 2), .int (nI (ta i)), .int (nI (tr i))])), (((bT i) + 1), .inl (κ 1, 16, .inl (upd (fun k => nI (td i k)) k (nI 1)))), (((bT i) + 2), .inl (κ 1, 16, .inl (upd (fun k => nI (fd i k)) k (nI 1))))] := hD
        refine lv_iconst (v := nI 1) hx hb dP_level_40 (by decide) ?_
        exact W.zret (v := nI 1) hx hb hr (by decide) (fun t9 ht9 hW9 => ⟨some (.int (nI 1)), rfl, by rw [ht9]; exact ⟨by rw [g1], by rw [g2, g3]; exact RC_level hR0 hi (by decide) hAq hS.1 hS.2.1 hfT hP, ⟨hS.1, fun q h1 h2 => hS.2.1 q h1 (fun z => h2 (hAO q z))⟩⟩⟩) (fun q h => hAO _ (hS.2.2 q h)) dP_level_41
