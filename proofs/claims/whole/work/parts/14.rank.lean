set_option maxHeartbeats 400000 in
set_option maxRecDepth 100000 in
theorem c_P_rank (l : Launch) (D : va_G) (κ : Nat → ClassId) (base : Nat) (H0 : Heap) {a : Nat} {sd : Int64} {nT nS : Nat} {bT bS : Nat → Nat} {td fd : Nat → Nat → Nat} {ta tr kd sp ca cr : Nat → Nat} {od aw rk : Nat → Nat → Nat} (hR : RC D κ base a sd nT nS bT bS td fd ta tr kd sp ca cr od aw rk H0) (x y z w : Int32) (r : Nat) (rk2 : Nat → Nat → Nat) (q1 : noS nS x → r = 0 ∧ rk2 = rk) (q2 : noT nT y → r = 0 ∧ rk2 = rk) (q3 : ∀ j, j < nS → x = nI j → ¬ kd j = 3 → r = 0 ∧ rk2 = rk) (q4 : ∀ j, j < nS → x = nI j → (z < 0 ∨ nI (sp j) ≤ z) → r = 0 ∧ rk2 = rk) (q5 : ∀ j, j < nS → x = nI j → (w < nI 1 ∨ nI (sp j) < w) → r = 0 ∧ rk2 = rk) (q6 : ∀ j i k v, j < nS → i < nT → k < sp j → x = nI j → y = nI i → z = nI k → w = nI v → 1 ≤ v → v ≤ sp j → (¬ rk j (i * 5 + k) = 0 ∨ ∃ n, n < sp j ∧ rk j (i * 5 + n) = v) → r = 0 ∧ rk2 = rk) (q7 : ∀ j i k v, j < nS → i < nT → k < sp j → x = nI j → y = nI i → z = nI k → w = nI v → 1 ≤ v → v ≤ sp j → kd j = 3 → rk j (i * 5 + k) = 0 → (¬ ∃ n, n < sp j ∧ rk j (i * 5 + n) = v) → r = 1 ∧ rk2 = u2 rk j (i * 5 + k) v) : Met l yP_rank wP_rank ({ frames := 2, cells := 0, slots := 0, locals := 45 }) (Pq D κ base [.ref a, .int x, .int y, .int z, .int w] H0) (q_W (fun v H => v = some (.int (nI r)) ∧ RC D κ base a sd nT nS bT bS td fd ta tr kd sp ca cr od aw rk2 H ∧ FrC a nT nS bT bS H0 H)) 0 0 (OwnC a nT nS bT bS H0.size) := by
  refine Met.ofW (cc := bP_rank) (maxL := 6) (ret := (some FieldType.boolean)) (by decide) rfl ?_
  intro p e s m args below meth c s₁ B hml hv
  obtain ⟨rfl, hH, hE⟩ := hv
  subst hH
  have hx := B.exec
  have hb := B.bytes
  have hr := B.returns
  have hT : ∀ w ∈ TT, w.before _ s = true := fun w h => atoms_spec (ws := wP_rank) B.pre w (List.mem_cons_of_mem _ h)
  have hown : s.vm.findClass "TasterPanels" = some m.cls := findClass_of_methodNamed B.named
  have hlocks := B.notSynchronized
  have hK := hE.1
  have hS : va_S (fun q => base ≤ q) s.heap s.heap [] := va_S.rf
  have hAb : ∀ q : Nat, (fun q : Nat => base ≤ q) q → base ≤ q := fun _ h => h
  have hl := lv_entry ([.ref a, .int x, .int y, .int z, .int w]) (n := 6) (Nat.le_of_ble_eq_true rfl)
  rw [lg_entry_eq]
  generalize (lg_sl ([.ref a, .int x, .int y, .int z, .int w]) ++ List.replicate (6 - (lg_sl ([.ref a, .int x, .int y, .int z, .int w])).length) Slot.unset).toArray = ls at hl ⊢
  have hl : lv_has ls 6 [(0, .ref a), (1, .int x), (2, .int y), (3, .int z), (4, .int w)] := hl
  have hR0 := hR
  obtain ⟨⟨fT, fS, mx, sw, hP, hfT, hfS⟩, hTas, hTes, hbd⟩ := hR
  obtain ⟨⟨hnT, hnS, hba, hah⟩, hb1, hb2, hs1, hs2, hs3, hs4, hs5⟩ := hbd
  have hbs : base ≤ s.heap.size := by omega
  have hOb : ∀ x9, OwnC a nT nS bT bS s.heap.size x9 → base ≤ x9 := fun x9 h => OwnC.base hba (by omega) hs1 hs2 h
  have hS : va_S (OwnC a nT nS bT bS s.heap.size) s.heap s.heap [] := va_S.rf
  have hAb := hOb
  rcases whoS nS x with e1 | ⟨j, hj, hj4, rfl⟩
  · refine lv_aload_n hx hb dP_rank_0 rfl (lv_at hl 0 rfl) ?_
    refine lv_iload_n hx hb dP_rank_1 rfl (lv_at hl 1 rfl) ?_
    refine x_callP (v := .null) (va_runV (As := [.int x]) (rest := []) ⟨hx, hb, hml, hown, hT⟩ (c_P_rankingAt_none l D κ base s.heap (hP.sub [0, 2] rfl) x (noS_fr e1 hfS)) (cwV 1 hT (TT_V kP114 kiP_rankingAt ksP_rankingAt knP kcP_rankingAt) rfl rfl rfl (by decide +kernel) ⟨Nat.le_of_ble_eq_true rfl, Nat.le_of_ble_eq_true rfl⟩) (pcV hE hS hAb (va_recv hK hP (ci := 2) (q0 := 0) rfl rfl)) rfl rfl hl.1 rfl (lv_room (Nat.le_of_ble_eq_true rfl)) dP_rank_2 ⟨Nat.le_of_ble_eq_true rfl, Nat.le_of_ble_eq_true rfl⟩) ?_
    refine lv_astoreN (lv' := [(5, .null), (0, .ref a), (1, .int x), (2, .int y), (3, .int z), (4, .int w)]) hx hb dP_rank_5 hl (by decide) rfl (fun ls hl => ?_)
    refine lv_aloadN hx hb dP_rank_7 (lv_at hl 0 rfl) ?_
    refine lv_ifnullN (tgt := 33) hx hb dP_rank_9 (by decide) ?_
    refine lv_iconst (v := nI 0) hx hb dP_rank_33 (by decide) ?_
    obtain ⟨g1, g2⟩ := q1 e1
    exact W.zret (v := nI 0) hx hb hr (by decide) (fun t9 ht9 hW9 => ⟨some (.int (nI 0)), rfl, by rw [ht9]; exact ⟨by rw [g1], by rw [g2]; exact hR0, FrC.rf⟩⟩) (fun q h => absurd h List.not_mem_nil) dP_rank_34
  · have hP : va_P D vwCl [(a, .inr (2, [.long sd, .ref (a + 1), .ref (a + 2), .int (nI nT), .int (nI nS), .ref (a + 3), .ref (a + 4)])), ((a + 1), .inl (κ 3, 26, .inr (.inr (.inr (.inr fT))))), ((a + 2), .inl (κ 4, 40, .inr (.inr (.inr (.inr fS))))), ((bS j), .inr (1, [.int (nI (kd j)), .int (nI (sp j)), .ref ((bS j) + 1), .ref ((bS j) + 2), .ref ((bS j) + 3), .int (nI (ca j)), .int (nI (cr j))])), (((bS j) + 3), .inl (κ 0, 130, .inl (fun x => nI (rk j x))))] s.heap := va_P.app (hP.sub [0, 1, 2] rfl) ((hTes j hj).sub [0, 3] rfl)
    have b1 := hs2 j hj
    obtain ⟨hok, -, -, -, hrk⟩ := hb1 j hj
    have hsp := hok.lt
    by_cases hk : kd j = 3
    · refine lv_aload_n hx hb dP_rank_0 rfl (lv_at hl 0 rfl) ?_
      refine lv_iload_n hx hb dP_rank_1 rfl (lv_at hl 1 rfl) ?_
      refine x_callP (v := .ref (bS j)) (va_runV (As := [.int (nI j)]) (rest := []) ⟨hx, hb, hml, hown, hT⟩ (c_P_rankingAt_some l D κ base s.heap (hP.sub [0, 2, 3] rfl) j hj4 (by rw [hfS j hj4, if_pos hj]) (hb1 j hj).1.lt.1 (.ref (bS j)) (fun q => absurd hk q) (fun _ => rfl)) (cwV 1 hT (TT_V kP114 kiP_rankingAt ksP_rankingAt knP kcP_rankingAt) rfl rfl rfl (by decide +kernel) ⟨Nat.le_of_ble_eq_true rfl, Nat.le_of_ble_eq_true rfl⟩) (pcV hE hS hAb (va_recv hK hP (ci := 2) (q0 := 0) rfl rfl)) rfl rfl hl.1 rfl (lv_room (Nat.le_of_ble_eq_true rfl)) dP_rank_2 ⟨Nat.le_of_ble_eq_true rfl, Nat.le_of_ble_eq_true rfl⟩) ?_
      refine lv_astore (lv' := [(5, .ref (bS j)), (0, .ref a), (1, .int (nI j)), (2, .int y), (3, .int z), (4, .int w)]) hx hb dP_rank_5 hl (by decide) rfl (fun ls hl => ?_)
      refine lv_aload hx hb dP_rank_7 (lv_at hl 0 rfl) ?_
      refine lv_ifnull hx hb dP_rank_9 ?_
      refine lv_aload_n hx hb dP_rank_12 rfl (lv_at hl 1 rfl) ?_
      refine lv_iload_n hx hb dP_rank_13 rfl (lv_at hl 3 rfl) ?_
      rcases whoT nT y with e2 | ⟨i, hi, hi26, rfl⟩
      · refine x_callP (v := .null) (va_runV (As := [.int y]) (rest := []) ⟨hx, hb, hml, hown, hT⟩ (c_P_tasterAt l D κ base s.heap (hP.sub [0, 1] rfl) y .null (fun _ => rfl) (none_at (by decide) (noT_fr e2 hfT))) (cwV 1 hT (TT_V kP56 kiP_tasterAt ksP_tasterAt knP kcP_tasterAt) rfl rfl rfl (by decide +kernel) ⟨Nat.le_of_ble_eq_true rfl, Nat.le_of_ble_eq_true rfl⟩) (pcV hE hS hAb (va_recv hK hP (ci := 2) (q0 := 0) rfl rfl)) rfl rfl hl.1 rfl (lv_room (Nat.le_of_ble_eq_true rfl)) dP_rank_14 ⟨Nat.le_of_ble_eq_true rfl, Nat.le_of_ble_eq_true rfl⟩) ?_
        refine lv_ifnullN (tgt := 33) hx hb dP_rank_17 (by decide) ?_
        refine lv_iconst (v := nI 0) hx hb dP_rank_33 (by decide) ?_
        obtain ⟨g1, g2⟩ := q2 e2
        exact W.zret (v := nI 0) hx hb hr (by decide) (fun t9 ht9 hW9 => ⟨some (.int (nI 0)), rfl, by rw [ht9]; exact ⟨by rw [g1], by rw [g2]; exact hR0, FrC.rf⟩⟩) (fun q h => absurd h List.not_mem_nil) dP_rank_34
      · refine x_callP (v := .ref (bT i)) (va_runV (As := [.int (nI i)]) (rest := []) ⟨hx, hb, hml, hown, hT⟩ (c_P_tasterAt l D κ base s.heap (hP.sub [0, 1] rfl) (nI i) (.ref (bT i)) (fun h => at_out (by decide) hi26 h rfl) (some_at (by decide) hi26 (by rw [hfT i hi26, if_pos hi]))) (cwV 1 hT (TT_V kP56 kiP_tasterAt ksP_tasterAt knP kcP_tasterAt) rfl rfl rfl (by decide +kernel) ⟨Nat.le_of_ble_eq_true rfl, Nat.le_of_ble_eq_true rfl⟩) (pcV hE hS hAb (va_recv hK hP (ci := 2) (q0 := 0) rfl rfl)) rfl rfl hl.1 rfl (lv_room (Nat.le_of_ble_eq_true rfl)) dP_rank_14 ⟨Nat.le_of_ble_eq_true rfl, Nat.le_of_ble_eq_true rfl⟩) ?_
        refine lv_ifnull hx hb dP_rank_17 ?_
        refine lv_iload_n hx hb dP_rank_20 rfl (lv_at hl 4 rfl) ?_
        rcases pk_ix z (show sp j < 2 ^ 31 by omega) with e3 | e3 | ⟨k, hk2, rfl⟩
        · refine lv_if_lt (tgt := 33) hx hb dP_rank_21 (by decide) (fun h5 => ?_) (fun h5 => absurd e3 h5)
          refine lv_iconst (v := nI 0) hx hb dP_rank_33 (by decide) ?_
          obtain ⟨g1, g2⟩ := q4 j hj rfl (Or.inl e3)
          exact W.zret (v := nI 0) hx hb hr (by decide) (fun t9 ht9 hW9 => ⟨some (.int (nI 0)), rfl, by rw [ht9]; exact ⟨by rw [g1], by rw [g2]; exact hR0, FrC.rf⟩⟩) (fun q h => absurd h List.not_mem_nil) dP_rank_34
        · refine lv_if_lt (tgt := 33) hx hb dP_rank_21 (by decide) (fun h6 => absurd (Int32.lt_of_le_of_lt e3 h6) (nI_pos (by omega))) (fun h6 => ?_)
          refine lv_iload_n hx hb dP_rank_24 rfl (lv_at hl 4 rfl) ?_
          refine lv_aload hx hb dP_rank_25 (lv_at hl 0 rfl) ?_
          refine va_getN (D := D) (ci := 1) (v := .int (nI (sp j))) (C := RS) (T := FS) (N := 7) hx hb hT inS hown hK hP 3 rfl rfl 1 (by decide) (va_Nw.use rfl (kN74 hE.2.1)) (fun _ h9 => h9) rfl dP_rank_27 ?_
          refine lv_icmp_lt (tgt := 35) hx hb dP_rank_30 (by decide) (fun h7 => absurd (Int32.lt_of_le_of_lt e3 h7) (fun q => Int32.lt_irrefl q)) (fun h7 => ?_)
          refine lv_iconst (v := nI 0) hx hb dP_rank_33 (by decide) ?_
          obtain ⟨g1, g2⟩ := q4 j hj rfl (Or.inr e3)
          exact W.zret (v := nI 0) hx hb hr (by decide) (fun t9 ht9 hW9 => ⟨some (.int (nI 0)), rfl, by rw [ht9]; exact ⟨by rw [g1], by rw [g2]; exact hR0, FrC.rf⟩⟩) (fun q h => absurd h List.not_mem_nil) dP_rank_34
        · refine x_zlt (a := k) (tgt := 33) hx hb dP_rank_21 (by decide) (by omega) ?_
          refine lv_iload_n hx hb dP_rank_24 rfl (lv_at hl 4 rfl) ?_
          refine lv_aload hx hb dP_rank_25 (lv_at hl 0 rfl) ?_
          refine va_getN (D := D) (ci := 1) (v := .int (nI (sp j))) (C := RS) (T := FS) (N := 7) hx hb hT inS hown hK hP 3 rfl rfl 1 (by decide) (va_Nw.use rfl (kN74 hE.2.1)) (fun _ h9 => h9) rfl dP_rank_27 ?_
          refine x_clt (a := k) (b := sp j) (tgt := 35) hx hb dP_rank_30 (by decide) (by omega) (by omega) (fun h9 => ?_) (fun h9 => absurd h9 (by omega))
          refine lv_iload hx hb dP_rank_35 (lv_at hl 5 rfl) ?_
          refine lv_iconst (v := nI 1) hx hb dP_rank_37 (by decide) ?_
          rcases pk_ix w (show sp j + 1 < 2 ^ 31 by omega) with e4 | e4 | ⟨v, hv, rfl⟩
          · refine lv_icmp_lt (tgt := 72) hx hb dP_rank_38 (by decide) (fun h10 => ?_) (fun h10 => absurd (Int32.lt_trans e4 (by decide)) h10)
            refine lv_iconst (v := nI 0) hx hb dP_rank_72 (by decide) ?_
            obtain ⟨g1, g2⟩ := q5 j hj rfl (Or.inl (Int32.lt_trans e4 (by decide)))
            exact W.zret (v := nI 0) hx hb hr (by decide) (fun t9 ht9 hW9 => ⟨some (.int (nI 0)), rfl, by rw [ht9]; exact ⟨by rw [g1], by rw [g2]; exact hR0, FrC.rf⟩⟩) (fun q h => absurd h List.not_mem_nil) dP_rank_73
          · have e5 : nI (sp j) < w := Int32.lt_of_lt_of_le (nI_lt (by omega) (by omega)) e4
            refine lv_icmp_lt (tgt := 72) hx hb dP_rank_38 (by decide) (fun h11 => absurd (Int32.lt_of_le_of_lt e4 h11) (nI_nlt (by omega) (by omega))) (fun h11 => ?_)
            refine lv_iload hx hb dP_rank_41 (lv_at hl 5 rfl) ?_
            refine lv_aload hx hb dP_rank_43 (lv_at hl 0 rfl) ?_
            refine va_getN (D := D) (ci := 1) (v := .int (nI (sp j))) (C := RS) (T := FS) (N := 7) hx hb hT inS hown hK hP 3 rfl rfl 1 (by decide) (va_Nw.use rfl (kN74 hE.2.1)) (fun _ h9 => h9) rfl dP_rank_45 ?_
            refine lv_icmp_gt (tgt := 72) hx hb dP_rank_48 (by decide) (fun h12 => ?_) (fun h12 => absurd e5 h12)
            refine lv_iconst (v := nI 0) hx hb dP_rank_72 (by decide) ?_
            obtain ⟨g1, g2⟩ := q5 j hj rfl (Or.inr e5)
            exact W.zret (v := nI 0) hx hb hr (by decide) (fun t9 ht9 hW9 => ⟨some (.int (nI 0)), rfl, by rw [ht9]; exact ⟨by rw [g1], by rw [g2]; exact hR0, FrC.rf⟩⟩) (fun q h => absurd h List.not_mem_nil) dP_rank_73
          · refine x_clt (a := v) (b := 1) (tgt := 72) hx hb dP_rank_38 (by decide) (by omega) (by omega) (fun g4 => ?_) (fun g4 => ?_)
            · refine lv_iconst (v := nI 0) hx hb dP_rank_72 (by decide) ?_
              obtain ⟨g1, g2⟩ := q5 j hj rfl (Or.inl (nI_lt (by omega) (by decide)))
              exact W.zret (v := nI 0) hx hb hr (by decide) (fun t9 ht9 hW9 => ⟨some (.int (nI 0)), rfl, by rw [ht9]; exact ⟨by rw [g1], by rw [g2]; exact hR0, FrC.rf⟩⟩) (fun q h => absurd h List.not_mem_nil) dP_rank_73
            · refine lv_iload hx hb dP_rank_41 (lv_at hl 5 rfl) ?_
              refine lv_aload hx hb dP_rank_43 (lv_at hl 0 rfl) ?_
              refine va_getN (D := D) (ci := 1) (v := .int (nI (sp j))) (C := RS) (T := FS) (N := 7) hx hb hT inS hown hK hP 3 rfl rfl 1 (by decide) (va_Nw.use rfl (kN74 hE.2.1)) (fun _ h9 => h9) rfl dP_rank_45 ?_
              refine x_cgt (a := v) (b := sp j) (tgt := 72) hx hb dP_rank_48 (by decide) (by omega) (by omega) (fun h13 => absurd h13 (by omega)) (fun h13 => ?_)
              refine lv_aload hx hb dP_rank_51 (lv_at hl 0 rfl) ?_
              refine lv_iload_n hx hb dP_rank_53 rfl (lv_at hl 3 rfl) ?_
              refine lv_iload_n hx hb dP_rank_54 rfl (lv_at hl 4 rfl) ?_
              have hrb := hrk (i * 5 + k) (by omega)
              refine x_callP (v := .int (nI (rk j (i * 5 + k)))) (va_runS (As := [.ref (bS j), .int (nI i), .int (nI k)]) (rest := []) ⟨hx, hb, hml, hown, hT⟩ (c_P_rankOf l D κ base s.heap (hP.sub [3, 4] rfl) i k hi26 (by omega)) (va_cwS 3 hT (TT_S kP117 ktP_rankOf knP kcP_rankOf) rfl rfl rfl (by decide +kernel) ⟨Nat.le_of_ble_eq_true rfl, Nat.le_of_ble_eq_true rfl⟩) (pcS hE hS hAb) rfl rfl hl.1 rfl (lv_room (Nat.le_of_ble_eq_true rfl)) dP_rank_55 ⟨Nat.le_of_ble_eq_true rfl, Nat.le_of_ble_eq_true rfl⟩) ?_
              refine x_zne (a := rk j (i * 5 + k)) (tgt := 72) hx hb dP_rank_58 (by decide) (by omega) (fun g5 => ?_) (fun g5 => ?_)
              · refine lv_iconst (v := nI 0) hx hb dP_rank_72 (by decide) ?_
                obtain ⟨g1, g2⟩ := q6 j i k v hj hi hk2 rfl rfl rfl rfl (by omega) (by omega) (Or.inl g5)
                exact W.zret (v := nI 0) hx hb hr (by decide) (fun t9 ht9 hW9 => ⟨some (.int (nI 0)), rfl, by rw [ht9]; exact ⟨by rw [g1], by rw [g2]; exact hR0, FrC.rf⟩⟩) (fun q h => absurd h List.not_mem_nil) dP_rank_73
              · refine lv_aload hx hb dP_rank_61 (lv_at hl 0 rfl) ?_
                refine lv_iload_n hx hb dP_rank_63 rfl (lv_at hl 3 rfl) ?_
                refine lv_iload hx hb dP_rank_64 (lv_at hl 5 rfl) ?_
                by_cases hg : ∃ n, n < sp j ∧ rk j (i * 5 + n) = v
                · refine x_callP (v := .int (nI 1)) (va_runS (As := [.ref (bS j), .int (nI i), .int (nI v)]) (rest := []) ⟨hx, hb, hml, hown, hT⟩ (c_P_hasGiven l D κ base s.heap (hP.sub [3, 4] rfl) hsp.2.2 i (nI v) hi26 1 (fun _ => rfl) (fun h => by obtain ⟨n, h1, h2⟩ := hg; exact absurd (show nI (rk j (i * 5 + n)) = nI v by rw [h2]) (h n h1))) (va_cwS 3 hT (TT_S kP120 ktP_hasGiven knP kcP_hasGiven) rfl rfl rfl (by decide +kernel) ⟨Nat.le_of_ble_eq_true rfl, Nat.le_of_ble_eq_true rfl⟩) (pcS hE hS hAb) rfl rfl hl.1 rfl (lv_room (Nat.le_of_ble_eq_true rfl)) dP_rank_66 ⟨Nat.le_of_ble_eq_true rfl, Nat.le_of_ble_eq_true rfl⟩) ?_
                  refine x_zeq (a := 1) (tgt := 74) hx hb dP_rank_69 (by decide) (by omega) (fun h14 => absurd h14 (by decide)) (fun h14 => ?_)
                  refine lv_iconst (v := nI 0) hx hb dP_rank_72 (by decide) ?_
                  obtain ⟨g1, g2⟩ := q6 j i k v hj hi hk2 rfl rfl rfl rfl (by omega) (by omega) (Or.inr hg)
                  exact W.zret (v := nI 0) hx hb hr (by decide) (fun t9 ht9 hW9 => ⟨some (.int (nI 0)), rfl, by rw [ht9]; exact ⟨by rw [g1], by rw [g2]; exact hR0, FrC.rf⟩⟩) (fun q h => absurd h List.not_mem_nil) dP_rank_73
                · refine x_callP (v := .int (nI 0)) (va_runS (As := [.ref (bS j), .int (nI i), .int (nI v)]) (rest := []) ⟨hx, hb, hml, hown, hT⟩ (c_P_hasGiven l D κ base s.heap (hP.sub [3, 4] rfl) hsp.2.2 i (nI v) hi26 0 (fun h => by obtain ⟨n, h1, h2⟩ := h; exact absurd ⟨n, h1, nI_inj (by have := hrk (i * 5 + n) (by omega); omega) (by omega) h2⟩ hg) (fun _ => rfl)) (va_cwS 3 hT (TT_S kP120 ktP_hasGiven knP kcP_hasGiven) rfl rfl rfl (by decide +kernel) ⟨Nat.le_of_ble_eq_true rfl, Nat.le_of_ble_eq_true rfl⟩) (pcS hE hS hAb) rfl rfl hl.1 rfl (lv_room (Nat.le_of_ble_eq_true rfl)) dP_rank_66 ⟨Nat.le_of_ble_eq_true rfl, Nat.le_of_ble_eq_true rfl⟩) ?_
                  refine x_zeq (a := 0) (tgt := 74) hx hb dP_rank_69 (by decide) (by omega) (fun h15 => ?_) (fun h15 => absurd rfl h15)
                  obtain ⟨g1, g2⟩ := q7 j i k v hj hi hk2 rfl rfl rfl rfl (by omega) (by omega) hk g5 hg
                  have hnd : ([(a, .inr (2, [.long sd, .ref (a + 1), .ref (a + 2), .int (nI nT), .int (nI nS), .ref (a + 3), .ref (a + 4)])), ((a + 1), .inl (κ 3, 26, .inr (.inr (.inr (.inr fT))))), ((a + 2), .inl (κ 4, 40, .inr (.inr (.inr (.inr fS))))), ((bS j), .inr (1, [.int (nI (kd j)), .int (nI (sp j)), .ref ((bS j) + 1), .ref ((bS j) + 2), .ref ((bS j) + 3), .int (nI (ca j)), .int (nI (cr j))])), (((bS j) + 3), .inl (κ 0, 130, .inl (fun x => nI (rk j x))))] : va_W).map Prod.fst |>.Nodup := by simp only [List.map, List.nodup_cons, List.mem_cons, List.not_mem_nil, or_false, not_or, List.nodup_nil, and_true, not_false_eq_true, List.forall_mem_cons, forall_eq_or_imp, forall_eq]; omega
                  have hD0 : va_D (fun q => base ≤ q) [(a, .inr (2, [.long sd, .ref (a + 1), .ref (a + 2), .int (nI nT), .int (nI nS), .ref (a + 3), .ref (a + 4)])), ((a + 1), .inl (κ 3, 26, .inr (.inr (.inr (.inr fT))))), ((a + 2), .inl (κ 4, 40, .inr (.inr (.inr (.inr fS))))), ((bS j), .inr (1, [.int (nI (kd j)), .int (nI (sp j)), .ref ((bS j) + 1), .ref ((bS j) + 2), .ref ((bS j) + 3), .int (nI (ca j)), .int (nI (cr j))])), (((bS j) + 3), .inl (κ 0, 130, .inl (fun x => nI (rk j x))))] := D_of hnd (by simp only [List.map, List.nodup_cons, List.mem_cons, List.not_mem_nil, or_false, not_or, List.nodup_nil, and_true, not_false_eq_true, List.forall_mem_cons, forall_eq_or_imp, forall_eq]; omega)
                  have hD := hD0.self (sz := s.heap.size)
                  have hAb : ∀ x9, va_A [(a, .inr (2, [.long sd, .ref (a + 1), .ref (a + 2), .int (nI nT), .int (nI nS), .ref (a + 3), .ref (a + 4)])), ((a + 1), .inl (κ 3, 26, .inr (.inr (.inr (.inr fT))))), ((a + 2), .inl (κ 4, 40, .inr (.inr (.inr (.inr fS))))), ((bS j), .inr (1, [.int (nI (kd j)), .int (nI (sp j)), .ref ((bS j) + 1), .ref ((bS j) + 2), .ref ((bS j) + 3), .int (nI (ca j)), .int (nI (cr j))])), (((bS j) + 3), .inl (κ 0, 130, .inl (fun x => nI (rk j x))))] s.heap.size x9 → base ≤ x9 := fun x9 h => by rcases h with ⟨k9, e9, h⟩ | h; exact hD0.2 k9 _ h; exact Nat.le_trans hbs h
                  have hAq : ∀ x9, va_A [(a, .inr (2, [.long sd, .ref (a + 1), .ref (a + 2), .int (nI nT), .int (nI nS), .ref (a + 3), .ref (a + 4)])), ((a + 1), .inl (κ 3, 26, .inr (.inr (.inr (.inr fT))))), ((a + 2), .inl (κ 4, 40, .inr (.inr (.inr (.inr fS))))), ((bS j), .inr (1, [.int (nI (kd j)), .int (nI (sp j)), .ref ((bS j) + 1), .ref ((bS j) + 2), .ref ((bS j) + 3), .int (nI (ca j)), .int (nI (cr j))])), (((bS j) + 3), .inl (κ 0, 130, .inl (fun x => nI (rk j x))))] s.heap.size x9 → (x9 = a ∨ x9 = (a + 1) ∨ x9 = (a + 2) ∨ x9 = (bS j) ∨ x9 = ((bS j) + 3)) ∨ s.heap.size ≤ x9 := fun x9 h => by have := A_addr h; simpa only [List.map, List.mem_cons, List.not_mem_nil, or_false] using this
                  have hAO : ∀ x9, va_A [(a, .inr (2, [.long sd, .ref (a + 1), .ref (a + 2), .int (nI nT), .int (nI nS), .ref (a + 3), .ref (a + 4)])), ((a + 1), .inl (κ 3, 26, .inr (.inr (.inr (.inr fT))))), ((a + 2), .inl (κ 4, 40, .inr (.inr (.inr (.inr fS))))), ((bS j), .inr (1, [.int (nI (kd j)), .int (nI (sp j)), .ref ((bS j) + 1), .ref ((bS j) + 2), .ref ((bS j) + 3), .int (nI (ca j)), .int (nI (cr j))])), (((bS j) + 3), .inl (κ 0, 130, .inl (fun x => nI (rk j x))))] s.heap.size x9 → OwnC a nT nS bT bS s.heap.size x9 := fun x9 h => by exact ownS hj (by have := hAq x9 h; omega)
                  generalize hAe : va_A [(a, .inr (2, [.long sd, .ref (a + 1), .ref (a + 2), .int (nI nT), .int (nI nS), .ref (a + 3), .ref (a + 4)])), ((a + 1), .inl (κ 3, 26, .inr (.inr (.inr (.inr fT))))), ((a + 2), .inl (κ 4, 40, .inr (.inr (.inr (.inr fS))))), ((bS j), .inr (1, [.int (nI (kd j)), .int (nI (sp j)), .ref ((bS j) + 1), .ref ((bS j) + 2), .ref ((bS j) + 3), .int (nI (ca j)), .int (nI (cr j))])), (((bS j) + 3), .inl (κ 0, 130, .inl (fun x => nI (rk j x))))] s.heap.size = A at hD hAb hAq hAO
                  have hA : ∀ x9, s.heap.size ≤ x9 → A x9 := fun x9 h => by rw [← hAe]; exact Or.inr h
                  have hS : va_S A s.heap s.heap [] := va_S.rf
                  refine lv_aload hx hb dP_rank_74 (lv_at hl 0 rfl) ?_
                  refine va_getN (D := D) (ci := 1) (v := .ref ((bS j) + 3)) (C := RS) (T := FS) (N := 7) hx hb hT inS hown hK hP 3 rfl rfl 4 (by decide) (va_Nw.use rfl (kN124 hE.2.1)) (fun _ h9 => h9) rfl dP_rank_76 ?_
                  refine lv_iload_n hx hb dP_rank_79 rfl (lv_at hl 3 rfl) ?_
                  refine lv_iconst (v := nI 5) hx hb dP_rank_80 (by decide) ?_
                  refine x_imul (v := nI (i * 5)) hx hb dP_rank_81 (pk_mul _ _) ?_
                  refine lv_iload_n hx hb dP_rank_82 rfl (lv_at hl 4 rfl) ?_
                  refine x_iadd (v := nI ((i * 5) + k)) hx hb dP_rank_83 (nI_add _ _) ?_
                  refine lv_iload hx hb dP_rank_84 (lv_at hl 5 rfl) ?_
                  refine x_iast hx hb hK hP hD hS 4 0 (j := (i * 5) + k) rfl rfl (by omega) (by decide) dP_rank_86 (fun H locs hP hD hS => ?_)
                  have hP : va_P D vwCl [(a, .inr (2, [.long sd, .ref (a + 1), .ref (a + 2), .int (nI nT), .int (nI nS), .ref (a + 3), .ref (a + 4)])), ((a + 1), .inl (κ 3, 26, .inr (.inr (.inr (.inr fT))))), ((a + 2), .inl (κ 4, 40, .inr (.inr (.inr (.inr fS))))), ((bS j), .inr (1, [.int (nI (kd j)), .int (nI (sp j)), .ref ((bS j) + 1), .ref ((bS j) + 2), .ref ((bS j) + 3), .int (nI (ca j)), .int (nI (cr j))])), (((bS j) + 3), .inl (κ 0, 130, .inl (upd (fun x => nI (rk j x)) ((i * 5) + k) (nI v))))] H := hP
                  have hD : va_D A [(a, .inr (2, [.long sd, .ref (a + 1), .ref (a + 2), .int (nI nT), .int (nI nS), .ref (a + 3), .ref (a + 4)])), ((a + 1), .inl (κ 3, 26, .inr (.inr (.inr (.inr fT))))), ((a + 2), .inl (κ 4, 40, .inr (.inr (.inr (.inr fS))))), ((bS j), .inr (1, [.int (nI (kd j)), .int (nI (sp j)), .ref ((bS j) + 1), .ref ((bS j) + 2), .ref ((bS j) + 3), .int (nI (ca j)), .int (nI (cr j))])), (((bS j) + 3), .inl (κ 0, 130, .inl (upd (fun x => nI (rk j x)) ((i * 5) + k) (nI v))))] := hD
                  refine lv_iconst (v := nI 1) hx hb dP_rank_87 (by decide) ?_
                  exact W.zret (v := nI 1) hx hb hr (by decide) (fun t9 ht9 hW9 => ⟨some (.int (nI 1)), rfl, by rw [ht9]; exact ⟨by rw [g1], by rw [g2]; exact RC_rank hR0 hj (by omega) hAq hS.1 hS.2.1 hfT hfS hP, ⟨hS.1, fun q h1 h2 => hS.2.1 q h1 (fun z => h2 (hAO q z))⟩⟩⟩) (fun q h => hAO _ (hS.2.2 q h)) dP_rank_88
    · refine lv_aload_n hx hb dP_rank_0 rfl (lv_at hl 0 rfl) ?_
      refine lv_iload_n hx hb dP_rank_1 rfl (lv_at hl 1 rfl) ?_
      refine x_callP (v := .null) (va_runV (As := [.int (nI j)]) (rest := []) ⟨hx, hb, hml, hown, hT⟩ (c_P_rankingAt_some l D κ base s.heap (hP.sub [0, 2, 3] rfl) j hj4 (by rw [hfS j hj4, if_pos hj]) (hb1 j hj).1.lt.1 (.null) (fun _ => rfl) (fun q => absurd q hk)) (cwV 1 hT (TT_V kP114 kiP_rankingAt ksP_rankingAt knP kcP_rankingAt) rfl rfl rfl (by decide +kernel) ⟨Nat.le_of_ble_eq_true rfl, Nat.le_of_ble_eq_true rfl⟩) (pcV hE hS hAb (va_recv hK hP (ci := 2) (q0 := 0) rfl rfl)) rfl rfl hl.1 rfl (lv_room (Nat.le_of_ble_eq_true rfl)) dP_rank_2 ⟨Nat.le_of_ble_eq_true rfl, Nat.le_of_ble_eq_true rfl⟩) ?_
      refine lv_astoreN (lv' := [(5, .null), (0, .ref a), (1, .int (nI j)), (2, .int y), (3, .int z), (4, .int w)]) hx hb dP_rank_5 hl (by decide) rfl (fun ls hl => ?_)
      refine lv_aloadN hx hb dP_rank_7 (lv_at hl 0 rfl) ?_
      refine lv_ifnullN (tgt := 33) hx hb dP_rank_9 (by decide) ?_
      refine lv_iconst (v := nI 0) hx hb dP_rank_33 (by decide) ?_
      obtain ⟨g1, g2⟩ := q3 j hj rfl hk
      exact W.zret (v := nI 0) hx hb hr (by decide) (fun t9 ht9 hW9 => ⟨some (.int (nI 0)), rfl, by rw [ht9]; exact ⟨by rw [g1], by rw [g2]; exact hR0, FrC.rf⟩⟩) (fun q h => absurd h List.not_mem_nil) dP_rank_34
theorem cntO_k {k n : Nat} (hk : k < 3) : cntO k n = cntO k 0 := by
  rcases (show k = 0 ∨ k = 1 ∨ k = 2 by omega) with rfl | rfl | rfl <;> rfl
theorem rgtN_lt {k o : Nat} (hk : k < 3) (ho : o < cntO k 0) : rgtN k o < 3 := by
  rcases (show k = 0 ∨ k = 1 ∨ k = 2 by omega) with rfl | rfl | rfl
  · have : ∀ o, o < 6 → rgtN 0 o < 3 := by decide
    exact this o ho
  · have : ∀ o, o < 2 → rgtN 1 o < 3 := by decide
    exact this o ho
  · have : ∀ o, o < 4 → rgtN 2 o < 3 := by decide
    exact this o ho
set_option maxHeartbeats 400000 in
set_option maxRecDepth 100000 in
theorem c_P_answer (l : Launch) (D : va_G) (κ : Nat → ClassId) (base : Nat) (H0 : Heap) {a : Nat} {sd : Int64} {nT nS : Nat} {bT bS : Nat → Nat} {td fd : Nat → Nat → Nat} {ta tr kd sp ca cr : Nat → Nat} {od aw rk : Nat → Nat → Nat} (hR : RC D κ base a sd nT nS bT bS td fd ta tr kd sp ca cr od aw rk H0) (x y z : Int32) (r : Nat) (aw2 : Nat → Nat → Nat) (ca2 cr2 ta2 tr2 : Nat → Nat) (q1 : noS nS x → r = 0 ∧ aw2 = aw ∧ ca2 = ca ∧ cr2 = cr ∧ ta2 = ta ∧ tr2 = tr) (q2 : noT nT y → r = 0 ∧ aw2 = aw ∧ ca2 = ca ∧ cr2 = cr ∧ ta2 = ta ∧ tr2 = tr) (q3 : ∀ j, j < nS → x = nI j → kd j = 3 → r = 0 ∧ aw2 = aw ∧ ca2 = ca ∧ cr2 = cr ∧ ta2 = ta ∧ tr2 = tr) (q4 : ∀ j, j < nS → x = nI j → (z < 0 ∨ nI (sp j) ≤ z) → r = 0 ∧ aw2 = aw ∧ ca2 = ca ∧ cr2 = cr ∧ ta2 = ta ∧ tr2 = tr) (q5 : ∀ j i, j < nS → i < nT → x = nI j → y = nI i → ¬ aw j i = 0 → r = 0 ∧ aw2 = aw ∧ ca2 = ca ∧ cr2 = cr ∧ ta2 = ta ∧ tr2 = tr) (q6 : ∀ j i k, j < nS → i < nT → k < sp j → x = nI j → y = nI i → z = nI k → ¬ kd j = 3 → aw j i = 0 → (ca j + 1 ≤ 26 ∧ ta i + 1 ≤ 40) ∧ r = 1 ∧ aw2 = u2 aw j i 1 ∧ ca2 = u1 ca j (ca j + 1) ∧ ta2 = u1 ta i (ta i + 1) ∧ (k = rgtN (kd j) (od j i) → cr2 = u1 cr j (cr j + 1) ∧ tr2 = u1 tr i (tr i + 1)) ∧ (k ≠ rgtN (kd j) (od j i) → cr2 = u1 cr j (cr j) ∧ tr2 = u1 tr i (tr i))) : Met l yP_answer wP_answer ({ frames := 2, cells := 0, slots := 0, locals := 43 }) (Pq D κ base [.ref a, .int x, .int y, .int z] H0) (q_W (fun v H => v = some (.int (nI r)) ∧ RC D κ base a sd nT nS bT bS td fd ta2 tr2 kd sp ca2 cr2 od aw2 rk H ∧ FrC a nT nS bT bS H0 H)) 0 0 (OwnC a nT nS bT bS H0.size) := by
  refine Met.ofW (cc := bP_answer) (maxL := 6) (ret := (some FieldType.boolean)) (by decide) rfl ?_
  intro p e s m args below meth c s₁ B hml hv
  obtain ⟨rfl, hH, hE⟩ := hv
  subst hH
  have hx := B.exec
  have hb := B.bytes
  have hr := B.returns
  have hT : ∀ w ∈ TT, w.before _ s = true := fun w h => atoms_spec (ws := wP_answer) B.pre w (List.mem_cons_of_mem _ h)
  have hown : s.vm.findClass "TasterPanels" = some m.cls := findClass_of_methodNamed B.named
  have hlocks := B.notSynchronized
  have hK := hE.1
  have hS : va_S (fun q => base ≤ q) s.heap s.heap [] := va_S.rf
  have hAb : ∀ q : Nat, (fun q : Nat => base ≤ q) q → base ≤ q := fun _ h => h
  have hl := lv_entry ([.ref a, .int x, .int y, .int z]) (n := 6) (Nat.le_of_ble_eq_true rfl)
  rw [lg_entry_eq]
  generalize (lg_sl ([.ref a, .int x, .int y, .int z]) ++ List.replicate (6 - (lg_sl ([.ref a, .int x, .int y, .int z])).length) Slot.unset).toArray = ls at hl ⊢
  have hl : lv_has ls 6 [(0, .ref a), (1, .int x), (2, .int y), (3, .int z)] := hl
  have hR0 := hR
  obtain ⟨⟨fT, fS, mx, sw, hP, hfT, hfS⟩, hTas, hTes, hbd⟩ := hR
  obtain ⟨⟨hnT, hnS, hba, hah⟩, hb1, hb2, hs1, hs2, hs3, hs4, hs5⟩ := hbd
  have hbs : base ≤ s.heap.size := by omega
  have hOb : ∀ x9, OwnC a nT nS bT bS s.heap.size x9 → base ≤ x9 := fun x9 h => OwnC.base hba (by omega) hs1 hs2 h
  have hS : va_S (OwnC a nT nS bT bS s.heap.size) s.heap s.heap [] := va_S.rf
  have hAb := hOb
  rcases whoS nS x with e1 | ⟨j, hj, hj4, rfl⟩
  · refine lv_aload_n hx hb dP_answer_0 rfl (lv_at hl 0 rfl) ?_
    refine lv_iload_n hx hb dP_answer_1 rfl (lv_at hl 1 rfl) ?_
    refine x_callP (v := .null) (va_runV (As := [.int x]) (rest := []) ⟨hx, hb, hml, hown, hT⟩ (c_P_differenceAt_none l D κ base s.heap (hP.sub [0, 2] rfl) x (noS_fr e1 hfS)) (cwV 1 hT (TT_V kP71 kiP_differenceAt ksP_differenceAt knP kcP_differenceAt) rfl rfl rfl (by decide +kernel) ⟨Nat.le_of_ble_eq_true rfl, Nat.le_of_ble_eq_true rfl⟩) (pcV hE hS hAb (va_recv hK hP (ci := 2) (q0 := 0) rfl rfl)) rfl rfl hl.1 rfl (lv_room (Nat.le_of_ble_eq_true rfl)) dP_answer_2 ⟨Nat.le_of_ble_eq_true rfl, Nat.le_of_ble_eq_true rfl⟩) ?_
    refine lv_astoreN (lv' := [(4, .null), (0, .ref a), (1, .int x), (2, .int y), (3, .int z)]) hx hb dP_answer_5 hl (by decide) rfl (fun ls hl => ?_)
    refine lv_aload_n hx hb dP_answer_7 rfl (lv_at hl 1 rfl) ?_
    refine lv_iload_n hx hb dP_answer_8 rfl (lv_at hl 3 rfl) ?_
    rcases whoT nT y with e2 | ⟨i, hi, hi26, rfl⟩
    · refine x_callP (v := .null) (va_runV (As := [.int y]) (rest := []) ⟨hx, hb, hml, hown, hT⟩ (c_P_tasterAt l D κ base s.heap (hP.sub [0, 1] rfl) y .null (fun _ => rfl) (none_at (by decide) (noT_fr e2 hfT))) (cwV 1 hT (TT_V kP56 kiP_tasterAt ksP_tasterAt knP kcP_tasterAt) rfl rfl rfl (by decide +kernel) ⟨Nat.le_of_ble_eq_true rfl, Nat.le_of_ble_eq_true rfl⟩) (pcV hE hS hAb (va_recv hK hP (ci := 2) (q0 := 0) rfl rfl)) rfl rfl hl.1 rfl (lv_room (Nat.le_of_ble_eq_true rfl)) dP_answer_9 ⟨Nat.le_of_ble_eq_true rfl, Nat.le_of_ble_eq_true rfl⟩) ?_
      refine lv_astoreN (lv' := [(5, .null), (4, .null), (0, .ref a), (1, .int x), (2, .int y), (3, .int z)]) hx hb dP_answer_12 hl (by decide) rfl (fun ls hl => ?_)
      refine lv_aloadN hx hb dP_answer_14 (lv_at hl 1 rfl) ?_
      refine lv_ifnullN (tgt := 47) hx hb dP_answer_16 (by decide) ?_
      refine lv_iconst (v := nI 0) hx hb dP_answer_47 (by decide) ?_
      obtain ⟨g1, rfl, rfl, rfl, rfl, rfl⟩ := q1 e1
      exact W.zret (v := nI 0) hx hb hr (by decide) (fun t9 ht9 hW9 => ⟨some (.int (nI 0)), rfl, by rw [ht9]; exact ⟨by rw [g1], hR0, FrC.rf⟩⟩) (fun q h => absurd h List.not_mem_nil) dP_answer_48
    · refine x_callP (v := .ref (bT i)) (va_runV (As := [.int (nI i)]) (rest := []) ⟨hx, hb, hml, hown, hT⟩ (c_P_tasterAt l D κ base s.heap (hP.sub [0, 1] rfl) (nI i) (.ref (bT i)) (fun h => at_out (by decide) hi26 h rfl) (some_at (by decide) hi26 (by rw [hfT i hi26, if_pos hi]))) (cwV 1 hT (TT_V kP56 kiP_tasterAt ksP_tasterAt knP kcP_tasterAt) rfl rfl rfl (by decide +kernel) ⟨Nat.le_of_ble_eq_true rfl, Nat.le_of_ble_eq_true rfl⟩) (pcV hE hS hAb (va_recv hK hP (ci := 2) (q0 := 0) rfl rfl)) rfl rfl hl.1 rfl (lv_room (Nat.le_of_ble_eq_true rfl)) dP_answer_9 ⟨Nat.le_of_ble_eq_true rfl, Nat.le_of_ble_eq_true rfl⟩) ?_
      refine lv_astore (lv' := [(5, .ref (bT i)), (4, .null), (0, .ref a), (1, .int x), (2, .int (nI i)), (3, .int z)]) hx hb dP_answer_12 hl (by decide) rfl (fun ls hl => ?_)
      refine lv_aloadN hx hb dP_answer_14 (lv_at hl 1 rfl) ?_
      refine lv_ifnullN (tgt := 47) hx hb dP_answer_16 (by decide) ?_
      refine lv_iconst (v := nI 0) hx hb dP_answer_47 (by decide) ?_
      obtain ⟨g1, rfl, rfl, rfl, rfl, rfl⟩ := q1 e1
      exact W.zret (v := nI 0) hx hb hr (by decide) (fun t9 ht9 hW9 => ⟨some (.int (nI 0)), rfl, by rw [ht9]; exact ⟨by rw [g1], hR0, FrC.rf⟩⟩) (fun q h => absurd h List.not_mem_nil) dP_answer_48
  · have hP : va_P D vwCl [(a, .inr (2, [.long sd, .ref (a + 1), .ref (a + 2), .int (nI nT), .int (nI nS), .ref (a + 3), .ref (a + 4)])), ((a + 1), .inl (κ 3, 26, .inr (.inr (.inr (.inr fT))))), ((a + 2), .inl (κ 4, 40, .inr (.inr (.inr (.inr fS))))), ((bS j), .inr (1, [.int (nI (kd j)), .int (nI (sp j)), .ref ((bS j) + 1), .ref ((bS j) + 2), .ref ((bS j) + 3), .int (nI (ca j)), .int (nI (cr j))])), (((bS j) + 1), .inl (κ 0, 26, .inl (fun i => nI (od j i)))), (((bS j) + 2), .inl (κ 1, 26, .inl (fun i => nI (aw j i))))] s.heap := va_P.app (hP.sub [0, 1, 2] rfl) ((hTes j hj).sub [0, 1, 2] rfl)
    have b2 := hs2 j hj
    obtain ⟨hok, hca, hcr, hoa, -⟩ := hb1 j hj
    have hsp := hok.lt
    by_cases hk : kd j = 3
    · refine lv_aload_n hx hb dP_answer_0 rfl (lv_at hl 0 rfl) ?_
      refine lv_iload_n hx hb dP_answer_1 rfl (lv_at hl 1 rfl) ?_
      refine x_callP (v := .null) (va_runV (As := [.int (nI j)]) (rest := []) ⟨hx, hb, hml, hown, hT⟩ (c_P_differenceAt_some l D κ base s.heap (hP.sub [0, 2, 3] rfl) j hj4 (by rw [hfS j hj4, if_pos hj]) (hb1 j hj).1.lt.1 (.null) (fun _ => rfl) (fun q => absurd hk q)) (cwV 1 hT (TT_V kP71 kiP_differenceAt ksP_differenceAt knP kcP_differenceAt) rfl rfl rfl (by decide +kernel) ⟨Nat.le_of_ble_eq_true rfl, Nat.le_of_ble_eq_true rfl⟩) (pcV hE hS hAb (va_recv hK hP (ci := 2) (q0 := 0) rfl rfl)) rfl rfl hl.1 rfl (lv_room (Nat.le_of_ble_eq_true rfl)) dP_answer_2 ⟨Nat.le_of_ble_eq_true rfl, Nat.le_of_ble_eq_true rfl⟩) ?_
      refine lv_astoreN (lv' := [(4, .null), (0, .ref a), (1, .int (nI j)), (2, .int y), (3, .int z)]) hx hb dP_answer_5 hl (by decide) rfl (fun ls hl => ?_)
      refine lv_aload_n hx hb dP_answer_7 rfl (lv_at hl 1 rfl) ?_
      refine lv_iload_n hx hb dP_answer_8 rfl (lv_at hl 3 rfl) ?_
      rcases whoT nT y with e2 | ⟨i, hi, hi26, rfl⟩
      · refine x_callP (v := .null) (va_runV (As := [.int y]) (rest := []) ⟨hx, hb, hml, hown, hT⟩ (c_P_tasterAt l D κ base s.heap (hP.sub [0, 1] rfl) y .null (fun _ => rfl) (none_at (by decide) (noT_fr e2 hfT))) (cwV 1 hT (TT_V kP56 kiP_tasterAt ksP_tasterAt knP kcP_tasterAt) rfl rfl rfl (by decide +kernel) ⟨Nat.le_of_ble_eq_true rfl, Nat.le_of_ble_eq_true rfl⟩) (pcV hE hS hAb (va_recv hK hP (ci := 2) (q0 := 0) rfl rfl)) rfl rfl hl.1 rfl (lv_room (Nat.le_of_ble_eq_true rfl)) dP_answer_9 ⟨Nat.le_of_ble_eq_true rfl, Nat.le_of_ble_eq_true rfl⟩) ?_
        refine lv_astoreN (lv' := [(5, .null), (4, .null), (0, .ref a), (1, .int (nI j)), (2, .int y), (3, .int z)]) hx hb dP_answer_12 hl (by decide) rfl (fun ls hl => ?_)
        refine lv_aloadN hx hb dP_answer_14 (lv_at hl 1 rfl) ?_
        refine lv_ifnullN (tgt := 47) hx hb dP_answer_16 (by decide) ?_
        refine lv_iconst (v := nI 0) hx hb dP_answer_47 (by decide) ?_
        obtain ⟨g1, rfl, rfl, rfl, rfl, rfl⟩ := q3 j hj rfl hk
        exact W.zret (v := nI 0) hx hb hr (by decide) (fun t9 ht9 hW9 => ⟨some (.int (nI 0)), rfl, by rw [ht9]; exact ⟨by rw [g1], hR0, FrC.rf⟩⟩) (fun q h => absurd h List.not_mem_nil) dP_answer_48
      · refine x_callP (v := .ref (bT i)) (va_runV (As := [.int (nI i)]) (rest := []) ⟨hx, hb, hml, hown, hT⟩ (c_P_tasterAt l D κ base s.heap (hP.sub [0, 1] rfl) (nI i) (.ref (bT i)) (fun h => at_out (by decide) hi26 h rfl) (some_at (by decide) hi26 (by rw [hfT i hi26, if_pos hi]))) (cwV 1 hT (TT_V kP56 kiP_tasterAt ksP_tasterAt knP kcP_tasterAt) rfl rfl rfl (by decide +kernel) ⟨Nat.le_of_ble_eq_true rfl, Nat.le_of_ble_eq_true rfl⟩) (pcV hE hS hAb (va_recv hK hP (ci := 2) (q0 := 0) rfl rfl)) rfl rfl hl.1 rfl (lv_room (Nat.le_of_ble_eq_true rfl)) dP_answer_9 ⟨Nat.le_of_ble_eq_true rfl, Nat.le_of_ble_eq_true rfl⟩) ?_
        refine lv_astore (lv' := [(5, .ref (bT i)), (4, .null), (0, .ref a), (1, .int (nI j)), (2, .int (nI i)), (3, .int z)]) hx hb dP_answer_12 hl (by decide) rfl (fun ls hl => ?_)
        refine lv_aloadN hx hb dP_answer_14 (lv_at hl 1 rfl) ?_
        refine lv_ifnullN (tgt := 47) hx hb dP_answer_16 (by decide) ?_
        refine lv_iconst (v := nI 0) hx hb dP_answer_47 (by decide) ?_
        obtain ⟨g1, rfl, rfl, rfl, rfl, rfl⟩ := q3 j hj rfl hk
        exact W.zret (v := nI 0) hx hb hr (by decide) (fun t9 ht9 hW9 => ⟨some (.int (nI 0)), rfl, by rw [ht9]; exact ⟨by rw [g1], hR0, FrC.rf⟩⟩) (fun q h => absurd h List.not_mem_nil) dP_answer_48
    · refine lv_aload_n hx hb dP_answer_0 rfl (lv_at hl 0 rfl) ?_
      refine lv_iload_n hx hb dP_answer_1 rfl (lv_at hl 1 rfl) ?_
      refine x_callP (v := .ref (bS j)) (va_runV (As := [.int (nI j)]) (rest := []) ⟨hx, hb, hml, hown, hT⟩ (c_P_differenceAt_some l D κ base s.heap (hP.sub [0, 2, 3] rfl) j hj4 (by rw [hfS j hj4, if_pos hj]) (hb1 j hj).1.lt.1 (.ref (bS j)) (fun q => absurd q hk) (fun _ => rfl)) (cwV 1 hT (TT_V kP71 kiP_differenceAt ksP_differenceAt knP kcP_differenceAt) rfl rfl rfl (by decide +kernel) ⟨Nat.le_of_ble_eq_true rfl, Nat.le_of_ble_eq_true rfl⟩) (pcV hE hS hAb (va_recv hK hP (ci := 2) (q0 := 0) rfl rfl)) rfl rfl hl.1 rfl (lv_room (Nat.le_of_ble_eq_true rfl)) dP_answer_2 ⟨Nat.le_of_ble_eq_true rfl, Nat.le_of_ble_eq_true rfl⟩) ?_
      refine lv_astore (lv' := [(4, .ref (bS j)), (0, .ref a), (1, .int (nI j)), (2, .int y), (3, .int z)]) hx hb dP_answer_5 hl (by decide) rfl (fun ls hl => ?_)
      refine lv_aload_n hx hb dP_answer_7 rfl (lv_at hl 1 rfl) ?_
      refine lv_iload_n hx hb dP_answer_8 rfl (lv_at hl 3 rfl) ?_
      rcases whoT nT y with e2 | ⟨i, hi, hi26, rfl⟩
      · refine x_callP (v := .null) (va_runV (As := [.int y]) (rest := []) ⟨hx, hb, hml, hown, hT⟩ (c_P_tasterAt l D κ base s.heap (hP.sub [0, 1] rfl) y .null (fun _ => rfl) (none_at (by decide) (noT_fr e2 hfT))) (cwV 1 hT (TT_V kP56 kiP_tasterAt ksP_tasterAt knP kcP_tasterAt) rfl rfl rfl (by decide +kernel) ⟨Nat.le_of_ble_eq_true rfl, Nat.le_of_ble_eq_true rfl⟩) (pcV hE hS hAb (va_recv hK hP (ci := 2) (q0 := 0) rfl rfl)) rfl rfl hl.1 rfl (lv_room (Nat.le_of_ble_eq_true rfl)) dP_answer_9 ⟨Nat.le_of_ble_eq_true rfl, Nat.le_of_ble_eq_true rfl⟩) ?_
        refine lv_astoreN (lv' := [(5, .null), (4, .ref (bS j)), (0, .ref a), (1, .int (nI j)), (2, .int y), (3, .int z)]) hx hb dP_answer_12 hl (by decide) rfl (fun ls hl => ?_)
        refine lv_aload hx hb dP_answer_14 (lv_at hl 1 rfl) ?_
        refine lv_ifnull hx hb dP_answer_16 ?_
        refine lv_aloadN hx hb dP_answer_19 (lv_at hl 0 rfl) ?_
        refine lv_ifnullN (tgt := 47) hx hb dP_answer_21 (by decide) ?_
        refine lv_iconst (v := nI 0) hx hb dP_answer_47 (by decide) ?_
        obtain ⟨g1, rfl, rfl, rfl, rfl, rfl⟩ := q2 e2
        exact W.zret (v := nI 0) hx hb hr (by decide) (fun t9 ht9 hW9 => ⟨some (.int (nI 0)), rfl, by rw [ht9]; exact ⟨by rw [g1], hR0, FrC.rf⟩⟩) (fun q h => absurd h List.not_mem_nil) dP_answer_48
      · refine x_callP (v := .ref (bT i)) (va_runV (As := [.int (nI i)]) (rest := []) ⟨hx, hb, hml, hown, hT⟩ (c_P_tasterAt l D κ base s.heap (hP.sub [0, 1] rfl) (nI i) (.ref (bT i)) (fun h => at_out (by decide) hi26 h rfl) (some_at (by decide) hi26 (by rw [hfT i hi26, if_pos hi]))) (cwV 1 hT (TT_V kP56 kiP_tasterAt ksP_tasterAt knP kcP_tasterAt) rfl rfl rfl (by decide +kernel) ⟨Nat.le_of_ble_eq_true rfl, Nat.le_of_ble_eq_true rfl⟩) (pcV hE hS hAb (va_recv hK hP (ci := 2) (q0 := 0) rfl rfl)) rfl rfl hl.1 rfl (lv_room (Nat.le_of_ble_eq_true rfl)) dP_answer_9 ⟨Nat.le_of_ble_eq_true rfl, Nat.le_of_ble_eq_true rfl⟩) ?_
        have b1 := hs1 i hi
        have b3 := hs5 i j hi hj
        obtain ⟨ht1, ht2, -⟩ := hb2 i hi
        obtain ⟨ho, haw⟩ := hoa i hi26
        have hP : va_P D vwCl [(a, .inr (2, [.long sd, .ref (a + 1), .ref (a + 2), .int (nI nT), .int (nI nS), .ref (a + 3), .ref (a + 4)])), ((a + 1), .inl (κ 3, 26, .inr (.inr (.inr (.inr fT))))), ((a + 2), .inl (κ 4, 40, .inr (.inr (.inr (.inr fS))))), ((bS j), .inr (1, [.int (nI (kd j)), .int (nI (sp j)), .ref ((bS j) + 1), .ref ((bS j) + 2), .ref ((bS j) + 3), .int (nI (ca j)), .int (nI (cr j))])), (((bS j) + 1), .inl (κ 0, 26, .inl (fun i => nI (od j i)))), (((bS j) + 2), .inl (κ 1, 26, .inl (fun i => nI (aw j i)))), ((bT i), .inr (0, [.ref ((bT i) + 1), .ref ((bT i) + 2), .int (nI (ta i)), .int (nI (tr i))]))] s.heap := va_P.app hP ((hTas i hi).sub [0] rfl)
        refine lv_astore (lv' := [(5, .ref (bT i)), (4, .ref (bS j)), (0, .ref a), (1, .int (nI j)), (2, .int (nI i)), (3, .int z)]) hx hb dP_answer_12 hl (by decide) rfl (fun ls hl => ?_)
        refine lv_aload hx hb dP_answer_14 (lv_at hl 1 rfl) ?_
        refine lv_ifnull hx hb dP_answer_16 ?_
        refine lv_aload hx hb dP_answer_19 (lv_at hl 0 rfl) ?_
        refine lv_ifnull hx hb dP_answer_21 ?_
        refine lv_iload_n hx hb dP_answer_24 rfl (lv_at hl 5 rfl) ?_
        rcases pk_ix z (show sp j < 2 ^ 31 by omega) with e3 | e3 | ⟨k, hk2, rfl⟩
        · refine lv_if_lt (tgt := 47) hx hb dP_answer_25 (by decide) (fun h9 => ?_) (fun h9 => absurd e3 h9)
          refine lv_iconst (v := nI 0) hx hb dP_answer_47 (by decide) ?_
          obtain ⟨g1, rfl, rfl, rfl, rfl, rfl⟩ := q4 j hj rfl (Or.inl e3)
          exact W.zret (v := nI 0) hx hb hr (by decide) (fun t9 ht9 hW9 => ⟨some (.int (nI 0)), rfl, by rw [ht9]; exact ⟨by rw [g1], hR0, FrC.rf⟩⟩) (fun q h => absurd h List.not_mem_nil) dP_answer_48
        · refine lv_if_lt (tgt := 47) hx hb dP_answer_25 (by decide) (fun h10 => absurd (Int32.lt_of_le_of_lt e3 h10) (nI_pos (by omega))) (fun h10 => ?_)
          refine lv_iload_n hx hb dP_answer_28 rfl (lv_at hl 5 rfl) ?_
          refine lv_aload hx hb dP_answer_29 (lv_at hl 1 rfl) ?_
          refine va_getN (D := D) (ci := 1) (v := .int (nI (sp j))) (C := RS) (T := FS) (N := 7) hx hb hT inS hown hK hP 3 rfl rfl 1 (by decide) (va_Nw.use rfl (kN74 hE.2.1)) (fun _ h9 => h9) rfl dP_answer_31 ?_
          refine lv_icmp_ge (tgt := 47) hx hb dP_answer_34 (by decide) (fun h11 => ?_) (fun h11 => absurd e3 h11)
          refine lv_iconst (v := nI 0) hx hb dP_answer_47 (by decide) ?_
          obtain ⟨g1, rfl, rfl, rfl, rfl, rfl⟩ := q4 j hj rfl (Or.inr e3)
          exact W.zret (v := nI 0) hx hb hr (by decide) (fun t9 ht9 hW9 => ⟨some (.int (nI 0)), rfl, by rw [ht9]; exact ⟨by rw [g1], hR0, FrC.rf⟩⟩) (fun q h => absurd h List.not_mem_nil) dP_answer_48
        · refine x_zlt (a := k) (tgt := 47) hx hb dP_answer_25 (by decide) (by omega) ?_
          refine lv_iload_n hx hb dP_answer_28 rfl (lv_at hl 5 rfl) ?_
          refine lv_aload hx hb dP_answer_29 (lv_at hl 1 rfl) ?_
          refine va_getN (D := D) (ci := 1) (v := .int (nI (sp j))) (C := RS) (T := FS) (N := 7) hx hb hT inS hown hK hP 3 rfl rfl 1 (by decide) (va_Nw.use rfl (kN74 hE.2.1)) (fun _ h9 => h9) rfl dP_answer_31 ?_
          refine x_cge (a := k) (b := sp j) (tgt := 47) hx hb dP_answer_34 (by decide) (by omega) (by omega) (fun h13 => absurd h13 (by omega)) (fun h13 => ?_)
          refine lv_aload hx hb dP_answer_37 (lv_at hl 1 rfl) ?_
          refine va_getN (D := D) (ci := 1) (v := .ref ((bS j) + 2)) (C := RS) (T := FS) (N := 7) hx hb hT inS hown hK hP 3 rfl rfl 3 (by decide) (va_Nw.use rfl (kN77 hE.2.1)) (fun _ h9 => h9) rfl dP_answer_39 ?_
          refine lv_iload_n hx hb dP_answer_42 rfl (lv_at hl 4 rfl) ?_
          refine x_zald hx hb hK hP 5 1 (j := i) (v := nI (aw j i)) rfl rfl (by omega) (by decide) (rfl) dP_answer_43 ?_
          refine x_zeq (a := aw j i) (tgt := 49) hx hb dP_answer_44 (by decide) (by omega) (fun g5 => ?_) (fun g5 => ?_)
          · obtain ⟨⟨c1, c2⟩, g1, g2, g3, g4, gy, gn⟩ := q6 j i k hj hi hk2 rfl rfl rfl hk g5
            have hrg := cntO_le hok
            have hko : od j i < cntO (kd j) 0 := by rw [← cntO_k (n := sp j) (show kd j < 3 by omega)]; exact ho
            have hrN := rgtN_lt (show kd j < 3 by omega) hko
            have hnd : ([(a, .inr (2, [.long sd, .ref (a + 1), .ref (a + 2), .int (nI nT), .int (nI nS), .ref (a + 3), .ref (a + 4)])), ((a + 1), .inl (κ 3, 26, .inr (.inr (.inr (.inr fT))))), ((a + 2), .inl (κ 4, 40, .inr (.inr (.inr (.inr fS))))), ((bS j), .inr (1, [.int (nI (kd j)), .int (nI (sp j)), .ref ((bS j) + 1), .ref ((bS j) + 2), .ref ((bS j) + 3), .int (nI (ca j)), .int (nI (cr j))])), (((bS j) + 1), .inl (κ 0, 26, .inl (fun i => nI (od j i)))), (((bS j) + 2), .inl (κ 1, 26, .inl (fun i => nI (aw j i)))), ((bT i), .inr (0, [.ref ((bT i) + 1), .ref ((bT i) + 2), .int (nI (ta i)), .int (nI (tr i))]))] : va_W).map Prod.fst |>.Nodup := by simp only [List.map, List.nodup_cons, List.mem_cons, List.not_mem_nil, or_false, not_or, List.nodup_nil, and_true, not_false_eq_true, List.forall_mem_cons, forall_eq_or_imp, forall_eq]; omega
            have hD0 : va_D (fun q => base ≤ q) [(a, .inr (2, [.long sd, .ref (a + 1), .ref (a + 2), .int (nI nT), .int (nI nS), .ref (a + 3), .ref (a + 4)])), ((a + 1), .inl (κ 3, 26, .inr (.inr (.inr (.inr fT))))), ((a + 2), .inl (κ 4, 40, .inr (.inr (.inr (.inr fS))))), ((bS j), .inr (1, [.int (nI (kd j)), .int (nI (sp j)), .ref ((bS j) + 1), .ref ((bS j) + 2), .ref ((bS j) + 3), .int (nI (ca j)), .int (nI (cr j))])), (((bS j) + 1), .inl (κ 0, 26, .inl (fun i => nI (od j i)))), (((bS j) + 2), .inl (κ 1, 26, .inl (fun i => nI (aw j i)))), ((bT i), .inr (0, [.ref ((bT i) + 1), .ref ((bT i) + 2), .int (nI (ta i)), .int (nI (tr i))]))] := D_of hnd (by simp only [List.map, List.nodup_cons, List.mem_cons, List.not_mem_nil, or_false, not_or, List.nodup_nil, and_true, not_false_eq_true, List.forall_mem_cons, forall_eq_or_imp, forall_eq]; omega)
            have hD := hD0.self (sz := s.heap.size)
            have hAb : ∀ x9, va_A [(a, .inr (2, [.long sd, .ref (a + 1), .ref (a + 2), .int (nI nT), .int (nI nS), .ref (a + 3), .ref (a + 4)])), ((a + 1), .inl (κ 3, 26, .inr (.inr (.inr (.inr fT))))), ((a + 2), .inl (κ 4, 40, .inr (.inr (.inr (.inr fS))))), ((bS j), .inr (1, [.int (nI (kd j)), .int (nI (sp j)), .ref ((bS j) + 1), .ref ((bS j) + 2), .ref ((bS j) + 3), .int (nI (ca j)), .int (nI (cr j))])), (((bS j) + 1), .inl (κ 0, 26, .inl (fun i => nI (od j i)))), (((bS j) + 2), .inl (κ 1, 26, .inl (fun i => nI (aw j i)))), ((bT i), .inr (0, [.ref ((bT i) + 1), .ref ((bT i) + 2), .int (nI (ta i)), .int (nI (tr i))]))] s.heap.size x9 → base ≤ x9 := fun x9 h => by rcases h with ⟨k9, e9, h⟩ | h; exact hD0.2 k9 _ h; exact Nat.le_trans hbs h
            have hAq : ∀ x9, va_A [(a, .inr (2, [.long sd, .ref (a + 1), .ref (a + 2), .int (nI nT), .int (nI nS), .ref (a + 3), .ref (a + 4)])), ((a + 1), .inl (κ 3, 26, .inr (.inr (.inr (.inr fT))))), ((a + 2), .inl (κ 4, 40, .inr (.inr (.inr (.inr fS))))), ((bS j), .inr (1, [.int (nI (kd j)), .int (nI (sp j)), .ref ((bS j) + 1), .ref ((bS j) + 2), .ref ((bS j) + 3), .int (nI (ca j)), .int (nI (cr j))])), (((bS j) + 1), .inl (κ 0, 26, .inl (fun i => nI (od j i)))), (((bS j) + 2), .inl (κ 1, 26, .inl (fun i => nI (aw j i)))), ((bT i), .inr (0, [.ref ((bT i) + 1), .ref ((bT i) + 2), .int (nI (ta i)), .int (nI (tr i))]))] s.heap.size x9 → (x9 = a ∨ x9 = (a + 1) ∨ x9 = (a + 2) ∨ x9 = (bS j) ∨ x9 = ((bS j) + 1) ∨ x9 = ((bS j) + 2) ∨ x9 = (bT i)) ∨ s.heap.size ≤ x9 := fun x9 h => by have := A_addr h; simpa only [List.map, List.mem_cons, List.not_mem_nil, or_false] using this
            have hAO : ∀ x9, va_A [(a, .inr (2, [.long sd, .ref (a + 1), .ref (a + 2), .int (nI nT), .int (nI nS), .ref (a + 3), .ref (a + 4)])), ((a + 1), .inl (κ 3, 26, .inr (.inr (.inr (.inr fT))))), ((a + 2), .inl (κ 4, 40, .inr (.inr (.inr (.inr fS))))), ((bS j), .inr (1, [.int (nI (kd j)), .int (nI (sp j)), .ref ((bS j) + 1), .ref ((bS j) + 2), .ref ((bS j) + 3), .int (nI (ca j)), .int (nI (cr j))])), (((bS j) + 1), .inl (κ 0, 26, .inl (fun i => nI (od j i)))), (((bS j) + 2), .inl (κ 1, 26, .inl (fun i => nI (aw j i)))), ((bT i), .inr (0, [.ref ((bT i) + 1), .ref ((bT i) + 2), .int (nI (ta i)), .int (nI (tr i))]))] s.heap.size x9 → OwnC a nT nS bT bS s.heap.size x9 := fun x9 h => by exact ownTS hi hj (by have := hAq x9 h; omega)
            generalize hAe : va_A [(a, .inr (2, [.long sd, .ref (a + 1), .ref (a + 2), .int (nI nT), .int (nI nS), .ref (a + 3), .ref (a + 4)])), ((a + 1), .inl (κ 3, 26, .inr (.inr (.inr (.inr fT))))), ((a + 2), .inl (κ 4, 40, .inr (.inr (.inr (.inr fS))))), ((bS j), .inr (1, [.int (nI (kd j)), .int (nI (sp j)), .ref ((bS j) + 1), .ref ((bS j) + 2), .ref ((bS j) + 3), .int (nI (ca j)), .int (nI (cr j))])), (((bS j) + 1), .inl (κ 0, 26, .inl (fun i => nI (od j i)))), (((bS j) + 2), .inl (κ 1, 26, .inl (fun i => nI (aw j i)))), ((bT i), .inr (0, [.ref ((bT i) + 1), .ref ((bT i) + 2), .int (nI (ta i)), .int (nI (tr i))]))] s.heap.size = A at hD hAb hAq hAO
            have hA : ∀ x9, s.heap.size ≤ x9 → A x9 := fun x9 h => by rw [← hAe]; exact Or.inr h
            have hS : va_S A s.heap s.heap [] := va_S.rf
            refine lv_aload hx hb dP_answer_49 (lv_at hl 1 rfl) ?_
            refine va_getN (D := D) (ci := 1) (v := .ref ((bS j) + 2)) (C := RS) (T := FS) (N := 7) hx hb hT inS hown hK hP 3 rfl rfl 3 (by decide) (va_Nw.use rfl (kN77 hE.2.1)) (fun _ h9 => h9) rfl dP_answer_51 ?_
            refine lv_iload_n hx hb dP_answer_54 rfl (lv_at hl 4 rfl) ?_
            refine lv_iconst (v := nI 1) hx hb dP_answer_55 (by decide) ?_
            refine x_zast hx hb hK hP hD hS 5 1 (j := i) rfl rfl (by omega) (by decide) (by decide) dP_answer_56 (fun H locs hP hD hS => ?_)
            have hP : va_P D vwCl [(a, .inr (2, [.long sd, .ref (a + 1), .ref (a + 2), .int (nI nT), .int (nI nS), .ref (a + 3), .ref (a + 4)])), ((a + 1), .inl (κ 3, 26, .inr (.inr (.inr (.inr fT))))), ((a + 2), .inl (κ 4, 40, .inr (.inr (.inr (.inr fS))))), ((bS j), .inr (1, [.int (nI (kd j)), .int (nI (sp j)), .ref ((bS j) + 1), .ref ((bS j) + 2), .ref ((bS j) + 3), .int (nI (ca j)), .int (nI (cr j))])), (((bS j) + 1), .inl (κ 0, 26, .inl (fun i => nI (od j i)))), (((bS j) + 2), .inl (κ 1, 26, .inl (upd (fun i => nI (aw j i)) i (nI 1)))), ((bT i), .inr (0, [.ref ((bT i) + 1), .ref ((bT i) + 2), .int (nI (ta i)), .int (nI (tr i))]))] H := hP
            have hD : va_D A [(a, .inr (2, [.long sd, .ref (a + 1), .ref (a + 2), .int (nI nT), .int (nI nS), .ref (a + 3), .ref (a + 4)])), ((a + 1), .inl (κ 3, 26, .inr (.inr (.inr (.inr fT))))), ((a + 2), .inl (κ 4, 40, .inr (.inr (.inr (.inr fS))))), ((bS j), .inr (1, [.int (nI (kd j)), .int (nI (sp j)), .ref ((bS j) + 1), .ref ((bS j) + 2), .ref ((bS j) + 3), .int (nI (ca j)), .int (nI (cr j))])), (((bS j) + 1), .inl (κ 0, 26, .inl (fun i => nI (od j i)))), (((bS j) + 2), .inl (κ 1, 26, .inl (upd (fun i => nI (aw j i)) i (nI 1)))), ((bT i), .inr (0, [.ref ((bT i) + 1), .ref ((bT i) + 2), .int (nI (ta i)), .int (nI (tr i))]))] := hD
            refine lv_aload hx hb dP_answer_57 (lv_at hl 1 rfl) ?_
            refine lv_dup hx hb dP_answer_59 rfl ?_
            refine va_getN (D := D) (ci := 1) (v := .int (nI (ca j))) (C := RS) (T := FS) (N := 7) hx hb hT inS hown hK hP 3 rfl rfl 5 (by decide) (va_Nw.use rfl (kN81 hE.2.1)) (fun _ h9 => h9) rfl dP_answer_60 ?_
            refine lv_iconst (v := nI 1) hx hb dP_answer_63 (by decide) ?_
            refine x_iadd (v := nI ((ca j) + 1)) hx hb dP_answer_64 (nI_add _ _) ?_
            refine va_putN (D := D) (ci := 1) (v := .int (nI ((ca j) + 1))) (ty := .int) (C := RS) (T := FS) (N := 7) hx hb hT inS tyS tyS_ok nmS hown hK hP hD hS 3 rfl rfl 5 (by decide) (va_Nw.use rfl (kN81 hE.2.1)) (fun _ h9 => h9) rfl (by decide +kernel) rfl rfl (Nat.le_of_ble_eq_true rfl) dP_answer_65 (fun H locs hP hD hS => ?_)
            have hP : va_P D vwCl [(a, .inr (2, [.long sd, .ref (a + 1), .ref (a + 2), .int (nI nT), .int (nI nS), .ref (a + 3), .ref (a + 4)])), ((a + 1), .inl (κ 3, 26, .inr (.inr (.inr (.inr fT))))), ((a + 2), .inl (κ 4, 40, .inr (.inr (.inr (.inr fS))))), ((bS j), .inr (1, [.int (nI (kd j)), .int (nI (sp j)), .ref ((bS j) + 1), .ref ((bS j) + 2), .ref ((bS j) + 3), .int (nI ((ca j) + 1)), .int (nI (cr j))])), (((bS j) + 1), .inl (κ 0, 26, .inl (fun i => nI (od j i)))), (((bS j) + 2), .inl (κ 1, 26, .inl (upd (fun i => nI (aw j i)) i (nI 1)))), ((bT i), .inr (0, [.ref ((bT i) + 1), .ref ((bT i) + 2), .int (nI (ta i)), .int (nI (tr i))]))] H := hP
            have hD : va_D A [(a, .inr (2, [.long sd, .ref (a + 1), .ref (a + 2), .int (nI nT), .int (nI nS), .ref (a + 3), .ref (a + 4)])), ((a + 1), .inl (κ 3, 26, .inr (.inr (.inr (.inr fT))))), ((a + 2), .inl (κ 4, 40, .inr (.inr (.inr (.inr fS))))), ((bS j), .inr (1, [.int (nI (kd j)), .int (nI (sp j)), .ref ((bS j) + 1), .ref ((bS j) + 2), .ref ((bS j) + 3), .int (nI ((ca j) + 1)), .int (nI (cr j))])), (((bS j) + 1), .inl (κ 0, 26, .inl (fun i => nI (od j i)))), (((bS j) + 2), .inl (κ 1, 26, .inl (upd (fun i => nI (aw j i)) i (nI 1)))), ((bT i), .inr (0, [.ref ((bT i) + 1), .ref ((bT i) + 2), .int (nI (ta i)), .int (nI (tr i))]))] := hD
            refine lv_aload hx hb dP_answer_68 (lv_at hl 0 rfl) ?_
            refine lv_dup hx hb dP_answer_70 rfl ?_
            refine va_getN (D := D) (ci := 0) (v := .int (nI (ta i))) (C := RT) (T := FT) (N := 4) hx hb hT inT hown hK hP 6 rfl rfl 2 (by decide) (va_Nw.use rfl (kN84 hE.2.1)) (fun _ h9 => h9) rfl dP_answer_71 ?_
            refine lv_iconst (v := nI 1) hx hb dP_answer_74 (by decide) ?_
            refine x_iadd (v := nI ((ta i) + 1)) hx hb dP_answer_75 (nI_add _ _) ?_
            refine va_putN (D := D) (ci := 0) (v := .int (nI ((ta i) + 1))) (ty := .int) (C := RT) (T := FT) (N := 4) hx hb hT inT tyT tyT_ok nmT hown hK hP hD hS 6 rfl rfl 2 (by decide) (va_Nw.use rfl (kN84 hE.2.1)) (fun _ h9 => h9) rfl (by decide +kernel) rfl rfl (Nat.le_of_ble_eq_true rfl) dP_answer_76 (fun H locs hP hD hS => ?_)
            have hP : va_P D vwCl [(a, .inr (2, [.long sd, .ref (a + 1), .ref (a + 2), .int (nI nT), .int (nI nS), .ref (a + 3), .ref (a + 4)])), ((a + 1), .inl (κ 3, 26, .inr (.inr (.inr (.inr fT))))), ((a + 2), .inl (κ 4, 40, .inr (.inr (.inr (.inr fS))))), ((bS j), .inr (1, [.int (nI (kd j)), .int (nI (sp j)), .ref ((bS j) + 1), .ref ((bS j) + 2), .ref ((bS j) + 3), .int (nI ((ca j) + 1)), .int (nI (cr j))])), (((bS j) + 1), .inl (κ 0, 26, .inl (fun i => nI (od j i)))), (((bS j) + 2), .inl (κ 1, 26, .inl (upd (fun i => nI (aw j i)) i (nI 1)))), ((bT i), .inr (0, [.ref ((bT i) + 1), .ref ((bT i) + 2), .int (nI ((ta i) + 1)), .int (nI (tr i))]))] H := hP
            have hD : va_D A [(a, .inr (2, [.long sd, .ref (a + 1), .ref (a + 2), .int (nI nT), .int (nI nS), .ref (a + 3), .ref (a + 4)])), ((a + 1), .inl (κ 3, 26, .inr (.inr (.inr (.inr fT))))), ((a + 2), .inl (κ 4, 40, .inr (.inr (.inr (.inr fS))))), ((bS j), .inr (1, [.int (nI (kd j)), .int (nI (sp j)), .ref ((bS j) + 1), .ref ((bS j) + 2), .ref ((bS j) + 3), .int (nI ((ca j) + 1)), .int (nI (cr j))])), (((bS j) + 1), .inl (κ 0, 26, .inl (fun i => nI (od j i)))), (((bS j) + 2), .inl (κ 1, 26, .inl (upd (fun i => nI (aw j i)) i (nI 1)))), ((bT i), .inr (0, [.ref ((bT i) + 1), .ref ((bT i) + 2), .int (nI ((ta i) + 1)), .int (nI (tr i))]))] := hD
            refine lv_iload_n hx hb dP_answer_79 rfl (lv_at hl 5 rfl) ?_
            refine lv_aload hx hb dP_answer_80 (lv_at hl 1 rfl) ?_
            refine va_getN (D := D) (ci := 1) (v := .int (nI (kd j))) (C := RS) (T := FS) (N := 7) hx hb hT inS hown hK hP 3 rfl rfl 0 (by decide) (va_Nw.use rfl (kN85 hE.2.1)) (fun _ h9 => h9) rfl dP_answer_82 ?_
            refine lv_aload hx hb dP_answer_85 (lv_at hl 1 rfl) ?_
            refine va_getN (D := D) (ci := 1) (v := .ref ((bS j) + 1)) (C := RS) (T := FS) (N := 7) hx hb hT inS hown hK hP 3 rfl rfl 2 (by decide) (va_Nw.use rfl (kN64 hE.2.1)) (fun _ h9 => h9) rfl dP_answer_87 ?_
            refine lv_iload_n hx hb dP_answer_90 rfl (lv_at hl 4 rfl) ?_
            refine x_iald hx hb hK hP 4 0 (j := i) (v := nI (od j i)) rfl rfl (by omega) (by decide) (rfl) dP_answer_91 ?_
            refine x_callP (v := .int (nI (rgtN (kd j) (od j i)))) (va_runS (As := [.int (nI (kd j)), .int (nI (od j i))]) (rest := [.int (nI k)]) ⟨hx, hb, hml, hown, hT⟩ (c_P_rightPlace l D κ base H (kd j) (od j i) (by omega) hko) (va_cwS 2 hT (TT_S kP88 ktP_rightPlace knP kcP_rightPlace) rfl rfl rfl (by decide +kernel) ⟨Nat.le_of_ble_eq_true rfl, Nat.le_of_ble_eq_true rfl⟩) (pcS hE hS hAb) rfl rfl hl.1 rfl (lv_room (Nat.le_of_ble_eq_true rfl)) dP_answer_92 ⟨Nat.le_of_ble_eq_true rfl, Nat.le_of_ble_eq_true rfl⟩) ?_
            refine x_cne (a := k) (b := rgtN (kd j) (od j i)) (tgt := 120) hx hb dP_answer_95 (by decide) (by omega) (by omega) (fun g8 => ?_) (fun g8 => ?_)
            · refine lv_iconst (v := nI 1) hx hb dP_answer_120 (by decide) ?_
              obtain ⟨g6, g7⟩ := gn g8
              exact W.zret (v := nI 1) hx hb hr (by decide) (fun t9 ht9 hW9 => ⟨some (.int (nI 1)), rfl, by rw [ht9]; exact ⟨by rw [g1], by rw [g2, g3, g4, g6, g7]; exact RC_answer hR0 hi hi26 hj c1 c2 (by omega) (by omega) hAq hS.1 hS.2.1 hfT hfS (hP.sub [0, 1, 2, 3, 4, 5, 6] rfl), ⟨hS.1, fun q h1 h2 => hS.2.1 q h1 (fun z => h2 (hAO q z))⟩⟩⟩) (fun q h => hAO _ (hS.2.2 q h)) dP_answer_121
            · refine lv_aload hx hb dP_answer_98 (lv_at hl 1 rfl) ?_
              refine lv_dup hx hb dP_answer_100 rfl ?_
              refine va_getN (D := D) (ci := 1) (v := .int (nI (cr j))) (C := RS) (T := FS) (N := 7) hx hb hT inS hown hK hP 3 rfl rfl 6 (by decide) (va_Nw.use rfl (kN92 hE.2.1)) (fun _ h9 => h9) rfl dP_answer_101 ?_
              refine lv_iconst (v := nI 1) hx hb dP_answer_104 (by decide) ?_
              refine x_iadd (v := nI ((cr j) + 1)) hx hb dP_answer_105 (nI_add _ _) ?_
              refine va_putN (D := D) (ci := 1) (v := .int (nI ((cr j) + 1))) (ty := .int) (C := RS) (T := FS) (N := 7) hx hb hT inS tyS tyS_ok nmS hown hK hP hD hS 3 rfl rfl 6 (by decide) (va_Nw.use rfl (kN92 hE.2.1)) (fun _ h9 => h9) rfl (by decide +kernel) rfl rfl (Nat.le_of_ble_eq_true rfl) dP_answer_106 (fun H locs hP hD hS => ?_)
              have hP : va_P D vwCl [(a, .inr (2, [.long sd, .ref (a + 1), .ref (a + 2), .int (nI nT), .int (nI nS), .ref (a + 3), .ref (a + 4)])), ((a + 1), .inl (κ 3, 26, .inr (.inr (.inr (.inr fT))))), ((a + 2), .inl (κ 4, 40, .inr (.inr (.inr (.inr fS))))), ((bS j), .inr (1, [.int (nI (kd j)), .int (nI (sp j)), .ref ((bS j) + 1), .ref ((bS j) + 2), .ref ((bS j) + 3), .int (nI ((ca j) + 1)), .int (nI ((cr j) + 1))])), (((bS j) + 1), .inl (κ 0, 26, .inl (fun i => nI (od j i)))), (((bS j) + 2), .inl (κ 1, 26, .inl (upd (fun i => nI (aw j i)) i (nI 1)))), ((bT i), .inr (0, [.ref ((bT i) + 1), .ref ((bT i) + 2), .int (nI ((ta i) + 1)), .int (nI (tr i))]))] H := hP
              have hD : va_D A [(a, .inr (2, [.long sd, .ref (a + 1), .ref (a + 2), .int (nI nT), .int (nI nS), .ref (a + 3), .ref (a + 4)])), ((a + 1), .inl (κ 3, 26, .inr (.inr (.inr (.inr fT))))), ((a + 2), .inl (κ 4, 40, .inr (.inr (.inr (.inr fS))))), ((bS j), .inr (1, [.int (nI (kd j)), .int (nI (sp j)), .ref ((bS j) + 1), .ref ((bS j) + 2), .ref ((bS j) + 3), .int (nI ((ca j) + 1)), .int (nI ((cr j) + 1))])), (((bS j) + 1), .inl (κ 0, 26, .inl (fun i => nI (od j i)))), (((bS j) + 2), .inl (κ 1, 26, .inl (upd (fun i => nI (aw j i)) i (nI 1)))), ((bT i), .inr (0, [.ref ((bT i) + 1), .ref ((bT i) + 2), .int (nI ((ta i) + 1)), .int (nI (tr i))]))] := hD
              refine lv_aload hx hb dP_answer_109 (lv_at hl 0 rfl) ?_
              refine lv_dup hx hb dP_answer_111 rfl ?_
              refine va_getN (D := D) (ci := 0) (v := .int (nI (tr i))) (C := RT) (T := FT) (N := 4) hx hb hT inT hown hK hP 6 rfl rfl 3 (by decide) (va_Nw.use rfl (kN95 hE.2.1)) (fun _ h9 => h9) rfl dP_answer_112 ?_
              refine lv_iconst (v := nI 1) hx hb dP_answer_115 (by decide) ?_
              refine x_iadd (v := nI ((tr i) + 1)) hx hb dP_answer_116 (nI_add _ _) ?_
              refine va_putN (D := D) (ci := 0) (v := .int (nI ((tr i) + 1))) (ty := .int) (C := RT) (T := FT) (N := 4) hx hb hT inT tyT tyT_ok nmT hown hK hP hD hS 6 rfl rfl 3 (by decide) (va_Nw.use rfl (kN95 hE.2.1)) (fun _ h9 => h9) rfl (by decide +kernel) rfl rfl (Nat.le_of_ble_eq_true rfl) dP_answer_117 (fun H locs hP hD hS => ?_)
              have hP : va_P D vwCl [(a, .inr (2, [.long sd, .ref (a + 1), .ref (a + 2), .int (nI nT), .int (nI nS), .ref (a + 3), .ref (a + 4)])), ((a + 1), .inl (κ 3, 26, .inr (.inr (.inr (.inr fT))))), ((a + 2), .inl (κ 4, 40, .inr (.inr (.inr (.inr fS))))), ((bS j), .inr (1, [.int (nI (kd j)), .int (nI (sp j)), .ref ((bS j) + 1), .ref ((bS j) + 2), .ref ((bS j) + 3), .int (nI ((ca j) + 1)), .int (nI ((cr j) + 1))])), (((bS j) + 1), .inl (κ 0, 26, .inl (fun i => nI (od j i)))), (((bS j) + 2), .inl (κ 1, 26, .inl (upd (fun i => nI (aw j i)) i (nI 1)))), ((bT i), .inr (0, [.ref ((bT i) + 1), .ref ((bT i) + 2), .int (nI ((ta i) + 1)), .int (nI ((tr i) + 1))]))] H := hP
              have hD : va_D A [(a, .inr (2, [.long sd, .ref (a + 1), .ref (a + 2), .int (nI nT), .int (nI nS), .ref (a + 3), .ref (a + 4)])), ((a + 1), .inl (κ 3, 26, .inr (.inr (.inr (.inr fT))))), ((a + 2), .inl (κ 4, 40, .inr (.inr (.inr (.inr fS))))), ((bS j), .inr (1, [.int (nI (kd j)), .int (nI (sp j)), .ref ((bS j) + 1), .ref ((bS j) + 2), .ref ((bS j) + 3), .int (nI ((ca j) + 1)), .int (nI ((cr j) + 1))])), (((bS j) + 1), .inl (κ 0, 26, .inl (fun i => nI (od j i)))), (((bS j) + 2), .inl (κ 1, 26, .inl (upd (fun i => nI (aw j i)) i (nI 1)))), ((bT i), .inr (0, [.ref ((bT i) + 1), .ref ((bT i) + 2), .int (nI ((ta i) + 1)), .int (nI ((tr i) + 1))]))] := hD
              refine lv_iconst (v := nI 1) hx hb dP_answer_120 (by decide) ?_
              obtain ⟨g6, g7⟩ := gy g8
              exact W.zret (v := nI 1) hx hb hr (by decide) (fun t9 ht9 hW9 => ⟨some (.int (nI 1)), rfl, by rw [ht9]; exact ⟨by rw [g1], by rw [g2, g3, g4, g6, g7]; exact RC_answer hR0 hi hi26 hj c1 c2 (by omega) (by omega) hAq hS.1 hS.2.1 hfT hfS (hP.sub [0, 1, 2, 3, 4, 5, 6] rfl), ⟨hS.1, fun q h1 h2 => hS.2.1 q h1 (fun z => h2 (hAO q z))⟩⟩⟩) (fun q h => hAO _ (hS.2.2 q h)) dP_answer_121
          · refine lv_iconst (v := nI 0) hx hb dP_answer_47 (by decide) ?_
            obtain ⟨g1, rfl, rfl, rfl, rfl, rfl⟩ := q5 j i hj hi rfl rfl g5
            exact W.zret (v := nI 0) hx hb hr (by decide) (fun t9 ht9 hW9 => ⟨some (.int (nI 0)), rfl, by rw [ht9]; exact ⟨by rw [g1], hR0, FrC.rf⟩⟩) (fun q h => absurd h List.not_mem_nil) dP_answer_48
