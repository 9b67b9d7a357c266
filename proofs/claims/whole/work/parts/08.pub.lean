/-! the class's public reads -/
def srvN (kd sp : Nat) : Nat := if kd = 2 then 3 else sp
theorem cntO_le {k n : Nat} (h : okN k n) : 0 < cntO k n ∧ cntO k n ≤ 120 := by
  obtain ⟨h1, h2, h3⟩ := h.lt
  rcases (show k = 0 ∨ k = 1 ∨ k = 2 ∨ k = 3 by omega) with rfl | rfl | rfl | rfl
  · exact ⟨by simp [cntO], by simp [cntO]⟩
  · exact ⟨by simp [cntO], by simp [cntO]⟩
  · exact ⟨by simp [cntO], by simp [cntO]⟩
  · rcases (show n = 2 ∨ n = 3 ∨ n = 4 ∨ n = 5 by omega) with rfl | rfl | rfl | rfl <;> exact ⟨by decide, by decide⟩
theorem served_ok {k n o z : Nat} (h : okN k n) (ho : o < cntO k n) (hz : z < srvN k n) : (k = 0 → o < 6 ∧ z < 3) ∧ (k = 1 → o < 2 ∧ z < 2) ∧ (k = 2 → o < 4 ∧ z < 3) ∧ (k = 3 → z < n) ∧ o < 2 ^ 31 := by
  have hc := (cntO_le h).2
  refine ⟨fun e => ?_, fun e => ?_, fun e => ?_, fun e => ?_, by omega⟩
  · subst e
    have : n = 3 := by rcases h with h | h | h <;> omega
    subst this
    exact ⟨ho, hz⟩
  · subst e
    have : n = 2 := by rcases h with h | h | h <;> omega
    subst this
    exact ⟨ho, hz⟩
  · subst e
    exact ⟨ho, hz⟩
  · subst e
    exact hz
def d2 : UInt64 := 4611686018427387904
def thC (td fd : Nat → Nat) : Nat → Option Nat → UInt64
  | 0, none => FP.dconst0
  | 0, some m => FP.ddiv (strv m) d2
  | k + 1, none => if td k = 0 then thC td fd k none else if fd k = 0 then FP.dmul (strv k) d2 else thC td fd k (some k)
  | k + 1, some m => if td k = 0 then thC td fd k (some m) else if fd k = 0 then FP.ddiv (FP.dadd (strv m) (strv k)) d2 else thC td fd k (some k)
theorem th1 : ∀ k, k < 16 → FP.dmul (strv k) 4611686018427387904 &&& 0x7fffffffffffffff ≤ 0x7ff0000000000000 := by decide +kernel
theorem th2 : ∀ k, k < 16 → FP.ddiv (strv k) 4611686018427387904 &&& 0x7fffffffffffffff ≤ 0x7ff0000000000000 := by decide +kernel
theorem th3 : ∀ m, m < 16 → ∀ k, k < 16 → FP.dadd (strv m) (strv k) &&& 0x7fffffffffffffff ≤ 0x7ff0000000000000 := by decide +kernel
theorem th4 : ∀ m, m < 16 → ∀ k, k < 16 → FP.ddiv (FP.dadd (strv m) (strv k)) 4611686018427387904 &&& 0x7fffffffffffffff ≤ 0x7ff0000000000000 := by decide +kernel
def lstI : Option Nat → Int32
  | none => -1
  | some m => nI m
theorem pw_lt2 : ∀ n, n < 27 → ∀ r, r < 28 → 20 * pw_ways r n 2 < 2 ^ 63 := by decide +kernel
theorem pw_lt3 : ∀ n, n < 27 → ∀ r, r < 28 → 20 * pw_ways r n 3 < 2 ^ 63 := by decide +kernel
theorem pw_lt {n r pl : Nat} (hn : n < 27) (hr : r < 28) (hp : pl = 2 ∨ pl = 3) : 20 * pw_ways r n pl < 2 ^ 63 := by
  rcases hp with rfl | rfl
  · exact pw_lt2 n hn r hr
  · exact pw_lt3 n hn r hr
theorem pp_lt2 : ∀ n, n < 27 → 2 ^ n < 2 ^ 63 := by decide +kernel
theorem pp_lt3 : ∀ n, n < 27 → 3 ^ n < 2 ^ 63 := by decide +kernel
theorem pp_lt {n pl : Nat} (hn : n < 27) (hp : pl = 2 ∨ pl = 3) : pl ^ n < 2 ^ 63 := by
  rcases hp with rfl | rfl
  · exact pp_lt2 n hn
  · exact pp_lt3 n hn
def szF (pl w : Nat) : Nat → Nat → Int32
  | 0, _ => -1
  | f + 1, c => if w ≤ pl ^ c then nI c else szF pl w f (c + 1)
def rwF (k : Nat) : Nat → Nat → Nat
  | 0, _ => k + 1
  | f + 1, r => if 20 * pw_ways r k 3 ≤ 3 ^ k then r else rwF k f (r + 1)
theorem sp23 {k n : Nat} (h : okN k n) (hk : ¬ k = 3) : n = 2 ∨ n = 3 := by rcases h with h | h | h <;> omega
set_option maxHeartbeats 400000 in
set_option maxRecDepth 100000 in
theorem c_P_right (l : Launch) (D : va_G) (κ : Nat → ClassId) (base : Nat) (H0 : Heap) {a : Nat} {sd : Int64} {nT nS : Nat} {bT bS : Nat → Nat} {td fd : Nat → Nat → Nat} {ta tr kd sp ca cr : Nat → Nat} {od aw rk : Nat → Nat → Nat} (hR : RC D κ base a sd nT nS bT bS td fd ta tr kd sp ca cr od aw rk H0) (x r : Int32) (h0 : noS nS x → r = -1) (h1 : ∀ j, j < nS → x = nI j → kd j = 3 → r = -1) (h2 : ∀ j, j < nS → x = nI j → ¬ kd j = 3 → r = nI (cr j)) : Met l yP_right wP_right ({ frames := 2, cells := 0, slots := 0, locals := 43 }) (Pq D κ base [.ref a, .int x] H0) (q_P (some (.int r))) 0 0 (fun _ => False) := by
  refine Met.ofW (cc := bP_right) (maxL := 3) (ret := (some FieldType.int)) (by decide) rfl ?_
  intro p e s m args below meth c s₁ B hml hv
  obtain ⟨rfl, hH, hE⟩ := hv
  subst hH
  have hx := B.exec
  have hb := B.bytes
  have hr := B.returns
  have hT : ∀ w ∈ TT, w.before _ s = true := fun w h => atoms_spec (ws := wP_right) B.pre w (List.mem_cons_of_mem _ h)
  have hown : s.vm.findClass "TasterPanels" = some m.cls := findClass_of_methodNamed B.named
  have hlocks := B.notSynchronized
  have hK := hE.1
  have hS : va_S (fun q => base ≤ q) s.heap s.heap [] := va_S.rf
  have hAb : ∀ q : Nat, (fun q : Nat => base ≤ q) q → base ≤ q := fun _ h => h
  have hl := lv_entry ([.ref a, .int x]) (n := 3) (Nat.le_of_ble_eq_true rfl)
  rw [lg_entry_eq]
  generalize (lg_sl ([.ref a, .int x]) ++ List.replicate (3 - (lg_sl ([.ref a, .int x])).length) Slot.unset).toArray = ls at hl ⊢
  have hl : lv_has ls 3 [(0, .ref a), (1, .int x)] := hl
  obtain ⟨⟨fT, fS, mx, sw, hP, hfT, hfS⟩, hTas, hTes, hbd⟩ := hR
  obtain ⟨⟨hnT, hnS, hba, hah⟩, hb1, hb2, hb3⟩ := hbd
  rcases whoS nS x with e1 | ⟨j, hj, hj4, rfl⟩
  · refine lv_aload_n hx hb dP_right_0 rfl (lv_at hl 0 rfl) ?_
    refine lv_iload_n hx hb dP_right_1 rfl (lv_at hl 1 rfl) ?_
    refine x_callP (v := .null) (va_runV (As := [.int x]) (rest := []) ⟨hx, hb, hml, hown, hT⟩ (c_P_differenceAt_none l D κ base s.heap (hP.sub [0, 2] rfl) x (noS_fr e1 hfS)) (cwV 1 hT (TT_V kP71 kiP_differenceAt ksP_differenceAt knP kcP_differenceAt) rfl rfl rfl (by decide +kernel) ⟨Nat.le_of_ble_eq_true rfl, Nat.le_of_ble_eq_true rfl⟩) (pcV hE hS hAb (va_recv hK hP (ci := 2) (q0 := 0) rfl rfl)) rfl rfl hl.1 rfl (lv_room (Nat.le_of_ble_eq_true rfl)) dP_right_2 ⟨Nat.le_of_ble_eq_true rfl, Nat.le_of_ble_eq_true rfl⟩) ?_
    refine lv_astore_nN (lv' := [(2, .null), (0, .ref a), (1, .int x)]) hx hb dP_right_5 rfl hl (by decide) rfl (fun ls hl => ?_)
    refine lv_aload_nN hx hb dP_right_6 rfl (lv_at hl 0 rfl) ?_
    refine lv_ifnonnullN hx hb dP_right_7 ?_
    refine lv_iconst (v := -1) hx hb dP_right_10 (by decide) ?_
    refine lv_goto (tgt := 18) hx hb dP_right_11 (by decide) ?_
    refine x_topi (y := r) ((h0 e1).symm) ?_
    exact W.iret (v := r) hx hb hr (fun t9 ht9 hW9 => ⟨rfl, ht9⟩) (fun q h => absurd h List.not_mem_nil) dP_right_18
  · have hP : va_P D vwCl [(a, .inr (2, [.long sd, .ref (a + 1), .ref (a + 2), .int (nI nT), .int (nI nS), .ref (a + 3), .ref (a + 4)])), ((a + 2), .inl (κ 4, 40, .inr (.inr (.inr (.inr fS))))), ((bS j), .inr (1, [.int (nI (kd j)), .int (nI (sp j)), .ref ((bS j) + 1), .ref ((bS j) + 2), .ref ((bS j) + 3), .int (nI (ca j)), .int (nI (cr j))]))] s.heap := va_P.app (hP.sub [0, 2] rfl) ((hTes j hj).sub [0] rfl)
    by_cases hk : kd j = 3
    · refine lv_aload_n hx hb dP_right_0 rfl (lv_at hl 0 rfl) ?_
      refine lv_iload_n hx hb dP_right_1 rfl (lv_at hl 1 rfl) ?_
      refine x_callP (v := .null) (va_runV (As := [.int (nI j)]) (rest := []) ⟨hx, hb, hml, hown, hT⟩ (c_P_differenceAt_some l D κ base s.heap (hP.sub [0, 1, 2] rfl) j hj4 (by rw [hfS j hj4, if_pos hj]) (hb1 j hj).1.lt.1 (.null) (fun _ => rfl) (fun q => absurd hk q)) (cwV 1 hT (TT_V kP71 kiP_differenceAt ksP_differenceAt knP kcP_differenceAt) rfl rfl rfl (by decide +kernel) ⟨Nat.le_of_ble_eq_true rfl, Nat.le_of_ble_eq_true rfl⟩) (pcV hE hS hAb (va_recv hK hP (ci := 2) (q0 := 0) rfl rfl)) rfl rfl hl.1 rfl (lv_room (Nat.le_of_ble_eq_true rfl)) dP_right_2 ⟨Nat.le_of_ble_eq_true rfl, Nat.le_of_ble_eq_true rfl⟩) ?_
      refine lv_astore_nN (lv' := [(2, .null), (0, .ref a), (1, .int (nI j))]) hx hb dP_right_5 rfl hl (by decide) rfl (fun ls hl => ?_)
      refine lv_aload_nN hx hb dP_right_6 rfl (lv_at hl 0 rfl) ?_
      refine lv_ifnonnullN hx hb dP_right_7 ?_
      refine lv_iconst (v := -1) hx hb dP_right_10 (by decide) ?_
      refine lv_goto (tgt := 18) hx hb dP_right_11 (by decide) ?_
      refine x_topi (y := r) ((h1 j hj rfl hk).symm) ?_
      exact W.iret (v := r) hx hb hr (fun t9 ht9 hW9 => ⟨rfl, ht9⟩) (fun q h => absurd h List.not_mem_nil) dP_right_18
    · refine lv_aload_n hx hb dP_right_0 rfl (lv_at hl 0 rfl) ?_
      refine lv_iload_n hx hb dP_right_1 rfl (lv_at hl 1 rfl) ?_
      refine x_callP (v := .ref (bS j)) (va_runV (As := [.int (nI j)]) (rest := []) ⟨hx, hb, hml, hown, hT⟩ (c_P_differenceAt_some l D κ base s.heap (hP.sub [0, 1, 2] rfl) j hj4 (by rw [hfS j hj4, if_pos hj]) (hb1 j hj).1.lt.1 (.ref (bS j)) (fun q => absurd q hk) (fun _ => rfl)) (cwV 1 hT (TT_V kP71 kiP_differenceAt ksP_differenceAt knP kcP_differenceAt) rfl rfl rfl (by decide +kernel) ⟨Nat.le_of_ble_eq_true rfl, Nat.le_of_ble_eq_true rfl⟩) (pcV hE hS hAb (va_recv hK hP (ci := 2) (q0 := 0) rfl rfl)) rfl rfl hl.1 rfl (lv_room (Nat.le_of_ble_eq_true rfl)) dP_right_2 ⟨Nat.le_of_ble_eq_true rfl, Nat.le_of_ble_eq_true rfl⟩) ?_
      refine lv_astore_n (lv' := [(2, .ref (bS j)), (0, .ref a), (1, .int (nI j))]) hx hb dP_right_5 rfl hl (by decide) rfl (fun ls hl => ?_)
      refine lv_aload_n hx hb dP_right_6 rfl (lv_at hl 0 rfl) ?_
      refine lv_ifnonnull (tgt := 14) hx hb dP_right_7 (by decide) ?_
      refine lv_aload_n hx hb dP_right_14 rfl (lv_at hl 0 rfl) ?_
      refine va_getN (D := D) (ci := 1) (v := .int (nI (cr j))) (C := RS) (T := FS) (N := 7) hx hb hT inS hown hK hP 2 rfl rfl 6 (by decide) (va_Nw.use rfl (kN92 hE.2.1)) (fun _ h9 => h9) rfl dP_right_15 ?_
      refine x_topi (y := r) ((h2 j hj rfl hk).symm) ?_
      exact W.iret (v := r) hx hb hr (fun t9 ht9 hW9 => ⟨rfl, ht9⟩) (fun q h => absurd h List.not_mem_nil) dP_right_18
set_option maxHeartbeats 400000 in
set_option maxRecDepth 100000 in
theorem c_P_order (l : Launch) (D : va_G) (κ : Nat → ClassId) (base : Nat) (H0 : Heap) {a : Nat} {sd : Int64} {nT nS : Nat} {bT bS : Nat → Nat} {td fd : Nat → Nat → Nat} {ta tr kd sp ca cr : Nat → Nat} {od aw rk : Nat → Nat → Nat} (hR : RC D κ base a sd nT nS bT bS td fd ta tr kd sp ca cr od aw rk H0) (x y z r : Int32) (h0 : noS nS x → r = -1) (h1 : noT nT y → r = -1) (h2 : ∀ j, j < nS → x = nI j → (z < 0 ∨ nI (srvN (kd j) (sp j)) ≤ z) → r = -1) (h3 : ∀ j i k, j < nS → i < nT → x = nI j → y = nI i → z = nI k → k < srvN (kd j) (sp j) → r = srvI (kd j) (sp j) (od j i) k) : Met l yP_order wP_order ({ frames := 3, cells := 0, slots := 0, locals := 72 }) (Pq D κ base [.ref a, .int x, .int y, .int z] H0) (q_P (some (.int r))) 0 0 (fun _ => False) := by
  refine Met.ofW (cc := bP_order) (maxL := 5) (ret := (some FieldType.int)) (by decide) rfl ?_
  intro p e s m args below meth c s₁ B hml hv
  obtain ⟨rfl, hH, hE⟩ := hv
  subst hH
  have hx := B.exec
  have hb := B.bytes
  have hr := B.returns
  have hT : ∀ w ∈ TT, w.before _ s = true := fun w h => atoms_spec (ws := wP_order) B.pre w (List.mem_cons_of_mem _ h)
  have hown : s.vm.findClass "TasterPanels" = some m.cls := findClass_of_methodNamed B.named
  have hlocks := B.notSynchronized
  have hK := hE.1
  have hS : va_S (fun q => base ≤ q) s.heap s.heap [] := va_S.rf
  have hAb : ∀ q : Nat, (fun q : Nat => base ≤ q) q → base ≤ q := fun _ h => h
  have hl := lv_entry ([.ref a, .int x, .int y, .int z]) (n := 5) (Nat.le_of_ble_eq_true rfl)
  rw [lg_entry_eq]
  generalize (lg_sl ([.ref a, .int x, .int y, .int z]) ++ List.replicate (5 - (lg_sl ([.ref a, .int x, .int y, .int z])).length) Slot.unset).toArray = ls at hl ⊢
  have hl : lv_has ls 5 [(0, .ref a), (1, .int x), (2, .int y), (3, .int z)] := hl
  obtain ⟨⟨fT, fS, mx, sw, hP, hfT, hfS⟩, hTas, hTes, hbd⟩ := hR
  obtain ⟨⟨hnT, hnS, hba, hah⟩, hb1, hb2, hb3⟩ := hbd
  rcases whoS nS x with e1 | ⟨j, hj, hj4, rfl⟩
  · refine lv_aload_n hx hb dP_order_0 rfl (lv_at hl 0 rfl) ?_
    refine lv_iload_n hx hb dP_order_1 rfl (lv_at hl 1 rfl) ?_
    refine x_callP (v := .null) (va_runV (As := [.int x]) (rest := []) ⟨hx, hb, hml, hown, hT⟩ (c_P_testAt l D κ base s.heap (hP.sub [0, 2] rfl) x .null (fun _ => rfl) (none_at (by decide) (noS_fr e1 hfS))) (cwV 1 hT (TT_V kP52 kiP_testAt ksP_testAt knP kcP_testAt) rfl rfl rfl (by decide +kernel) ⟨Nat.le_of_ble_eq_true rfl, Nat.le_of_ble_eq_true rfl⟩) (pcV hE hS hAb (va_recv hK hP (ci := 2) (q0 := 0) rfl rfl)) rfl rfl hl.1 rfl (lv_room (Nat.le_of_ble_eq_true rfl)) dP_order_2 ⟨Nat.le_of_ble_eq_true rfl, Nat.le_of_ble_eq_true rfl⟩) ?_
    refine lv_astoreN (lv' := [(4, .null), (0, .ref a), (1, .int x), (2, .int y), (3, .int z)]) hx hb dP_order_5 hl (by decide) rfl (fun ls hl => ?_)
    refine lv_aloadN hx hb dP_order_7 (lv_at hl 0 rfl) ?_
    refine lv_ifnullN (tgt := 33) hx hb dP_order_9 (by decide) ?_
    refine lv_iconst (v := -1) hx hb dP_order_33 (by decide) ?_
    refine x_topi (y := r) ((h0 e1).symm) ?_
    exact W.iret (v := r) hx hb hr (fun t9 ht9 hW9 => ⟨rfl, ht9⟩) (fun q h => absurd h List.not_mem_nil) dP_order_34
  · have hP : va_P D vwCl [(a, .inr (2, [.long sd, .ref (a + 1), .ref (a + 2), .int (nI nT), .int (nI nS), .ref (a + 3), .ref (a + 4)])), ((a + 1), .inl (κ 3, 26, .inr (.inr (.inr (.inr fT))))), ((a + 2), .inl (κ 4, 40, .inr (.inr (.inr (.inr fS))))), ((bS j), .inr (1, [.int (nI (kd j)), .int (nI (sp j)), .ref ((bS j) + 1), .ref ((bS j) + 2), .ref ((bS j) + 3), .int (nI (ca j)), .int (nI (cr j))])), (((bS j) + 1), .inl (κ 0, 26, .inl (fun i => nI (od j i))))] s.heap := va_P.app (hP.sub [0, 1, 2] rfl) ((hTes j hj).sub [0, 1] rfl)
    obtain ⟨hok, -, -, hod, -⟩ := hb1 j hj
    refine lv_aload_n hx hb dP_order_0 rfl (lv_at hl 0 rfl) ?_
    refine lv_iload_n hx hb dP_order_1 rfl (lv_at hl 1 rfl) ?_
    refine x_callP (v := .ref (bS j)) (va_runV (As := [.int (nI j)]) (rest := []) ⟨hx, hb, hml, hown, hT⟩ (c_P_testAt l D κ base s.heap (hP.sub [0, 2] rfl) (nI j) (.ref (bS j)) (fun h => at_out (by decide) hj4 h rfl) (some_at (by decide) hj4 (by rw [hfS j hj4, if_pos hj]))) (cwV 1 hT (TT_V kP52 kiP_testAt ksP_testAt knP kcP_testAt) rfl rfl rfl (by decide +kernel) ⟨Nat.le_of_ble_eq_true rfl, Nat.le_of_ble_eq_true rfl⟩) (pcV hE hS hAb (va_recv hK hP (ci := 2) (q0 := 0) rfl rfl)) rfl rfl hl.1 rfl (lv_room (Nat.le_of_ble_eq_true rfl)) dP_order_2 ⟨Nat.le_of_ble_eq_true rfl, Nat.le_of_ble_eq_true rfl⟩) ?_
    refine lv_astore (lv' := [(4, .ref (bS j)), (0, .ref a), (1, .int (nI j)), (2, .int y), (3, .int z)]) hx hb dP_order_5 hl (by decide) rfl (fun ls hl => ?_)
    refine lv_aload hx hb dP_order_7 (lv_at hl 0 rfl) ?_
    refine lv_ifnull hx hb dP_order_9 ?_
    refine lv_aload_n hx hb dP_order_12 rfl (lv_at hl 1 rfl) ?_
    refine lv_iload_n hx hb dP_order_13 rfl (lv_at hl 3 rfl) ?_
    rcases whoT nT y with e2 | ⟨i, hi, hi26, rfl⟩
    · refine x_callP (v := .null) (va_runV (As := [.int y]) (rest := []) ⟨hx, hb, hml, hown, hT⟩ (c_P_tasterAt l D κ base s.heap (hP.sub [0, 1] rfl) y .null (fun _ => rfl) (none_at (by decide) (noT_fr e2 hfT))) (cwV 1 hT (TT_V kP56 kiP_tasterAt ksP_tasterAt knP kcP_tasterAt) rfl rfl rfl (by decide +kernel) ⟨Nat.le_of_ble_eq_true rfl, Nat.le_of_ble_eq_true rfl⟩) (pcV hE hS hAb (va_recv hK hP (ci := 2) (q0 := 0) rfl rfl)) rfl rfl hl.1 rfl (lv_room (Nat.le_of_ble_eq_true rfl)) dP_order_14 ⟨Nat.le_of_ble_eq_true rfl, Nat.le_of_ble_eq_true rfl⟩) ?_
      refine lv_ifnullN (tgt := 33) hx hb dP_order_17 (by decide) ?_
      refine lv_iconst (v := -1) hx hb dP_order_33 (by decide) ?_
      refine x_topi (y := r) ((h1 e2).symm) ?_
      exact W.iret (v := r) hx hb hr (fun t9 ht9 hW9 => ⟨rfl, ht9⟩) (fun q h => absurd h List.not_mem_nil) dP_order_34
    · refine x_callP (v := .ref (bT i)) (va_runV (As := [.int (nI i)]) (rest := []) ⟨hx, hb, hml, hown, hT⟩ (c_P_tasterAt l D κ base s.heap (hP.sub [0, 1] rfl) (nI i) (.ref (bT i)) (fun h => at_out (by decide) hi26 h rfl) (some_at (by decide) hi26 (by rw [hfT i hi26, if_pos hi]))) (cwV 1 hT (TT_V kP56 kiP_tasterAt ksP_tasterAt knP kcP_tasterAt) rfl rfl rfl (by decide +kernel) ⟨Nat.le_of_ble_eq_true rfl, Nat.le_of_ble_eq_true rfl⟩) (pcV hE hS hAb (va_recv hK hP (ci := 2) (q0 := 0) rfl rfl)) rfl rfl hl.1 rfl (lv_room (Nat.le_of_ble_eq_true rfl)) dP_order_14 ⟨Nat.le_of_ble_eq_true rfl, Nat.le_of_ble_eq_true rfl⟩) ?_
      refine lv_ifnull hx hb dP_order_17 ?_
      refine lv_iload_n hx hb dP_order_20 rfl (lv_at hl 4 rfl) ?_
      have hsv : srvN (kd j) (sp j) < 2 ^ 31 := by have := hok.lt; unfold srvN; split <;> omega
      rcases pk_ix z hsv with e3 | e3 | ⟨k, hk, rfl⟩
      · refine lv_if_lt (tgt := 33) hx hb dP_order_21 (by decide) (fun h5 => ?_) (fun h5 => absurd e3 h5)
        refine lv_iconst (v := -1) hx hb dP_order_33 (by decide) ?_
        refine x_topi (y := r) ((h2 j hj rfl (Or.inl e3)).symm) ?_
        exact W.iret (v := r) hx hb hr (fun t9 ht9 hW9 => ⟨rfl, ht9⟩) (fun q h => absurd h List.not_mem_nil) dP_order_34
      · refine lv_if_lt (tgt := 33) hx hb dP_order_21 (by decide) (fun h6 => absurd (Int32.lt_of_le_of_lt e3 h6) (nI_pos hsv)) (fun h6 => ?_)
        refine lv_iload_n hx hb dP_order_24 rfl (lv_at hl 4 rfl) ?_
        refine lv_aload hx hb dP_order_25 (lv_at hl 0 rfl) ?_
        refine x_callP (v := .int (nI (srvN (kd j) (sp j)))) (va_runS (As := [.ref (bS j)]) (rest := [.int z]) ⟨hx, hb, hml, hown, hT⟩ (c_P_servings l D κ base s.heap (hP.sub [3] rfl) hok.lt.1 (srvN (kd j) (sp j)) (fun q => if_pos q) (fun q => if_neg q)) (va_cwS 1 hT (TT_S kP60 ktP_servings knP kcP_servings) rfl rfl rfl (by decide +kernel) ⟨Nat.le_of_ble_eq_true rfl, Nat.le_of_ble_eq_true rfl⟩) (pcS hE hS hAb) rfl rfl hl.1 rfl (lv_room (Nat.le_of_ble_eq_true rfl)) dP_order_27 ⟨Nat.le_of_ble_eq_true rfl, Nat.le_of_ble_eq_true rfl⟩) ?_
        refine lv_icmp_lt (tgt := 35) hx hb dP_order_30 (by decide) (fun h7 => absurd (Int32.lt_of_le_of_lt e3 h7) (fun q => Int32.lt_irrefl q)) (fun h7 => ?_)
        refine lv_iconst (v := -1) hx hb dP_order_33 (by decide) ?_
        refine x_topi (y := r) ((h2 j hj rfl (Or.inr e3)).symm) ?_
        exact W.iret (v := r) hx hb hr (fun t9 ht9 hW9 => ⟨rfl, ht9⟩) (fun q h => absurd h List.not_mem_nil) dP_order_34
      · refine x_zlt (a := k) (tgt := 33) hx hb dP_order_21 (by decide) (by omega) ?_
        refine lv_iload_n hx hb dP_order_24 rfl (lv_at hl 4 rfl) ?_
        refine lv_aload hx hb dP_order_25 (lv_at hl 0 rfl) ?_
        refine x_callP (v := .int (nI (srvN (kd j) (sp j)))) (va_runS (As := [.ref (bS j)]) (rest := [.int (nI k)]) ⟨hx, hb, hml, hown, hT⟩ (c_P_servings l D κ base s.heap (hP.sub [3] rfl) hok.lt.1 (srvN (kd j) (sp j)) (fun q => if_pos q) (fun q => if_neg q)) (va_cwS 1 hT (TT_S kP60 ktP_servings knP kcP_servings) rfl rfl rfl (by decide +kernel) ⟨Nat.le_of_ble_eq_true rfl, Nat.le_of_ble_eq_true rfl⟩) (pcS hE hS hAb) rfl rfl hl.1 rfl (lv_room (Nat.le_of_ble_eq_true rfl)) dP_order_27 ⟨Nat.le_of_ble_eq_true rfl, Nat.le_of_ble_eq_true rfl⟩) ?_
        refine x_clt (a := k) (b := srvN (kd j) (sp j)) (tgt := 35) hx hb dP_order_30 (by decide) (by omega) (hsv) (fun h9 => ?_) (fun h9 => absurd h9 (by omega))
        refine lv_aload hx hb dP_order_35 (lv_at hl 0 rfl) ?_
        refine lv_aload hx hb dP_order_37 (lv_at hl 0 rfl) ?_
        refine va_getN (D := D) (ci := 1) (v := .ref ((bS j) + 1)) (C := RS) (T := FS) (N := 7) hx hb hT inS hown hK hP 3 rfl rfl 2 (by decide) (va_Nw.use rfl (kN64 hE.2.1)) (fun _ h9 => h9) rfl dP_order_39 ?_
        refine lv_iload_n hx hb dP_order_42 rfl (lv_at hl 3 rfl) ?_
        refine x_iald hx hb hK hP 4 0 (j := i) (v := nI (od j i)) rfl rfl (by omega) (by decide) (rfl) dP_order_43 ?_
        refine lv_iload_n hx hb dP_order_44 rfl (lv_at hl 4 rfl) ?_
        obtain ⟨g0, g1, g2, g3, g4⟩ := served_ok hok (hod i hi26).1 hk
        refine x_callP (v := .int (srvI (kd j) (sp j) (od j i) k)) (va_runS (As := [.ref (bS j), .int (nI (od j i)), .int (nI k)]) (rest := []) ⟨hx, hb, hml, hown, hT⟩ (c_P_served l D κ base s.heap (hP.sub [3] rfl) hok.lt.1 hok.lt.2.2 (od j i) k g4 g0 g1 g2 g3) (va_cwS 3 hT (TT_S kP67 ktP_served knP kcP_served) rfl rfl rfl (by decide +kernel) ⟨Nat.le_of_ble_eq_true rfl, Nat.le_of_ble_eq_true rfl⟩) (pcS hE hS hAb) rfl rfl hl.1 rfl (lv_room (Nat.le_of_ble_eq_true rfl)) dP_order_45 ⟨Nat.le_of_ble_eq_true rfl, Nat.le_of_ble_eq_true rfl⟩) ?_
        refine x_topi (y := r) ((h3 j i k hj hi rfl rfl rfl hk).symm) ?_
        exact W.iret (v := r) hx hb hr (fun t9 ht9 hW9 => ⟨rfl, ht9⟩) (fun q h => absurd h List.not_mem_nil) dP_order_48
set_option maxHeartbeats 400000 in
set_option maxRecDepth 100000 in
theorem c_P_out (l : Launch) (D : va_G) (κ : Nat → ClassId) (base : Nat) (H0 : Heap) {a : Nat} {sd : Int64} {nT nS : Nat} {bT bS : Nat → Nat} {td fd : Nat → Nat → Nat} {ta tr kd sp ca cr : Nat → Nat} {od aw rk : Nat → Nat → Nat} (hR : RC D κ base a sd nT nS bT bS td fd ta tr kd sp ca cr od aw rk H0) (x : Int32) (r : Nat) (h0 : noT nT x → r = 0) (h1 : ∀ i, i < nT → x = nI i → r = if 5 ≤ ta i ∧ 3 * tr i < ta i then 1 else 0) : Met l yP_out wP_out ({ frames := 1, cells := 0, slots := 0, locals := 21 }) (Pq D κ base [.ref a, .int x] H0) (q_P (some (.int (nI r)))) 0 0 (fun _ => False) := by
  refine Met.ofW (cc := bP_out) (maxL := 3) (ret := (some FieldType.boolean)) (by decide) rfl ?_
  intro p e s m args below meth c s₁ B hml hv
  obtain ⟨rfl, hH, hE⟩ := hv
  subst hH
  have hx := B.exec
  have hb := B.bytes
  have hr := B.returns
  have hT : ∀ w ∈ TT, w.before _ s = true := fun w h => atoms_spec (ws := wP_out) B.pre w (List.mem_cons_of_mem _ h)
  have hown : s.vm.findClass "TasterPanels" = some m.cls := findClass_of_methodNamed B.named
  have hlocks := B.notSynchronized
  have hK := hE.1
  have hS : va_S (fun q => base ≤ q) s.heap s.heap [] := va_S.rf
  have hAb : ∀ q : Nat, (fun q : Nat => base ≤ q) q → base ≤ q := fun _ h => h
  have hl := lv_entry ([.ref a, .int x]) (n := 3) (Nat.le_of_ble_eq_true rfl)
  rw [lg_entry_eq]
  generalize (lg_sl ([.ref a, .int x]) ++ List.replicate (3 - (lg_sl ([.ref a, .int x])).length) Slot.unset).toArray = ls at hl ⊢
  have hl : lv_has ls 3 [(0, .ref a), (1, .int x)] := hl
  obtain ⟨⟨fT, fS, mx, sw, hP, hfT, hfS⟩, hTas, hTes, hbd⟩ := hR
  obtain ⟨⟨hnT, hnS, hba, hah⟩, hb1, hb2, hb3⟩ := hbd
  rcases whoT nT x with e1 | ⟨i, hi, hi26, rfl⟩
  · refine lv_aload_n hx hb dP_out_0 rfl (lv_at hl 0 rfl) ?_
    refine lv_iload_n hx hb dP_out_1 rfl (lv_at hl 1 rfl) ?_
    refine x_callP (v := .null) (va_runV (As := [.int x]) (rest := []) ⟨hx, hb, hml, hown, hT⟩ (c_P_tasterAt l D κ base s.heap (hP.sub [0, 1] rfl) x .null (fun _ => rfl) (none_at (by decide) (noT_fr e1 hfT))) (cwV 1 hT (TT_V kP56 kiP_tasterAt ksP_tasterAt knP kcP_tasterAt) rfl rfl rfl (by decide +kernel) ⟨Nat.le_of_ble_eq_true rfl, Nat.le_of_ble_eq_true rfl⟩) (pcV hE hS hAb (va_recv hK hP (ci := 2) (q0 := 0) rfl rfl)) rfl rfl hl.1 rfl (lv_room (Nat.le_of_ble_eq_true rfl)) dP_out_2 ⟨Nat.le_of_ble_eq_true rfl, Nat.le_of_ble_eq_true rfl⟩) ?_
    refine lv_astore_nN (lv' := [(2, .null), (0, .ref a), (1, .int x)]) hx hb dP_out_5 rfl hl (by decide) rfl (fun ls hl => ?_)
    refine lv_aload_nN hx hb dP_out_6 rfl (lv_at hl 0 rfl) ?_
    refine lv_ifnullN (tgt := 35) hx hb dP_out_7 (by decide) ?_
    refine lv_iconst (v := nI 0) hx hb dP_out_35 (by decide) ?_
    exact W.zret (v := nI 0) hx hb hr (by decide) (fun t9 ht9 hW9 => ⟨congrArg (fun z => Outcome.returned (some (Value.int (nI z)))) ((h0 e1).symm), ht9⟩) (fun q h => absurd h List.not_mem_nil) dP_out_36
  · have hP : va_P D vwCl [(a, .inr (2, [.long sd, .ref (a + 1), .ref (a + 2), .int (nI nT), .int (nI nS), .ref (a + 3), .ref (a + 4)])), ((a + 1), .inl (κ 3, 26, .inr (.inr (.inr (.inr fT))))), ((bT i), .inr (0, [.ref ((bT i) + 1), .ref ((bT i) + 2), .int (nI (ta i)), .int (nI (tr i))]))] s.heap := va_P.app (hP.sub [0, 1] rfl) ((hTas i hi).sub [0] rfl)
    obtain ⟨ht1, ht2, -⟩ := hb2 i hi
    refine lv_aload_n hx hb dP_out_0 rfl (lv_at hl 0 rfl) ?_
    refine lv_iload_n hx hb dP_out_1 rfl (lv_at hl 1 rfl) ?_
    refine x_callP (v := .ref (bT i)) (va_runV (As := [.int (nI i)]) (rest := []) ⟨hx, hb, hml, hown, hT⟩ (c_P_tasterAt l D κ base s.heap (hP.sub [0, 1] rfl) (nI i) (.ref (bT i)) (fun h => at_out (by decide) hi26 h rfl) (some_at (by decide) hi26 (by rw [hfT i hi26, if_pos hi]))) (cwV 1 hT (TT_V kP56 kiP_tasterAt ksP_tasterAt knP kcP_tasterAt) rfl rfl rfl (by decide +kernel) ⟨Nat.le_of_ble_eq_true rfl, Nat.le_of_ble_eq_true rfl⟩) (pcV hE hS hAb (va_recv hK hP (ci := 2) (q0 := 0) rfl rfl)) rfl rfl hl.1 rfl (lv_room (Nat.le_of_ble_eq_true rfl)) dP_out_2 ⟨Nat.le_of_ble_eq_true rfl, Nat.le_of_ble_eq_true rfl⟩) ?_
    refine lv_astore_n (lv' := [(2, .ref (bT i)), (0, .ref a), (1, .int (nI i))]) hx hb dP_out_5 rfl hl (by decide) rfl (fun ls hl => ?_)
    refine lv_aload_n hx hb dP_out_6 rfl (lv_at hl 0 rfl) ?_
    refine lv_ifnull hx hb dP_out_7 ?_
    refine lv_aload_n hx hb dP_out_10 rfl (lv_at hl 0 rfl) ?_
    refine va_getN (D := D) (ci := 0) (v := .int (nI (ta i))) (C := RT) (T := FT) (N := 4) hx hb hT inT hown hK hP 2 rfl rfl 2 (by decide) (va_Nw.use rfl (kN84 hE.2.1)) (fun _ h9 => h9) rfl dP_out_11 ?_
    refine lv_iconst (v := nI 5) hx hb dP_out_14 (by decide) ?_
    refine x_clt (a := ta i) (b := 5) (tgt := 35) hx hb dP_out_15 (by decide) (by omega) (by omega) (fun h3 => ?_) (fun h3 => ?_)
    · refine lv_iconst (v := nI 0) hx hb dP_out_35 (by decide) ?_
      exact W.zret (v := nI 0) hx hb hr (by decide) (fun t9 ht9 hW9 => ⟨congrArg (fun z => Outcome.returned (some (Value.int (nI z)))) (by rw [h1 i hi rfl, if_neg (by omega)]), ht9⟩) (fun q h => absurd h List.not_mem_nil) dP_out_36
    · refine lv_iconst (v := nI 3) hx hb dP_out_18 (by decide) ?_
      refine lv_aload_n hx hb dP_out_19 rfl (lv_at hl 0 rfl) ?_
      refine va_getN (D := D) (ci := 0) (v := .int (nI (tr i))) (C := RT) (T := FT) (N := 4) hx hb hT inT hown hK hP 2 rfl rfl 3 (by decide) (va_Nw.use rfl (kN95 hE.2.1)) (fun _ h9 => h9) rfl dP_out_20 ?_
      refine x_imul (v := nI (3 * (tr i))) hx hb dP_out_23 (pk_mul _ _) ?_
      refine lv_aload_n hx hb dP_out_24 rfl (lv_at hl 0 rfl) ?_
      refine va_getN (D := D) (ci := 0) (v := .int (nI (ta i))) (C := RT) (T := FT) (N := 4) hx hb hT inT hown hK hP 2 rfl rfl 2 (by decide) (va_Nw.use rfl (kN84 hE.2.1)) (fun _ h9 => h9) rfl dP_out_25 ?_
      refine x_cge (a := 3 * (tr i)) (b := ta i) (tgt := 35) hx hb dP_out_28 (by decide) (by omega) (by omega) (fun h4 => ?_) (fun h4 => ?_)
      · refine lv_iconst (v := nI 0) hx hb dP_out_35 (by decide) ?_
        exact W.zret (v := nI 0) hx hb hr (by decide) (fun t9 ht9 hW9 => ⟨congrArg (fun z => Outcome.returned (some (Value.int (nI z)))) (by rw [h1 i hi rfl, if_neg (by omega)]), ht9⟩) (fun q h => absurd h List.not_mem_nil) dP_out_36
      · refine lv_iconst (v := nI 1) hx hb dP_out_31 (by decide) ?_
        refine lv_goto (tgt := 36) hx hb dP_out_32 (by decide) ?_
        exact W.zret (v := nI 1) hx hb hr (by decide) (fun t9 ht9 hW9 => ⟨congrArg (fun z => Outcome.returned (some (Value.int (nI z)))) (by rw [h1 i hi rfl, if_pos (by omega)]), ht9⟩) (fun q h => absurd h List.not_mem_nil) dP_out_36
theorem m1_ne {m : Nat} (h : m < 2 ^ 31) : ¬ nI m = -1 := fun q => absurd (show nI m < 0 by rw [q]; decide) (nI_pos h)
set_option maxHeartbeats 400000 in
set_option maxRecDepth 100000 in
theorem c_P_threshold (l : Launch) (D : va_G) (κ : Nat → ClassId) (base : Nat) (H0 : Heap) {a : Nat} {sd : Int64} {nT nS : Nat} {bT bS : Nat → Nat} {td fd : Nat → Nat → Nat} {ta tr kd sp ca cr : Nat → Nat} {od aw rk : Nat → Nat → Nat} (hR : RC D κ base a sd nT nS bT bS td fd ta tr kd sp ca cr od aw rk H0) (x : Int32) (r : UInt64) (h0 : noT nT x → r = 13830554455654793216) (h1 : ∀ i, i < nT → x = nI i → r = thC (td i) (fd i) 16 none) : Met l yP_threshold wP_threshold ({ frames := 1, cells := 0, slots := 0, locals := 21 }) (Pq D κ base [.ref a, .int x] H0) (q_P (some (.double r))) 0 0 (fun _ => False) := by
  refine Met.ofW (cc := bP_threshold) (maxL := 5) (ret := (some FieldType.double)) (by decide) rfl ?_
  intro p e s m args below meth c s₁ B hml hv
  obtain ⟨rfl, hH, hE⟩ := hv
  subst hH
  have hx := B.exec
  have hb := B.bytes
  have hr := B.returns
  have hT : ∀ w ∈ TT, w.before _ s = true := fun w h => atoms_spec (ws := wP_threshold) B.pre w (List.mem_cons_of_mem _ h)
  have hown : s.vm.findClass "TasterPanels" = some m.cls := findClass_of_methodNamed B.named
  have hlocks := B.notSynchronized
  have hK := hE.1
  have hS : va_S (fun q => base ≤ q) s.heap s.heap [] := va_S.rf
  have hAb : ∀ q : Nat, (fun q : Nat => base ≤ q) q → base ≤ q := fun _ h => h
  have hl := lv_entry ([.ref a, .int x]) (n := 5) (Nat.le_of_ble_eq_true rfl)
  rw [lg_entry_eq]
  generalize (lg_sl ([.ref a, .int x]) ++ List.replicate (5 - (lg_sl ([.ref a, .int x])).length) Slot.unset).toArray = ls at hl ⊢
  have hl : lv_has ls 5 [(0, .ref a), (1, .int x)] := hl
  obtain ⟨⟨fT, fS, mx, sw, hP, hfT, hfS⟩, hTas, hTes, hbd⟩ := hR
  obtain ⟨⟨hnT, hnS, hba, hah⟩, hb1, hb2, hb3⟩ := hbd
  rcases whoT nT x with e1 | ⟨i, hi, hi26, rfl⟩
  · refine lv_aload_n hx hb dP_threshold_0 rfl (lv_at hl 0 rfl) ?_
    refine lv_iload_n hx hb dP_threshold_1 rfl (lv_at hl 1 rfl) ?_
    refine x_callP (v := .null) (va_runV (As := [.int x]) (rest := []) ⟨hx, hb, hml, hown, hT⟩ (c_P_tasterAt l D κ base s.heap (hP.sub [0, 1] rfl) x .null (fun _ => rfl) (none_at (by decide) (noT_fr e1 hfT))) (cwV 1 hT (TT_V kP56 kiP_tasterAt ksP_tasterAt knP kcP_tasterAt) rfl rfl rfl (by decide +kernel) ⟨Nat.le_of_ble_eq_true rfl, Nat.le_of_ble_eq_true rfl⟩) (pcV hE hS hAb (va_recv hK hP (ci := 2) (q0 := 0) rfl rfl)) rfl rfl hl.1 rfl (lv_room (Nat.le_of_ble_eq_true rfl)) dP_threshold_2 ⟨Nat.le_of_ble_eq_true rfl, Nat.le_of_ble_eq_true rfl⟩) ?_
    refine lv_astore_nN (lv' := [(2, .null), (0, .ref a), (1, .int x)]) hx hb dP_threshold_5 rfl hl (by decide) rfl (fun ls hl => ?_)
    refine lv_aload_nN hx hb dP_threshold_6 rfl (lv_at hl 0 rfl) ?_
    refine lv_ifnonnullN hx hb dP_threshold_7 ?_
    refine lv_ldc2d (v := 13830554455654793216) hx hb hown (hT _ kP134) dP_threshold_10 ?_
    exact W.dret (v := 13830554455654793216) hx hb hr (fun t9 ht9 hW9 => ⟨by rw [h0 e1], ht9⟩) (fun q h => absurd h List.not_mem_nil) dP_threshold_13
  · have hP : va_P D vwCl [(a, .inr (2, [.long sd, .ref (a + 1), .ref (a + 2), .int (nI nT), .int (nI nS), .ref (a + 3), .ref (a + 4)])), ((a + 1), .inl (κ 3, 26, .inr (.inr (.inr (.inr fT))))), ((bT i), .inr (0, [.ref ((bT i) + 1), .ref ((bT i) + 2), .int (nI (ta i)), .int (nI (tr i))])), (((bT i) + 1), .inl (κ 1, 16, .inl (fun k => nI (td i k)))), (((bT i) + 2), .inl (κ 1, 16, .inl (fun k => nI (fd i k))))] s.heap := va_P.app (hP.sub [0, 1] rfl) ((hTas i hi).sub [0, 1, 2] rfl)
    obtain ⟨-, -, ht3⟩ := hb2 i hi
    have hr1 := h1 i hi rfl
    have loop : ∀ (fu : Nat) (k : Nat) (lst : Option Nat), (k ≤ 16) → (∀ m, lst = some m → m < 16) → (thC (td i) (fd i) k lst = thC (td i) (fd i) 16 none) → k < fu → ∀ ls : Array Slot, lv_has ls 5 [(0, .ref a), (1, .int (nI i)), (2, .ref (bT i)), (3, .int (lstI lst)), (4, .int (nI k - 1))] → W p l e (headSpec wP_threshold ({ frames := 1, cells := 0, slots := 0, locals := 21 })).room s m ([.ref a, .int (nI i)] : List Value).toArray below meth c s.heap [] 0 0 (MQ below (q_P (some (.double r))) ([.ref a, .int (nI i)] : List Value).toArray s 0 0 (fun _ => False)) (F0 m 20 ls []) := by
      intro fu
      induction fu with
      | zero =>
        intro k lst hk hlst heq hmu
        exact absurd hmu (Nat.not_lt_zero _)
      | succ fu ih =>
        intro k lst hk hlst heq hmu ls hl
        rcases k with _ | k
        · refine lv_iload hx hb dP_threshold_20 (lv_at hl 4 rfl) ?_
          refine lv_if_lt (tgt := 96) hx hb dP_threshold_22 (by decide) (fun h2 => ?_) (fun h2 => absurd (by decide) h2)
          rcases lst with _ | m
          · refine lv_iload_n hx hb dP_threshold_96 rfl (lv_at hl 3 rfl) ?_
            refine lv_iconst (v := -1) hx hb dP_threshold_97 (by decide) ?_
            refine lv_icmp_ne (tgt := 105) hx hb dP_threshold_98 (by decide) (fun h3 => absurd rfl h3) (fun h3 => ?_)
            refine lv_dconst0 hx hb dP_threshold_101 ?_
            refine lv_goto (tgt := 113) hx hb dP_threshold_102 (by decide) ?_
            exact W.dret (v := FP.dconst0) hx hb hr (fun t9 ht9 hW9 => ⟨by rw [hr1, ← heq]; rfl, ht9⟩) (fun q h => absurd h List.not_mem_nil) dP_threshold_113
          · have hm := hlst m rfl
            refine lv_iload_n hx hb dP_threshold_96 rfl (lv_at hl 3 rfl) ?_
            refine x_topi (y := nI m) (rfl) ?_
            refine lv_iconst (v := -1) hx hb dP_threshold_97 (by decide) ?_
            refine lv_icmp_ne (tgt := 105) hx hb dP_threshold_98 (by decide) (fun h4 => ?_) (fun h4 => absurd h4 (m1_ne (by omega)))
            refine lv_iload_n hx hb dP_threshold_105 rfl (lv_at hl 3 rfl) ?_
            refine x_topi (y := nI m) (rfl) ?_
            refine x_callP (v := .double (strv m)) (va_runS (As := [.int (nI m)]) (rest := []) ⟨hx, hb, hml, hown, hT⟩ (c_P_strength l D κ base s.heap m hm) (va_cwS 1 hT (TT_S kP142 ktP_strength knP kcP_strength) rfl rfl rfl (by decide +kernel) ⟨Nat.le_of_ble_eq_true rfl, Nat.le_of_ble_eq_true rfl⟩) (pcS hE hS hAb) rfl rfl hl.1 rfl (lv_room (Nat.le_of_ble_eq_true rfl)) dP_threshold_106 ⟨Nat.le_of_ble_eq_true rfl, Nat.le_of_ble_eq_true rfl⟩) ?_
            refine lv_ldc2d (v := 4611686018427387904) hx hb hown (hT _ kP146) dP_threshold_109 ?_
            refine lv_ddiv hx hb dP_threshold_112 (th2 m hm) ?_
            exact W.dret (v := FP.ddiv (strv m) 4611686018427387904) hx hb hr (fun t9 ht9 hW9 => ⟨by rw [hr1, ← heq]; rfl, ht9⟩) (fun q h => absurd h List.not_mem_nil) dP_threshold_113
        · rw [nI_pred] at hl
          obtain ⟨hk1, hk2⟩ := ht3 k (by omega)
          refine lv_iload hx hb dP_threshold_20 (lv_at hl 4 rfl) ?_
          refine x_zlt (a := k) (tgt := 96) hx hb dP_threshold_22 (by decide) (by omega) ?_
          refine lv_aload_n hx hb dP_threshold_25 rfl (lv_at hl 2 rfl) ?_
          refine va_getN (D := D) (ci := 0) (v := .ref ((bT i) + 1)) (C := RT) (T := FT) (N := 4) hx hb hT inT hown hK hP 2 rfl rfl 0 (by decide) (va_Nw.use rfl (kN136 hE.2.1)) (fun _ h9 => h9) rfl dP_threshold_26 ?_
          refine lv_iload hx hb dP_threshold_29 (lv_at hl 4 rfl) ?_
          refine x_zald hx hb hK hP 3 1 (j := k) (v := nI (td i k)) rfl rfl (by omega) (by decide) (rfl) dP_threshold_31 ?_
          refine x_zeq (a := td i k) (tgt := 77) hx hb dP_threshold_32 (by decide) (by omega) (fun g1 => ?_) (fun g1 => ?_)
          · refine lv_aload_n hx hb dP_threshold_77 rfl (lv_at hl 2 rfl) ?_
            refine va_getN (D := D) (ci := 0) (v := .ref ((bT i) + 1)) (C := RT) (T := FT) (N := 4) hx hb hT inT hown hK hP 2 rfl rfl 0 (by decide) (va_Nw.use rfl (kN136 hE.2.1)) (fun _ h9 => h9) rfl dP_threshold_78 ?_
            refine lv_iload hx hb dP_threshold_81 (lv_at hl 4 rfl) ?_
            refine x_zald hx hb hK hP 3 1 (j := k) (v := nI (td i k)) rfl rfl (by omega) (by decide) (rfl) dP_threshold_83 ?_
            refine x_zeq (a := td i k) (tgt := 90) hx hb dP_threshold_84 (by decide) (by omega) (fun h6 => ?_) (fun h6 => absurd g1 h6)
            refine lv_iinc (v := nI k - 1) (lv' := [(4, .int (nI k - 1)), (0, .ref a), (1, .int (nI i)), (2, .ref (bT i)), (3, .int (lstI lst))]) hx hb dP_threshold_90 hl (k := 4) rfl (addm1 _) (by decide) rfl (fun ls hl => ?_)
            refine lv_goto (tgt := 20) hx hb dP_threshold_93 (by decide) ?_
            exact ih k lst (by omega) hlst (by cases lst <;> rw [← heq, thC, if_pos g1]) (by omega) ls (lv_sub hl [1, 2, 3, 4, 0] rfl)
          · refine lv_aload_n hx hb dP_threshold_35 rfl (lv_at hl 2 rfl) ?_
            refine va_getN (D := D) (ci := 0) (v := .ref ((bT i) + 2)) (C := RT) (T := FT) (N := 4) hx hb hT inT hown hK hP 2 rfl rfl 1 (by decide) (va_Nw.use rfl (kN139 hE.2.1)) (fun _ h9 => h9) rfl dP_threshold_36 ?_
            refine lv_iload hx hb dP_threshold_39 (lv_at hl 4 rfl) ?_
            refine x_zald hx hb hK hP 4 1 (j := k) (v := nI (fd i k)) rfl rfl (by omega) (by decide) (rfl) dP_threshold_41 ?_
            refine x_zne (a := fd i k) (tgt := 77) hx hb dP_threshold_42 (by decide) (by omega) (fun g2 => ?_) (fun g2 => ?_)
            · refine lv_aload_n hx hb dP_threshold_77 rfl (lv_at hl 2 rfl) ?_
              refine va_getN (D := D) (ci := 0) (v := .ref ((bT i) + 1)) (C := RT) (T := FT) (N := 4) hx hb hT inT hown hK hP 2 rfl rfl 0 (by decide) (va_Nw.use rfl (kN136 hE.2.1)) (fun _ h9 => h9) rfl dP_threshold_78 ?_
              refine lv_iload hx hb dP_threshold_81 (lv_at hl 4 rfl) ?_
              refine x_zald hx hb hK hP 3 1 (j := k) (v := nI (td i k)) rfl rfl (by omega) (by decide) (rfl) dP_threshold_83 ?_
              refine x_zeq (a := td i k) (tgt := 90) hx hb dP_threshold_84 (by decide) (by omega) (fun h7 => absurd h7 g1) (fun h7 => ?_)
              refine lv_iload hx hb dP_threshold_87 (lv_at hl 4 rfl) ?_
              refine x_topi (y := lstI (some k)) (rfl) ?_
              refine lv_istore_n (lv' := [(3, .int (lstI (some k))), (0, .ref a), (1, .int (nI i)), (2, .ref (bT i)), (4, .int (nI k))]) hx hb dP_threshold_89 rfl hl (by decide) rfl (fun ls hl => ?_)
              refine lv_iinc (v := nI k - 1) (lv' := [(4, .int (nI k - 1)), (3, .int (lstI (some k))), (0, .ref a), (1, .int (nI i)), (2, .ref (bT i))]) hx hb dP_threshold_90 hl (k := 4) rfl (addm1 _) (by decide) rfl (fun ls hl => ?_)
              refine lv_goto (tgt := 20) hx hb dP_threshold_93 (by decide) ?_
              exact ih k (some k) (by omega) (fun m q => by cases q; omega) (by cases lst <;> rw [← heq, thC, if_neg g1, if_neg g2]) (by omega) ls (lv_sub hl [2, 3, 4, 1, 0] rfl)
            · rcases lst with _ | m
              · refine lv_iload_n hx hb dP_threshold_45 rfl (lv_at hl 3 rfl) ?_
                refine lv_iconst (v := -1) hx hb dP_threshold_46 (by decide) ?_
                refine lv_icmp_ne (tgt := 62) hx hb dP_threshold_47 (by decide) (fun h8 => absurd rfl h8) (fun h8 => ?_)
                refine lv_iload hx hb dP_threshold_50 (lv_at hl 4 rfl) ?_
                refine x_callP (v := .double (strv k)) (va_runS (As := [.int (nI k)]) (rest := []) ⟨hx, hb, hml, hown, hT⟩ (c_P_strength l D κ base s.heap k (by omega)) (va_cwS 1 hT (TT_S kP142 ktP_strength knP kcP_strength) rfl rfl rfl (by decide +kernel) ⟨Nat.le_of_ble_eq_true rfl, Nat.le_of_ble_eq_true rfl⟩) (pcS hE hS hAb) rfl rfl hl.1 rfl (lv_room (Nat.le_of_ble_eq_true rfl)) dP_threshold_52 ⟨Nat.le_of_ble_eq_true rfl, Nat.le_of_ble_eq_true rfl⟩) ?_
                refine lv_ldc2d (v := 4611686018427387904) hx hb hown (hT _ kP146) dP_threshold_55 ?_
                refine lv_dmul hx hb dP_threshold_58 (th1 k (by omega)) ?_
                refine lv_goto (tgt := 76) hx hb dP_threshold_59 (by decide) ?_
                exact W.dret (v := FP.dmul (strv k) 4611686018427387904) hx hb hr (fun t9 ht9 hW9 => ⟨by rw [hr1, ← heq, thC, if_neg g1, if_pos g2]; rfl, ht9⟩) (fun q h => absurd h List.not_mem_nil) dP_threshold_76
              · have hm := hlst m rfl
                refine lv_iload_n hx hb dP_threshold_45 rfl (lv_at hl 3 rfl) ?_
                refine x_topi (y := nI m) (rfl) ?_
                refine lv_iconst (v := -1) hx hb dP_threshold_46 (by decide) ?_
                refine lv_icmp_ne (tgt := 62) hx hb dP_threshold_47 (by decide) (fun h9 => ?_) (fun h9 => absurd h9 (m1_ne (by omega)))
                refine lv_iload_n hx hb dP_threshold_62 rfl (lv_at hl 3 rfl) ?_
                refine x_topi (y := nI m) (rfl) ?_
                refine x_callP (v := .double (strv m)) (va_runS (As := [.int (nI m)]) (rest := []) ⟨hx, hb, hml, hown, hT⟩ (c_P_strength l D κ base s.heap m hm) (va_cwS 1 hT (TT_S kP142 ktP_strength knP kcP_strength) rfl rfl rfl (by decide +kernel) ⟨Nat.le_of_ble_eq_true rfl, Nat.le_of_ble_eq_true rfl⟩) (pcS hE hS hAb) rfl rfl hl.1 rfl (lv_room (Nat.le_of_ble_eq_true rfl)) dP_threshold_63 ⟨Nat.le_of_ble_eq_true rfl, Nat.le_of_ble_eq_true rfl⟩) ?_
                refine lv_iload hx hb dP_threshold_66 (lv_at hl 4 rfl) ?_
                refine x_callP (v := .double (strv k)) (va_runS (As := [.int (nI k)]) (rest := [.double (strv m)]) ⟨hx, hb, hml, hown, hT⟩ (c_P_strength l D κ base s.heap k (by omega)) (va_cwS 1 hT (TT_S kP142 ktP_strength knP kcP_strength) rfl rfl rfl (by decide +kernel) ⟨Nat.le_of_ble_eq_true rfl, Nat.le_of_ble_eq_true rfl⟩) (pcS hE hS hAb) rfl rfl hl.1 rfl (lv_room (Nat.le_of_ble_eq_true rfl)) dP_threshold_68 ⟨Nat.le_of_ble_eq_true rfl, Nat.le_of_ble_eq_true rfl⟩) ?_
                refine lv_dadd hx hb dP_threshold_71 (th3 m hm k (by omega)) ?_
                refine lv_ldc2d (v := 4611686018427387904) hx hb hown (hT _ kP146) dP_threshold_72 ?_
                refine lv_ddiv hx hb dP_threshold_75 (th4 m hm k (by omega)) ?_
                exact W.dret (v := FP.ddiv (FP.dadd (strv m) (strv k)) 4611686018427387904) hx hb hr (fun t9 ht9 hW9 => ⟨by rw [hr1, ← heq, thC, if_neg g1, if_pos g2]; rfl, ht9⟩) (fun q h => absurd h List.not_mem_nil) dP_threshold_76
    refine lv_aload_n hx hb dP_threshold_0 rfl (lv_at hl 0 rfl) ?_
    refine lv_iload_n hx hb dP_threshold_1 rfl (lv_at hl 1 rfl) ?_
    refine x_callP (v := .ref (bT i)) (va_runV (As := [.int (nI i)]) (rest := []) ⟨hx, hb, hml, hown, hT⟩ (c_P_tasterAt l D κ base s.heap (hP.sub [0, 1] rfl) (nI i) (.ref (bT i)) (fun h => at_out (by decide) hi26 h rfl) (some_at (by decide) hi26 (by rw [hfT i hi26, if_pos hi]))) (cwV 1 hT (TT_V kP56 kiP_tasterAt ksP_tasterAt knP kcP_tasterAt) rfl rfl rfl (by decide +kernel) ⟨Nat.le_of_ble_eq_true rfl, Nat.le_of_ble_eq_true rfl⟩) (pcV hE hS hAb (va_recv hK hP (ci := 2) (q0 := 0) rfl rfl)) rfl rfl hl.1 rfl (lv_room (Nat.le_of_ble_eq_true rfl)) dP_threshold_2 ⟨Nat.le_of_ble_eq_true rfl, Nat.le_of_ble_eq_true rfl⟩) ?_
    refine lv_astore_n (lv' := [(2, .ref (bT i)), (0, .ref a), (1, .int (nI i))]) hx hb dP_threshold_5 rfl hl (by decide) rfl (fun ls hl => ?_)
    refine lv_aload_n hx hb dP_threshold_6 rfl (lv_at hl 0 rfl) ?_
    refine lv_ifnonnull (tgt := 14) hx hb dP_threshold_7 (by decide) ?_
    refine lv_iconst (v := -1) hx hb dP_threshold_14 (by decide) ?_
    refine x_topi (y := lstI none) (rfl) ?_
    refine lv_istore_n (lv' := [(3, .int (lstI none)), (2, .ref (bT i)), (0, .ref a), (1, .int (nI i))]) hx hb dP_threshold_15 rfl hl (by decide) rfl (fun ls hl => ?_)
    refine lv_bipush (v := nI 15) hx hb dP_threshold_16 (by decide) ?_
    refine x_topi (y := nI 16 - 1) (by decide) ?_
    refine lv_istore (lv' := [(4, .int (nI 16 - 1)), (3, .int (lstI none)), (2, .ref (bT i)), (0, .ref a), (1, .int (nI i))]) hx hb dP_threshold_18 hl (by decide) rfl (fun ls hl => ?_)
    exact loop 17 16 none (by omega) (fun m q => by cases q) rfl (by omega) ls (lv_sub hl [3, 4, 2, 1, 0] rfl)
