/-! the class's reads: what a test says, who is there -/
def cntO (kd sp : Nat) : Nat := if kd = 0 then 6 else if kd = 1 then 2 else if kd = 2 then 4 else tFACT.getD sp 0
def srvI (kd sp o k : Nat) : Int32 := if kd = 0 then nI (tTS.getD (o * 3 + k) 0) else if kd = 1 then nI (tPS.getD (o * 2 + k) 0) else if kd = 2 then nI (tDS.getD (o * 3 + k) 0) else siI sp (k + 1) 0 (nI 0) o (-1)
theorem at_out {x : Int32} {n j : Nat} {P : Prop} (hn : n < 2 ^ 31) (hj : j < n) (h : x < 0 ∨ nI n ≤ x) (e : x = nI j) : P := by
  exfalso
  subst e
  rcases h with h | h
  · exact absurd h (nI_pos (by omega))
  · exact absurd h (nI_ge hj hn)
theorem nI_inj {a b : Nat} (ha : a < 2 ^ 31) (hb : b < 2 ^ 31) (h : nI a = nI b) : a = b := (nI_eq ha hb).mp h
theorem none_at {fr : Nat → Option Nat} {x : Int32} {n : Nat} (hn : n < 2 ^ 31) (hx0 : (x < 0 ∨ nI n ≤ x) ∨ ∃ j, j < n ∧ x = nI j ∧ fr j = none) (j : Nat) (hj : j < n) (e : x = nI j) : Value.null = va_rf (fr j) := by
  rcases hx0 with h | ⟨i, hi, e2, h⟩
  · exact at_out hn hj h e
  · have := nI_inj (by omega) (by omega) (e2.symm.trans e)
    subst this
    rw [h]
    rfl
theorem some_at {fr : Nat → Option Nat} {j q n : Nat} (hn : n < 2 ^ 31) (hj : j < n) (hf : fr j = some q) (i : Nat) (hi : i < n) (e : nI j = nI i) : Value.ref q = va_rf (fr i) := by
  have := nI_inj (by omega) (by omega) e
  subst this
  rw [hf]
  rfl
def rgtN (kd o : Nat) : Nat := if kd = 0 then tTR.getD o 0 else if kd = 1 then tPR.getD o 0 else tDR.getD o 0
set_option maxHeartbeats 400000 in
set_option maxRecDepth 100000 in
theorem c_P_servings (l : Launch) (D : va_G) (κ : Nat → ClassId) (base : Nat) (H0 : Heap) {q kd sp an ri : Nat} (hP : va_P D vwCl [(q, .inr (1, [.int (nI kd), .int (nI sp), .ref (q + 1), .ref (q + 2), .ref (q + 3), .int (nI an), .int (nI ri)]))] H0) (hk : kd < 4) (r : Nat) (hr2 : kd = 2 → r = 3) (hr1 : kd ≠ 2 → r = sp) : Met l yP_servings wP_servings ({ frames := 0, cells := 0, slots := 0, locals := 0 }) (Pq D κ base [.ref q] H0) (q_P (some (.int (nI r)))) 0 0 (fun _ => False) := by
  refine Met.ofW (cc := bP_servings) (maxL := 1) (ret := (some FieldType.int)) (by decide) rfl ?_
  intro p e s m args below meth c s₁ B hml hv
  obtain ⟨rfl, hH, hE⟩ := hv
  subst hH
  have hx := B.exec
  have hb := B.bytes
  have hr := B.returns
  have hT : ∀ w ∈ TT, w.before _ s = true := fun w h => atoms_spec (ws := wP_servings) B.pre w (List.mem_cons_of_mem _ h)
  have hown : s.vm.findClass "TasterPanels" = some m.cls := findClass_of_methodNamed B.named
  have hlocks := B.notSynchronized
  have hK := hE.1
  have hS : va_S (fun q => base ≤ q) s.heap s.heap [] := va_S.rf
  have hAb : ∀ q : Nat, (fun q : Nat => base ≤ q) q → base ≤ q := fun _ h => h
  have hl := lv_entry ([.ref q]) (n := 1) (Nat.le_of_ble_eq_true rfl)
  rw [lg_entry_eq]
  generalize (lg_sl ([.ref q]) ++ List.replicate (1 - (lg_sl ([.ref q])).length) Slot.unset).toArray = ls at hl ⊢
  have hl : lv_has ls 1 [(0, .ref q)] := hl
  refine lv_aload_n hx hb dP_servings_0 rfl (lv_at hl 0 rfl) ?_
  refine va_getN (D := D) (ci := 1) (v := .int (nI kd)) (C := RS) (T := FS) (N := 7) hx hb hT inS hown hK hP 0 rfl rfl 0 (by decide) (va_Nw.use rfl (kN85 hE.2.1)) (fun _ h9 => h9) rfl dP_servings_1 ?_
  refine lv_iconst (v := nI 2) hx hb dP_servings_4 (by decide) ?_
  refine x_cne (a := kd) (b := 2) (tgt := 12) hx hb dP_servings_5 (by decide) (by omega) (by omega) (fun h1 => ?_) (fun h1 => ?_)
  · refine lv_aload_n hx hb dP_servings_12 rfl (lv_at hl 0 rfl) ?_
    refine va_getN (D := D) (ci := 1) (v := .int (nI sp)) (C := RS) (T := FS) (N := 7) hx hb hT inS hown hK hP 0 rfl rfl 1 (by decide) (va_Nw.use rfl (kN74 hE.2.1)) (fun _ h9 => h9) rfl dP_servings_13 ?_
    refine x_topn (b := r) ((hr1 h1).symm) ?_
    exact W.iret (v := nI r) hx hb hr (fun t9 ht9 hW9 => ⟨rfl, ht9⟩) (fun q h => absurd h List.not_mem_nil) dP_servings_16
  · refine lv_iconst (v := nI 3) hx hb dP_servings_8 (by decide) ?_
    refine lv_goto (tgt := 16) hx hb dP_servings_9 (by decide) ?_
    refine x_topn (b := r) ((hr2 h1).symm) ?_
    exact W.iret (v := nI r) hx hb hr (fun t9 ht9 hW9 => ⟨rfl, ht9⟩) (fun q h => absurd h List.not_mem_nil) dP_servings_16
set_option maxHeartbeats 400000 in
set_option maxRecDepth 100000 in
theorem c_P_orderCount (l : Launch) (D : va_G) (κ : Nat → ClassId) (base : Nat) (H0 : Heap) {q kd sp an ri : Nat} (hP : va_P D vwCl [(q, .inr (1, [.int (nI kd), .int (nI sp), .ref (q + 1), .ref (q + 2), .ref (q + 3), .int (nI an), .int (nI ri)]))] H0) (hk : kd < 4) (hs : sp ≤ 5) : Met l yP_orderCount wP_orderCount ({ frames := 0, cells := 0, slots := 0, locals := 0 }) (Pq D κ base [.ref q] H0) (q_P (some (.int (nI (cntO kd sp))))) 0 0 (fun _ => False) := by
  refine Met.ofW (cc := bP_orderCount) (maxL := 1) (ret := (some FieldType.int)) (by decide) rfl ?_
  intro p e s m args below meth c s₁ B hml hv
  obtain ⟨rfl, hH, hE⟩ := hv
  subst hH
  have hx := B.exec
  have hb := B.bytes
  have hr := B.returns
  have hT : ∀ w ∈ TT, w.before _ s = true := fun w h => atoms_spec (ws := wP_orderCount) B.pre w (List.mem_cons_of_mem _ h)
  have hown : s.vm.findClass "TasterPanels" = some m.cls := findClass_of_methodNamed B.named
  have hlocks := B.notSynchronized
  have hK := hE.1
  have hS : va_S (fun q => base ≤ q) s.heap s.heap [] := va_S.rf
  have hAb : ∀ q : Nat, (fun q : Nat => base ≤ q) q → base ≤ q := fun _ h => h
  have hl := lv_entry ([.ref q]) (n := 1) (Nat.le_of_ble_eq_true rfl)
  rw [lg_entry_eq]
  generalize (lg_sl ([.ref q]) ++ List.replicate (1 - (lg_sl ([.ref q])).length) Slot.unset).toArray = ls at hl ⊢
  have hl : lv_has ls 1 [(0, .ref q)] := hl
  obtain ⟨t0, hZ0, hT0⟩ := hE.2.2 0 _ rfl
  dsimp only at hZ0 hT0
  refine lv_aload_n hx hb dP_orderCount_0 rfl (lv_at hl 0 rfl) ?_
  refine va_getN (D := D) (ci := 1) (v := .int (nI kd)) (C := RS) (T := FS) (N := 7) hx hb hT inS hown hK hP 0 rfl rfl 0 (by decide) (va_Nw.use rfl (kN85 hE.2.1)) (fun _ h9 => h9) rfl dP_orderCount_1 ?_
  rcases (show kd = 0 ∨ kd = 1 ∨ kd = 2 ∨ kd = 3 by omega) with rfl | rfl | rfl | rfl
  · refine lv_tableIn (off := 28) (tgt := 32) hx hb dP_orderCount_4 (by decide) (by decide) (by decide) (by decide) ?_
    refine lv_bipush (v := nI 6) hx hb dP_orderCount_32 (by decide) ?_
    refine x_topn (b := cntO 0 sp) (rfl) ?_
    exact W.iret (v := nI (cntO 0 sp)) hx hb hr (fun t9 ht9 hW9 => ⟨rfl, ht9⟩) (fun q h => absurd h List.not_mem_nil) dP_orderCount_34
  · refine lv_tableIn (off := 31) (tgt := 35) hx hb dP_orderCount_4 (by decide) (by decide) (by decide) (by decide) ?_
    refine lv_iconst (v := nI 2) hx hb dP_orderCount_35 (by decide) ?_
    refine x_topn (b := cntO 1 sp) (rfl) ?_
    exact W.iret (v := nI (cntO 1 sp)) hx hb hr (fun t9 ht9 hW9 => ⟨rfl, ht9⟩) (fun q h => absurd h List.not_mem_nil) dP_orderCount_36
  · refine lv_tableIn (off := 33) (tgt := 37) hx hb dP_orderCount_4 (by decide) (by decide) (by decide) (by decide) ?_
    refine lv_iconst (v := nI 4) hx hb dP_orderCount_37 (by decide) ?_
    refine x_topn (b := cntO 2 sp) (rfl) ?_
    exact W.iret (v := nI (cntO 2 sp)) hx hb hr (fun t9 ht9 hW9 => ⟨rfl, ht9⟩) (fun q h => absurd h List.not_mem_nil) dP_orderCount_38
  · refine lv_tableOut (tgt := 39) hx hb dP_orderCount_4 (by decide) (by decide) ?_
    refine va_gets hx hb hZ0 hS hown (hT _ kP157) (fun _ h9 => h9) dP_orderCount_39 ?_
    refine lv_aload_n hx hb dP_orderCount_42 rfl (lv_at hl 0 rfl) ?_
    refine va_getN (D := D) (ci := 1) (v := .int (nI sp)) (C := RS) (T := FS) (N := 7) hx hb hT inS hown hK hP 0 rfl rfl 1 (by decide) (va_Nw.use rfl (kN74 hE.2.1)) (fun _ h9 => h9) rfl dP_orderCount_43 ?_
    refine x_ti (v := .int (nI (tFACT.getD sp 0))) hx hb hT0 hS (j := sp) (show sp < 6 by omega) (by decide) rfl dP_orderCount_46 ?_
    refine x_topn (b := cntO 3 sp) (rfl) ?_
    exact W.iret (v := nI (cntO 3 sp)) hx hb hr (fun t9 ht9 hW9 => ⟨rfl, ht9⟩) (fun q h => absurd h List.not_mem_nil) dP_orderCount_47
set_option maxHeartbeats 400000 in
set_option maxRecDepth 100000 in
theorem c_P_rankOf (l : Launch) (D : va_G) (κ : Nat → ClassId) (base : Nat) (H0 : Heap) {q kd sp an ri : Nat} {rk : Nat → Int32} (hP : va_P D vwCl [(q, .inr (1, [.int (nI kd), .int (nI sp), .ref (q + 1), .ref (q + 2), .ref (q + 3), .int (nI an), .int (nI ri)])), ((q + 3), .inl (κ 0, 130, .inl rk))] H0) (i j : Nat) (hi : i < 26) (hj : j < 5) : Met l yP_rankOf wP_rankOf ({ frames := 0, cells := 0, slots := 0, locals := 0 }) (Pq D κ base [.ref q, .int (nI i), .int (nI j)] H0) (q_P (some (.int (rk (i * 5 + j))))) 0 0 (fun _ => False) := by
  refine Met.ofW (cc := bP_rankOf) (maxL := 3) (ret := (some FieldType.int)) (by decide) rfl ?_
  intro p e s m args below meth c s₁ B hml hv
  obtain ⟨rfl, hH, hE⟩ := hv
  subst hH
  have hx := B.exec
  have hb := B.bytes
  have hr := B.returns
  have hT : ∀ w ∈ TT, w.before _ s = true := fun w h => atoms_spec (ws := wP_rankOf) B.pre w (List.mem_cons_of_mem _ h)
  have hown : s.vm.findClass "TasterPanels" = some m.cls := findClass_of_methodNamed B.named
  have hlocks := B.notSynchronized
  have hK := hE.1
  have hS : va_S (fun q => base ≤ q) s.heap s.heap [] := va_S.rf
  have hAb : ∀ q : Nat, (fun q : Nat => base ≤ q) q → base ≤ q := fun _ h => h
  have hl := lv_entry ([.ref q, .int (nI i), .int (nI j)]) (n := 3) (Nat.le_of_ble_eq_true rfl)
  rw [lg_entry_eq]
  generalize (lg_sl ([.ref q, .int (nI i), .int (nI j)]) ++ List.replicate (3 - (lg_sl ([.ref q, .int (nI i), .int (nI j)])).length) Slot.unset).toArray = ls at hl ⊢
  have hl : lv_has ls 3 [(0, .ref q), (1, .int (nI i)), (2, .int (nI j))] := hl
  refine lv_aload_n hx hb dP_rankOf_0 rfl (lv_at hl 0 rfl) ?_
  refine va_getN (D := D) (ci := 1) (v := .ref (q + 3)) (C := RS) (T := FS) (N := 7) hx hb hT inS hown hK hP 0 rfl rfl 4 (by decide) (va_Nw.use rfl (kN124 hE.2.1)) (fun _ h9 => h9) rfl dP_rankOf_1 ?_
  refine lv_iload_n hx hb dP_rankOf_4 rfl (lv_at hl 1 rfl) ?_
  refine lv_iconst (v := nI 5) hx hb dP_rankOf_5 (by decide) ?_
  refine x_imul (v := nI (i * 5)) hx hb dP_rankOf_6 (pk_mul _ _) ?_
  refine lv_iload_n hx hb dP_rankOf_7 rfl (lv_at hl 2 rfl) ?_
  refine x_iadd (v := nI ((i * 5) + j)) hx hb dP_rankOf_8 (nI_add _ _) ?_
  refine x_iald hx hb hK hP 1 0 (j := (i * 5) + j) (v := rk ((i * 5) + j)) rfl rfl (by omega) (by decide) (rfl) dP_rankOf_9 ?_
  exact W.iret (v := rk ((i * 5) + j)) hx hb hr (fun t9 ht9 hW9 => ⟨rfl, ht9⟩) (fun q h => absurd h List.not_mem_nil) dP_rankOf_10
set_option maxHeartbeats 400000 in
set_option maxRecDepth 100000 in
theorem c_P_hasGiven (l : Launch) (D : va_G) (κ : Nat → ClassId) (base : Nat) (H0 : Heap) {q kd sp an ri : Nat} {rk : Nat → Int32} (hP : va_P D vwCl [(q, .inr (1, [.int (nI kd), .int (nI sp), .ref (q + 1), .ref (q + 2), .ref (q + 3), .int (nI an), .int (nI ri)])), ((q + 3), .inl (κ 0, 130, .inl rk))] H0) (hs : sp ≤ 5) (i : Nat) (x : Int32) (hi : i < 26) (r : Nat) (h1 : (∃ j, j < sp ∧ rk (i * 5 + j) = x) → r = 1) (h0 : (∀ j, j < sp → ¬ rk (i * 5 + j) = x) → r = 0) : Met l yP_hasGiven wP_hasGiven ({ frames := 1, cells := 0, slots := 0, locals := 22 }) (Pq D κ base [.ref q, .int (nI i), .int x] H0) (q_P (some (.int (nI r)))) 0 0 (fun _ => False) := by
  refine Met.ofW (cc := bP_hasGiven) (maxL := 4) (ret := (some FieldType.boolean)) (by decide) rfl ?_
  intro p e s m args below meth c s₁ B hml hv
  obtain ⟨rfl, hH, hE⟩ := hv
  subst hH
  have hx := B.exec
  have hb := B.bytes
  have hr := B.returns
  have hT : ∀ w ∈ TT, w.before _ s = true := fun w h => atoms_spec (ws := wP_hasGiven) B.pre w (List.mem_cons_of_mem _ h)
  have hown : s.vm.findClass "TasterPanels" = some m.cls := findClass_of_methodNamed B.named
  have hlocks := B.notSynchronized
  have hK := hE.1
  have hS : va_S (fun q => base ≤ q) s.heap s.heap [] := va_S.rf
  have hAb : ∀ q : Nat, (fun q : Nat => base ≤ q) q → base ≤ q := fun _ h => h
  have hl := lv_entry ([.ref q, .int (nI i), .int x]) (n := 4) (Nat.le_of_ble_eq_true rfl)
  rw [lg_entry_eq]
  generalize (lg_sl ([.ref q, .int (nI i), .int x]) ++ List.replicate (4 - (lg_sl ([.ref q, .int (nI i), .int x])).length) Slot.unset).toArray = ls at hl ⊢
  have hl : lv_has ls 4 [(0, .ref q), (1, .int (nI i)), (2, .int x)] := hl
  have loop : ∀ (fu : Nat) (j : Nat), (j ≤ sp) → (∀ k, k < j → ¬ rk (i * 5 + k) = x) → sp - j < fu → ∀ ls : Array Slot, lv_has ls 4 [(0, .ref q), (1, .int (nI i)), (2, .int x), (3, .int (nI j))] → W p l e (headSpec wP_hasGiven ({ frames := 1, cells := 0, slots := 0, locals := 22 })).room s m ([.ref q, .int (nI i), .int x] : List Value).toArray below meth c s.heap [] 0 0 (MQ below (q_P (some (.int (nI r)))) ([.ref q, .int (nI i), .int x] : List Value).toArray s 0 0 (fun _ => False)) (F0 m 2 ls []) := by
    intro fu
    induction fu with
    | zero =>
      intro j hj hj2 hmu
      exact absurd hmu (Nat.not_lt_zero _)
    | succ fu ih =>
      intro j hj hj2 hmu ls hl
      refine lv_iload_n hx hb dP_hasGiven_2 rfl (lv_at hl 3 rfl) ?_
      refine lv_aload_n hx hb dP_hasGiven_3 rfl (lv_at hl 0 rfl) ?_
      refine va_getN (D := D) (ci := 1) (v := .int (nI sp)) (C := RS) (T := FS) (N := 7) hx hb hT inS hown hK hP 0 rfl rfl 1 (by decide) (va_Nw.use rfl (kN74 hE.2.1)) (fun _ h9 => h9) rfl dP_hasGiven_4 ?_
      refine x_cge (a := j) (b := sp) (tgt := 28) hx hb dP_hasGiven_7 (by decide) (by omega) (by omega) (fun g1 => ?_) (fun g1 => ?_)
      · refine lv_iconst (v := nI 0) hx hb dP_hasGiven_28 (by decide) ?_
        exact W.zret (v := nI 0) hx hb hr (by decide) (fun t9 ht9 hW9 => ⟨congrArg (fun z => Outcome.returned (some (Value.int (nI z)))) ((h0 (fun k hk => hj2 k (by omega))).symm), ht9⟩) (fun q h => absurd h List.not_mem_nil) dP_hasGiven_29
      · refine lv_aload_n hx hb dP_hasGiven_10 rfl (lv_at hl 0 rfl) ?_
        refine lv_iload_n hx hb dP_hasGiven_11 rfl (lv_at hl 1 rfl) ?_
        refine lv_iload_n hx hb dP_hasGiven_12 rfl (lv_at hl 3 rfl) ?_
        refine x_callP (v := .int (rk (i * 5 + j))) (va_runS (As := [.ref q, .int (nI i), .int (nI j)]) (rest := []) ⟨hx, hb, hml, hown, hT⟩ (c_P_rankOf l D κ base s.heap hP i j hi (by omega)) (va_cwS 3 hT (TT_S kP117 ktP_rankOf knP kcP_rankOf) rfl rfl rfl (by decide +kernel) ⟨Nat.le_of_ble_eq_true rfl, Nat.le_of_ble_eq_true rfl⟩) (pcS hE hS hAb) rfl rfl hl.1 rfl (lv_room (Nat.le_of_ble_eq_true rfl)) dP_hasGiven_13 ⟨Nat.le_of_ble_eq_true rfl, Nat.le_of_ble_eq_true rfl⟩) ?_
        refine lv_iload_n hx hb dP_hasGiven_16 rfl (lv_at hl 2 rfl) ?_
        refine lv_icmp_ne (tgt := 22) hx hb dP_hasGiven_17 (by decide) (fun g2 => ?_) (fun g2 => ?_)
        · refine lv_iinc (v := nI (j + 1)) (lv' := [(3, .int (nI (j + 1))), (0, .ref q), (1, .int (nI i)), (2, .int x)]) hx hb dP_hasGiven_22 hl (k := 3) rfl (nI_add _ _) (by decide) rfl (fun ls hl => ?_)
          refine lv_goto (tgt := 2) hx hb dP_hasGiven_25 (by decide) ?_
          exact ih (j + 1) (by omega) (lt_s hj2 g2) (by omega) ls (lv_sub hl [1, 2, 3, 0] rfl)
        · refine lv_iconst (v := nI 1) hx hb dP_hasGiven_20 (by decide) ?_
          exact W.zret (v := nI 1) hx hb hr (by decide) (fun t9 ht9 hW9 => ⟨congrArg (fun z => Outcome.returned (some (Value.int (nI z)))) ((h1 ⟨j, g1, g2⟩).symm), ht9⟩) (fun q h => absurd h List.not_mem_nil) dP_hasGiven_21
  refine lv_iconst (v := nI 0) hx hb dP_hasGiven_0 (by decide) ?_
  refine lv_istore_n (lv' := [(3, .int (nI 0)), (0, .ref q), (1, .int (nI i)), (2, .int x)]) hx hb dP_hasGiven_1 rfl hl (by decide) rfl (fun ls hl => ?_)
  exact loop (sp + 1) 0 (Nat.zero_le _) lt_0 (by omega) ls (lv_sub hl [1, 2, 3, 0] rfl)
set_option maxHeartbeats 400000 in
set_option maxRecDepth 100000 in
theorem c_P_hasRankedAll (l : Launch) (D : va_G) (κ : Nat → ClassId) (base : Nat) (H0 : Heap) {q kd sp an ri : Nat} {rk : Nat → Int32} (hP : va_P D vwCl [(q, .inr (1, [.int (nI kd), .int (nI sp), .ref (q + 1), .ref (q + 2), .ref (q + 3), .int (nI an), .int (nI ri)])), ((q + 3), .inl (κ 0, 130, .inl rk))] H0) (hs : sp ≤ 5) (i : Nat) (hi : i < 26) (r : Nat) (h1 : (∀ j, j < sp → ¬ rk (i * 5 + j) = 0) → r = 1) (h0 : (∃ j, j < sp ∧ rk (i * 5 + j) = 0) → r = 0) : Met l yP_hasRankedAll wP_hasRankedAll ({ frames := 1, cells := 0, slots := 0, locals := 22 }) (Pq D κ base [.ref q, .int (nI i)] H0) (q_P (some (.int (nI r)))) 0 0 (fun _ => False) := by
  refine Met.ofW (cc := bP_hasRankedAll) (maxL := 3) (ret := (some FieldType.boolean)) (by decide) rfl ?_
  intro p e s m args below meth c s₁ B hml hv
  obtain ⟨rfl, hH, hE⟩ := hv
  subst hH
  have hx := B.exec
  have hb := B.bytes
  have hr := B.returns
  have hT : ∀ w ∈ TT, w.before _ s = true := fun w h => atoms_spec (ws := wP_hasRankedAll) B.pre w (List.mem_cons_of_mem _ h)
  have hown : s.vm.findClass "TasterPanels" = some m.cls := findClass_of_methodNamed B.named
  have hlocks := B.notSynchronized
  have hK := hE.1
  have hS : va_S (fun q => base ≤ q) s.heap s.heap [] := va_S.rf
  have hAb : ∀ q : Nat, (fun q : Nat => base ≤ q) q → base ≤ q := fun _ h => h
  have hl := lv_entry ([.ref q, .int (nI i)]) (n := 3) (Nat.le_of_ble_eq_true rfl)
  rw [lg_entry_eq]
  generalize (lg_sl ([.ref q, .int (nI i)]) ++ List.replicate (3 - (lg_sl ([.ref q, .int (nI i)])).length) Slot.unset).toArray = ls at hl ⊢
  have hl : lv_has ls 3 [(0, .ref q), (1, .int (nI i))] := hl
  have loop : ∀ (fu : Nat) (j : Nat), (j ≤ sp) → (∀ k, k < j → ¬ rk (i * 5 + k) = 0) → sp - j < fu → ∀ ls : Array Slot, lv_has ls 3 [(0, .ref q), (1, .int (nI i)), (2, .int (nI j))] → W p l e (headSpec wP_hasRankedAll ({ frames := 1, cells := 0, slots := 0, locals := 22 })).room s m ([.ref q, .int (nI i)] : List Value).toArray below meth c s.heap [] 0 0 (MQ below (q_P (some (.int (nI r)))) ([.ref q, .int (nI i)] : List Value).toArray s 0 0 (fun _ => False)) (F0 m 2 ls []) := by
    intro fu
    induction fu with
    | zero =>
      intro j hj hj2 hmu
      exact absurd hmu (Nat.not_lt_zero _)
    | succ fu ih =>
      intro j hj hj2 hmu ls hl
      refine lv_iload_n hx hb dP_hasRankedAll_2 rfl (lv_at hl 2 rfl) ?_
      refine lv_aload_n hx hb dP_hasRankedAll_3 rfl (lv_at hl 0 rfl) ?_
      refine va_getN (D := D) (ci := 1) (v := .int (nI sp)) (C := RS) (T := FS) (N := 7) hx hb hT inS hown hK hP 0 rfl rfl 1 (by decide) (va_Nw.use rfl (kN74 hE.2.1)) (fun _ h9 => h9) rfl dP_hasRankedAll_4 ?_
      refine x_cge (a := j) (b := sp) (tgt := 27) hx hb dP_hasRankedAll_7 (by decide) (by omega) (by omega) (fun g1 => ?_) (fun g1 => ?_)
      · refine lv_iconst (v := nI 1) hx hb dP_hasRankedAll_27 (by decide) ?_
        exact W.zret (v := nI 1) hx hb hr (by decide) (fun t9 ht9 hW9 => ⟨congrArg (fun z => Outcome.returned (some (Value.int (nI z)))) ((h1 (fun k hk => hj2 k (by omega))).symm), ht9⟩) (fun q h => absurd h List.not_mem_nil) dP_hasRankedAll_28
      · refine lv_aload_n hx hb dP_hasRankedAll_10 rfl (lv_at hl 0 rfl) ?_
        refine lv_iload_n hx hb dP_hasRankedAll_11 rfl (lv_at hl 1 rfl) ?_
        refine lv_iload_n hx hb dP_hasRankedAll_12 rfl (lv_at hl 2 rfl) ?_
        refine x_callP (v := .int (rk (i * 5 + j))) (va_runS (As := [.ref q, .int (nI i), .int (nI j)]) (rest := []) ⟨hx, hb, hml, hown, hT⟩ (c_P_rankOf l D κ base s.heap hP i j hi (by omega)) (va_cwS 3 hT (TT_S kP117 ktP_rankOf knP kcP_rankOf) rfl rfl rfl (by decide +kernel) ⟨Nat.le_of_ble_eq_true rfl, Nat.le_of_ble_eq_true rfl⟩) (pcS hE hS hAb) rfl rfl hl.1 rfl (lv_room (Nat.le_of_ble_eq_true rfl)) dP_hasRankedAll_13 ⟨Nat.le_of_ble_eq_true rfl, Nat.le_of_ble_eq_true rfl⟩) ?_
        refine lv_if_ne (tgt := 21) hx hb dP_hasRankedAll_16 (by decide) (fun g2 => ?_) (fun g2 => ?_)
        · refine lv_iinc (v := nI (j + 1)) (lv' := [(2, .int (nI (j + 1))), (0, .ref q), (1, .int (nI i))]) hx hb dP_hasRankedAll_21 hl (k := 2) rfl (nI_add _ _) (by decide) rfl (fun ls hl => ?_)
          refine lv_goto (tgt := 2) hx hb dP_hasRankedAll_24 (by decide) ?_
          exact ih (j + 1) (by omega) (lt_s hj2 g2) (by omega) ls (lv_sub hl [1, 2, 0] rfl)
        · refine lv_iconst (v := nI 0) hx hb dP_hasRankedAll_19 (by decide) ?_
          exact W.zret (v := nI 0) hx hb hr (by decide) (fun t9 ht9 hW9 => ⟨congrArg (fun z => Outcome.returned (some (Value.int (nI z)))) ((h0 ⟨j, g1, g2⟩).symm), ht9⟩) (fun q h => absurd h List.not_mem_nil) dP_hasRankedAll_20
  refine lv_iconst (v := nI 0) hx hb dP_hasRankedAll_0 (by decide) ?_
  refine lv_istore_n (lv' := [(2, .int (nI 0)), (0, .ref q), (1, .int (nI i))]) hx hb dP_hasRankedAll_1 rfl hl (by decide) rfl (fun ls hl => ?_)
  exact loop (sp + 1) 0 (Nat.zero_le _) lt_0 (by omega) ls (lv_sub hl [1, 2, 0] rfl)
set_option maxHeartbeats 400000 in
set_option maxRecDepth 100000 in
theorem c_P_rightPlace (l : Launch) (D : va_G) (κ : Nat → ClassId) (base : Nat) (H0 : Heap) (kd o : Nat) (hk : kd < 3) (ho : o < cntO kd 0) : Met l yP_rightPlace wP_rightPlace ({ frames := 0, cells := 0, slots := 0, locals := 0 }) (Pq D κ base [.int (nI kd), .int (nI o)] H0) (q_P (some (.int (nI (rgtN kd o))))) 0 0 (fun _ => False) := by
  refine Met.ofW (cc := bP_rightPlace) (maxL := 2) (ret := (some FieldType.int)) (by decide) rfl ?_
  intro p e s m args below meth c s₁ B hml hv
  obtain ⟨rfl, hH, hE⟩ := hv
  subst hH
  have hx := B.exec
  have hb := B.bytes
  have hr := B.returns
  have hT : ∀ w ∈ TT, w.before _ s = true := fun w h => atoms_spec (ws := wP_rightPlace) B.pre w (List.mem_cons_of_mem _ h)
  have hown : s.vm.findClass "TasterPanels" = some m.cls := findClass_of_methodNamed B.named
  have hlocks := B.notSynchronized
  have hK := hE.1
  have hS : va_S (fun q => base ≤ q) s.heap s.heap [] := va_S.rf
  have hAb : ∀ q : Nat, (fun q : Nat => base ≤ q) q → base ≤ q := fun _ h => h
  have hl := lv_entry ([.int (nI kd), .int (nI o)]) (n := 2) (Nat.le_of_ble_eq_true rfl)
  rw [lg_entry_eq]
  generalize (lg_sl ([.int (nI kd), .int (nI o)]) ++ List.replicate (2 - (lg_sl ([.int (nI kd), .int (nI o)])).length) Slot.unset).toArray = ls at hl ⊢
  have hl : lv_has ls 2 [(0, .int (nI kd)), (1, .int (nI o))] := hl
  obtain ⟨t4, hZ4, hT4⟩ := hE.2.2 4 _ rfl
  dsimp only at hZ4 hT4
  obtain ⟨t5, hZ5, hT5⟩ := hE.2.2 5 _ rfl
  dsimp only at hZ5 hT5
  obtain ⟨t6, hZ6, hT6⟩ := hE.2.2 6 _ rfl
  dsimp only at hZ6 hT6
  refine lv_iload_n hx hb dP_rightPlace_0 rfl (lv_at hl 0 rfl) ?_
  rcases (show kd = 0 ∨ kd = 1 ∨ kd = 2 by omega) with rfl | rfl | rfl
  · have ho : o < 6 := ho
    refine lv_lookup (off := 27) (tgt := 28) hx hb dP_rightPlace_1 (by decide) (by decide) (by decide) ?_
    refine va_gets hx hb hZ4 hS hown (hT _ kP191) (fun _ h9 => h9) dP_rightPlace_28 ?_
    refine lv_iload_n hx hb dP_rightPlace_31 rfl (lv_at hl 1 rfl) ?_
    refine x_ti (v := .int (nI (tTR.getD o 0))) hx hb hT4 hS (j := o) (show o < 6 by omega) (by decide) rfl dP_rightPlace_32 ?_
    refine x_topn (b := rgtN 0 o) (rfl) ?_
    exact W.iret (v := nI (rgtN 0 o)) hx hb hr (fun t9 ht9 hW9 => ⟨rfl, ht9⟩) (fun q h => absurd h List.not_mem_nil) dP_rightPlace_33
  · have ho : o < 2 := ho
    refine lv_lookup (off := 33) (tgt := 34) hx hb dP_rightPlace_1 (by decide) (by decide) (by decide) ?_
    refine va_gets hx hb hZ5 hS hown (hT _ kP194) (fun _ h9 => h9) dP_rightPlace_34 ?_
    refine lv_iload_n hx hb dP_rightPlace_37 rfl (lv_at hl 1 rfl) ?_
    refine x_ti (v := .int (nI (tPR.getD o 0))) hx hb hT5 hS (j := o) (show o < 2 by omega) (by decide) rfl dP_rightPlace_38 ?_
    refine x_topn (b := rgtN 1 o) (rfl) ?_
    exact W.iret (v := nI (rgtN 1 o)) hx hb hr (fun t9 ht9 hW9 => ⟨rfl, ht9⟩) (fun q h => absurd h List.not_mem_nil) dP_rightPlace_39
  · have ho : o < 4 := ho
    refine lv_lookup (off := 39) (tgt := 40) hx hb dP_rightPlace_1 (by decide) (by decide) (by decide) ?_
    refine va_gets hx hb hZ6 hS hown (hT _ kP197) (fun _ h9 => h9) dP_rightPlace_40 ?_
    refine lv_iload_n hx hb dP_rightPlace_43 rfl (lv_at hl 1 rfl) ?_
    refine x_ti (v := .int (nI (tDR.getD o 0))) hx hb hT6 hS (j := o) (show o < 4 by omega) (by decide) rfl dP_rightPlace_44 ?_
    refine x_topn (b := rgtN 2 o) (rfl) ?_
    exact W.iret (v := nI (rgtN 2 o)) hx hb hr (fun t9 ht9 hW9 => ⟨rfl, ht9⟩) (fun q h => absurd h List.not_mem_nil) dP_rightPlace_45
set_option maxHeartbeats 400000 in
set_option maxRecDepth 100000 in
theorem c_P_served (l : Launch) (D : va_G) (κ : Nat → ClassId) (base : Nat) (H0 : Heap) {q kd sp an ri : Nat} (hP : va_P D vwCl [(q, .inr (1, [.int (nI kd), .int (nI sp), .ref (q + 1), .ref (q + 2), .ref (q + 3), .int (nI an), .int (nI ri)]))] H0) (hk : kd < 4) (hs : sp ≤ 5) (o k : Nat) (ho : o < 2 ^ 31) (h0 : kd = 0 → o < 6 ∧ k < 3) (h1 : kd = 1 → o < 2 ∧ k < 2) (h2 : kd = 2 → o < 4 ∧ k < 3) (h3 : kd = 3 → k < sp) : Met l yP_served wP_served ({ frames := 2, cells := 0, slots := 0, locals := 50 }) (Pq D κ base [.ref q, .int (nI o), .int (nI k)] H0) (q_P (some (.int (srvI kd sp o k)))) 0 0 (fun _ => False) := by
  refine Met.ofW (cc := bP_served) (maxL := 3) (ret := (some FieldType.int)) (by decide) rfl ?_
  intro p e s m args below meth c s₁ B hml hv
  obtain ⟨rfl, hH, hE⟩ := hv
  subst hH
  have hx := B.exec
  have hb := B.bytes
  have hr := B.returns
  have hT : ∀ w ∈ TT, w.before _ s = true := fun w h => atoms_spec (ws := wP_served) B.pre w (List.mem_cons_of_mem _ h)
  have hown : s.vm.findClass "TasterPanels" = some m.cls := findClass_of_methodNamed B.named
  have hlocks := B.notSynchronized
  have hK := hE.1
  have hS : va_S (fun q => base ≤ q) s.heap s.heap [] := va_S.rf
  have hAb : ∀ q : Nat, (fun q : Nat => base ≤ q) q → base ≤ q := fun _ h => h
  have hl := lv_entry ([.ref q, .int (nI o), .int (nI k)]) (n := 3) (Nat.le_of_ble_eq_true rfl)
  rw [lg_entry_eq]
  generalize (lg_sl ([.ref q, .int (nI o), .int (nI k)]) ++ List.replicate (3 - (lg_sl ([.ref q, .int (nI o), .int (nI k)])).length) Slot.unset).toArray = ls at hl ⊢
  have hl : lv_has ls 3 [(0, .ref q), (1, .int (nI o)), (2, .int (nI k))] := hl
  obtain ⟨t1, hZ1, hT1⟩ := hE.2.2 1 _ rfl
  dsimp only at hZ1 hT1
  obtain ⟨t2, hZ2, hT2⟩ := hE.2.2 2 _ rfl
  dsimp only at hZ2 hT2
  obtain ⟨t3, hZ3, hT3⟩ := hE.2.2 3 _ rfl
  dsimp only at hZ3 hT3
  refine lv_aload_n hx hb dP_served_0 rfl (lv_at hl 0 rfl) ?_
  refine va_getN (D := D) (ci := 1) (v := .int (nI kd)) (C := RS) (T := FS) (N := 7) hx hb hT inS hown hK hP 0 rfl rfl 0 (by decide) (va_Nw.use rfl (kN85 hE.2.1)) (fun _ h9 => h9) rfl dP_served_1 ?_
  rcases (show kd = 0 ∨ kd = 1 ∨ kd = 2 ∨ kd = 3 by omega) with rfl | rfl | rfl | rfl
  · have hh := h0 rfl
    refine lv_tableIn (off := 28) (tgt := 32) hx hb dP_served_4 (by decide) (by decide) (by decide) (by decide) ?_
    refine va_gets hx hb hZ1 hS hown (hT _ kP175) (fun _ h9 => h9) dP_served_32 ?_
    refine lv_iload_n hx hb dP_served_35 rfl (lv_at hl 1 rfl) ?_
    refine lv_iconst (v := nI 3) hx hb dP_served_36 (by decide) ?_
    refine x_imul (v := nI (o * 3)) hx hb dP_served_37 (pk_mul _ _) ?_
    refine lv_iload_n hx hb dP_served_38 rfl (lv_at hl 2 rfl) ?_
    refine x_iadd (v := nI ((o * 3) + k)) hx hb dP_served_39 (nI_add _ _) ?_
    refine x_ti (v := .int (nI (tTS.getD ((o * 3) + k) 0))) hx hb hT1 hS (j := (o * 3) + k) (show (o * 3) + k < 18 by omega) (by decide) rfl dP_served_40 ?_
    refine x_topi (y := srvI 0 sp o k) (rfl) ?_
    exact W.iret (v := srvI 0 sp o k) hx hb hr (fun t9 ht9 hW9 => ⟨rfl, ht9⟩) (fun q h => absurd h List.not_mem_nil) dP_served_41
  · have hh := h1 rfl
    refine lv_tableIn (off := 38) (tgt := 42) hx hb dP_served_4 (by decide) (by decide) (by decide) (by decide) ?_
    refine va_gets hx hb hZ2 hS hown (hT _ kP178) (fun _ h9 => h9) dP_served_42 ?_
    refine lv_iload_n hx hb dP_served_45 rfl (lv_at hl 1 rfl) ?_
    refine lv_iconst (v := nI 2) hx hb dP_served_46 (by decide) ?_
    refine x_imul (v := nI (o * 2)) hx hb dP_served_47 (pk_mul _ _) ?_
    refine lv_iload_n hx hb dP_served_48 rfl (lv_at hl 2 rfl) ?_
    refine x_iadd (v := nI ((o * 2) + k)) hx hb dP_served_49 (nI_add _ _) ?_
    refine x_ti (v := .int (nI (tPS.getD ((o * 2) + k) 0))) hx hb hT2 hS (j := (o * 2) + k) (show (o * 2) + k < 4 by omega) (by decide) rfl dP_served_50 ?_
    refine x_topi (y := srvI 1 sp o k) (rfl) ?_
    exact W.iret (v := srvI 1 sp o k) hx hb hr (fun t9 ht9 hW9 => ⟨rfl, ht9⟩) (fun q h => absurd h List.not_mem_nil) dP_served_51
  · have hh := h2 rfl
    refine lv_tableIn (off := 48) (tgt := 52) hx hb dP_served_4 (by decide) (by decide) (by decide) (by decide) ?_
    refine va_gets hx hb hZ3 hS hown (hT _ kP181) (fun _ h9 => h9) dP_served_52 ?_
    refine lv_iload_n hx hb dP_served_55 rfl (lv_at hl 1 rfl) ?_
    refine lv_iconst (v := nI 3) hx hb dP_served_56 (by decide) ?_
    refine x_imul (v := nI (o * 3)) hx hb dP_served_57 (pk_mul _ _) ?_
    refine lv_iload_n hx hb dP_served_58 rfl (lv_at hl 2 rfl) ?_
    refine x_iadd (v := nI ((o * 3) + k)) hx hb dP_served_59 (nI_add _ _) ?_
    refine x_ti (v := .int (nI (tDS.getD ((o * 3) + k) 0))) hx hb hT3 hS (j := (o * 3) + k) (show (o * 3) + k < 12 by omega) (by decide) rfl dP_served_60 ?_
    refine x_topi (y := srvI 2 sp o k) (rfl) ?_
    exact W.iret (v := srvI 2 sp o k) hx hb hr (fun t9 ht9 hW9 => ⟨rfl, ht9⟩) (fun q h => absurd h List.not_mem_nil) dP_served_61
  · have hh := h3 rfl
    refine lv_tableOut (tgt := 62) hx hb dP_served_4 (by decide) (by decide) ?_
    refine lv_aload_n hx hb dP_served_62 rfl (lv_at hl 0 rfl) ?_
    refine va_getN (D := D) (ci := 1) (v := .int (nI sp)) (C := RS) (T := FS) (N := 7) hx hb hT inS hown hK hP 0 rfl rfl 1 (by decide) (va_Nw.use rfl (kN74 hE.2.1)) (fun _ h9 => h9) rfl dP_served_63 ?_
    refine lv_iload_n hx hb dP_served_66 rfl (lv_at hl 1 rfl) ?_
    refine lv_iload_n hx hb dP_served_67 rfl (lv_at hl 2 rfl) ?_
    refine x_callP (v := .int (siI sp (k + 1) 0 (nI 0) o (-1))) (va_runS (As := [.int (nI sp), .int (nI o), .int (nI k)]) (rest := []) ⟨hx, hb, hml, hown, hT⟩ (c_P_sampleInRow l D κ base s.heap sp o k hs ho hh) (va_cwS 3 hT (TT_S kP184 ktP_sampleInRow knP kcP_sampleInRow) rfl rfl rfl (by decide +kernel) ⟨Nat.le_of_ble_eq_true rfl, Nat.le_of_ble_eq_true rfl⟩) (pcS hE hS hAb) rfl rfl hl.1 rfl (lv_room (Nat.le_of_ble_eq_true rfl)) dP_served_68 ⟨Nat.le_of_ble_eq_true rfl, Nat.le_of_ble_eq_true rfl⟩) ?_
    refine x_topi (y := srvI 3 sp o k) (rfl) ?_
    exact W.iret (v := srvI 3 sp o k) hx hb hr (fun t9 ht9 hW9 => ⟨rfl, ht9⟩) (fun q h => absurd h List.not_mem_nil) dP_served_71
set_option maxHeartbeats 400000 in
set_option maxRecDepth 100000 in
theorem c_P_tasterAt (l : Launch) (D : va_G) (κ : Nat → ClassId) (base : Nat) (H0 : Heap) {a nT nS : Nat} {sd : Int64} {fr : Nat → Option Nat} (hP : va_P D vwCl [(a, .inr (2, [.long sd, .ref (a + 1), .ref (a + 2), .int (nI nT), .int (nI nS), .ref (a + 3), .ref (a + 4)])), ((a + 1), .inl (κ 3, 26, .inr (.inr (.inr (.inr fr)))))] H0) (x : Int32) (r : Value) (hr0 : (x < 0 ∨ nI 26 ≤ x) → r = .null) (hr1 : ∀ j, j < 26 → x = nI j → r = va_rf (fr j)) : Met l yP_tasterAt wP_tasterAt ({ frames := 0, cells := 0, slots := 0, locals := 0 }) (Pq D κ base [.ref a, .int x] H0) (q_P (some (r))) 0 0 (fun _ => False) := by
  refine Met.ofW (cc := bP_tasterAt) (maxL := 2) (ret := (some (FieldType.object "TasterPanels$Taster"))) (by decide) rfl ?_
  intro p e s m args below meth c s₁ B hml hv
  obtain ⟨rfl, hH, hE⟩ := hv
  subst hH
  have hx := B.exec
  have hb := B.bytes
  have hr := B.returns
  have hT : ∀ w ∈ TT, w.before _ s = true := fun w h => atoms_spec (ws := wP_tasterAt) B.pre w (List.mem_cons_of_mem _ h)
  have hown : s.vm.findClass "TasterPanels" = some m.cls := findClass_of_methodNamed B.named
  have hlocks := B.notSynchronized
  have hK := hE.1
  have hS : va_S (fun q => base ≤ q) s.heap s.heap [] := va_S.rf
  have hAb : ∀ q : Nat, (fun q : Nat => base ≤ q) q → base ≤ q := fun _ h => h
  have hl := lv_entry ([.ref a, .int x]) (n := 2) (Nat.le_of_ble_eq_true rfl)
  rw [lg_entry_eq]
  generalize (lg_sl ([.ref a, .int x]) ++ List.replicate (2 - (lg_sl ([.ref a, .int x])).length) Slot.unset).toArray = ls at hl ⊢
  have hl : lv_has ls 2 [(0, .ref a), (1, .int x)] := hl
  rcases pk_ix x (show 26 < 2 ^ 31 by decide) with e1 | e1 | ⟨j, hj, rfl⟩
  · refine lv_iload_n hx hb dP_tasterAt_0 rfl (lv_at hl 1 rfl) ?_
    refine lv_if_lt (tgt := 10) hx hb dP_tasterAt_1 (by decide) (fun h1 => ?_) (fun h1 => absurd e1 h1)
    refine lv_null hx hb dP_tasterAt_10 ?_
    refine lv_goto (tgt := 20) hx hb dP_tasterAt_11 (by decide) ?_
    exact W.aret (v := .null) hx hb hr (Or.inl ⟨_, rfl⟩) (Or.inl rfl) (fun t ht hW => ⟨by rw [hr0 (Or.inl e1)], ht⟩) (fun q h => absurd h List.not_mem_nil) dP_tasterAt_20
  · refine lv_iload_n hx hb dP_tasterAt_0 rfl (lv_at hl 1 rfl) ?_
    refine lv_if_lt (tgt := 10) hx hb dP_tasterAt_1 (by decide) (fun h2 => absurd h2 (fun q => absurd (Int32.lt_of_le_of_lt e1 q) (by decide))) (fun h2 => ?_)
    refine lv_iload_n hx hb dP_tasterAt_4 rfl (lv_at hl 1 rfl) ?_
    refine lv_bipush (v := nI 26) hx hb dP_tasterAt_5 (by decide) ?_
    refine lv_icmp_lt (tgt := 14) hx hb dP_tasterAt_7 (by decide) (fun h3 => absurd (Int32.lt_of_le_of_lt e1 h3) (fun q => Int32.lt_irrefl q)) (fun h3 => ?_)
    refine lv_null hx hb dP_tasterAt_10 ?_
    refine lv_goto (tgt := 20) hx hb dP_tasterAt_11 (by decide) ?_
    exact W.aret (v := .null) hx hb hr (Or.inl ⟨_, rfl⟩) (Or.inl rfl) (fun t ht hW => ⟨by rw [hr0 (Or.inr e1)], ht⟩) (fun q h => absurd h List.not_mem_nil) dP_tasterAt_20
  · refine lv_iload_n hx hb dP_tasterAt_0 rfl (lv_at hl 1 rfl) ?_
    refine x_zlt (a := j) (tgt := 10) hx hb dP_tasterAt_1 (by decide) (by omega) ?_
    refine lv_iload_n hx hb dP_tasterAt_4 rfl (lv_at hl 1 rfl) ?_
    refine lv_bipush (v := nI 26) hx hb dP_tasterAt_5 (by decide) ?_
    refine x_clt (a := j) (b := 26) (tgt := 14) hx hb dP_tasterAt_7 (by decide) (by omega) (by omega) (fun h5 => ?_) (fun h5 => absurd h5 (by omega))
    refine lv_aload_n hx hb dP_tasterAt_14 rfl (lv_at hl 0 rfl) ?_
    refine va_get (D := D) (ci := 2) (v := .ref (a + 1)) (C := RP) (T := FP) (N := 7) hx hb hT inP hown hK hP 0 rfl rfl 1 (by decide) (hT _ kP11) (fun _ h9 => h9) rfl dP_tasterAt_15 ?_
    refine lv_iload_n hx hb dP_tasterAt_18 rfl (lv_at hl 1 rfl) ?_
    refine x_aald hx hb hK hP 1 3 (j := j) (v := va_rf (fr j)) rfl rfl (by omega) (by decide) (rfl) dP_tasterAt_19 ?_
    exact W.aret (v := va_rf (fr j)) hx hb hr (Or.inl ⟨_, rfl⟩) (va_rf_or _) (fun t ht hW => ⟨by rw [hr1 j hj rfl], ht⟩) (fun q h => absurd h List.not_mem_nil) dP_tasterAt_20
set_option maxHeartbeats 400000 in
set_option maxRecDepth 100000 in
theorem c_P_testAt (l : Launch) (D : va_G) (κ : Nat → ClassId) (base : Nat) (H0 : Heap) {a nT nS : Nat} {sd : Int64} {fr : Nat → Option Nat} (hP : va_P D vwCl [(a, .inr (2, [.long sd, .ref (a + 1), .ref (a + 2), .int (nI nT), .int (nI nS), .ref (a + 3), .ref (a + 4)])), ((a + 2), .inl (κ 4, 40, .inr (.inr (.inr (.inr fr)))))] H0) (x : Int32) (r : Value) (hr0 : (x < 0 ∨ nI 40 ≤ x) → r = .null) (hr1 : ∀ j, j < 40 → x = nI j → r = va_rf (fr j)) : Met l yP_testAt wP_testAt ({ frames := 0, cells := 0, slots := 0, locals := 0 }) (Pq D κ base [.ref a, .int x] H0) (q_P (some (r))) 0 0 (fun _ => False) := by
  refine Met.ofW (cc := bP_testAt) (maxL := 2) (ret := (some (FieldType.object "TasterPanels$Test"))) (by decide) rfl ?_
  intro p e s m args below meth c s₁ B hml hv
  obtain ⟨rfl, hH, hE⟩ := hv
  subst hH
  have hx := B.exec
  have hb := B.bytes
  have hr := B.returns
  have hT : ∀ w ∈ TT, w.before _ s = true := fun w h => atoms_spec (ws := wP_testAt) B.pre w (List.mem_cons_of_mem _ h)
  have hown : s.vm.findClass "TasterPanels" = some m.cls := findClass_of_methodNamed B.named
  have hlocks := B.notSynchronized
  have hK := hE.1
  have hS : va_S (fun q => base ≤ q) s.heap s.heap [] := va_S.rf
  have hAb : ∀ q : Nat, (fun q : Nat => base ≤ q) q → base ≤ q := fun _ h => h
  have hl := lv_entry ([.ref a, .int x]) (n := 2) (Nat.le_of_ble_eq_true rfl)
  rw [lg_entry_eq]
  generalize (lg_sl ([.ref a, .int x]) ++ List.replicate (2 - (lg_sl ([.ref a, .int x])).length) Slot.unset).toArray = ls at hl ⊢
  have hl : lv_has ls 2 [(0, .ref a), (1, .int x)] := hl
  rcases pk_ix x (show 40 < 2 ^ 31 by decide) with e1 | e1 | ⟨j, hj, rfl⟩
  · refine lv_iload_n hx hb dP_testAt_0 rfl (lv_at hl 1 rfl) ?_
    refine lv_if_lt (tgt := 10) hx hb dP_testAt_1 (by decide) (fun h1 => ?_) (fun h1 => absurd e1 h1)
    refine lv_null hx hb dP_testAt_10 ?_
    refine lv_goto (tgt := 20) hx hb dP_testAt_11 (by decide) ?_
    exact W.aret (v := .null) hx hb hr (Or.inl ⟨_, rfl⟩) (Or.inl rfl) (fun t ht hW => ⟨by rw [hr0 (Or.inl e1)], ht⟩) (fun q h => absurd h List.not_mem_nil) dP_testAt_20
  · refine lv_iload_n hx hb dP_testAt_0 rfl (lv_at hl 1 rfl) ?_
    refine lv_if_lt (tgt := 10) hx hb dP_testAt_1 (by decide) (fun h2 => absurd h2 (fun q => absurd (Int32.lt_of_le_of_lt e1 q) (by decide))) (fun h2 => ?_)
    refine lv_iload_n hx hb dP_testAt_4 rfl (lv_at hl 1 rfl) ?_
    refine lv_bipush (v := nI 40) hx hb dP_testAt_5 (by decide) ?_
    refine lv_icmp_lt (tgt := 14) hx hb dP_testAt_7 (by decide) (fun h3 => absurd (Int32.lt_of_le_of_lt e1 h3) (fun q => Int32.lt_irrefl q)) (fun h3 => ?_)
    refine lv_null hx hb dP_testAt_10 ?_
    refine lv_goto (tgt := 20) hx hb dP_testAt_11 (by decide) ?_
    exact W.aret (v := .null) hx hb hr (Or.inl ⟨_, rfl⟩) (Or.inl rfl) (fun t ht hW => ⟨by rw [hr0 (Or.inr e1)], ht⟩) (fun q h => absurd h List.not_mem_nil) dP_testAt_20
  · refine lv_iload_n hx hb dP_testAt_0 rfl (lv_at hl 1 rfl) ?_
    refine x_zlt (a := j) (tgt := 10) hx hb dP_testAt_1 (by decide) (by omega) ?_
    refine lv_iload_n hx hb dP_testAt_4 rfl (lv_at hl 1 rfl) ?_
    refine lv_bipush (v := nI 40) hx hb dP_testAt_5 (by decide) ?_
    refine x_clt (a := j) (b := 40) (tgt := 14) hx hb dP_testAt_7 (by decide) (by omega) (by omega) (fun h5 => ?_) (fun h5 => absurd h5 (by omega))
    refine lv_aload_n hx hb dP_testAt_14 rfl (lv_at hl 0 rfl) ?_
    refine va_get (D := D) (ci := 2) (v := .ref (a + 2)) (C := RP) (T := FP) (N := 7) hx hb hT inP hown hK hP 0 rfl rfl 2 (by decide) (hT _ kP17) (fun _ h9 => h9) rfl dP_testAt_15 ?_
    refine lv_iload_n hx hb dP_testAt_18 rfl (lv_at hl 1 rfl) ?_
    refine x_aald hx hb hK hP 1 4 (j := j) (v := va_rf (fr j)) rfl rfl (by omega) (by decide) (rfl) dP_testAt_19 ?_
    exact W.aret (v := va_rf (fr j)) hx hb hr (Or.inl ⟨_, rfl⟩) (va_rf_or _) (fun t ht hW => ⟨by rw [hr1 j hj rfl], ht⟩) (fun q h => absurd h List.not_mem_nil) dP_testAt_20
set_option maxHeartbeats 400000 in
set_option maxRecDepth 100000 in
theorem c_P_differenceAt_none (l : Launch) (D : va_G) (κ : Nat → ClassId) (base : Nat) (H0 : Heap) {a nT nS : Nat} {sd : Int64} {fr : Nat → Option Nat} (hP : va_P D vwCl [(a, .inr (2, [.long sd, .ref (a + 1), .ref (a + 2), .int (nI nT), .int (nI nS), .ref (a + 3), .ref (a + 4)])), ((a + 2), .inl (κ 4, 40, .inr (.inr (.inr (.inr fr)))))] H0) (x : Int32) (hx0 : (x < 0 ∨ nI 40 ≤ x) ∨ ∃ j, j < 40 ∧ x = nI j ∧ fr j = none) : Met l yP_differenceAt wP_differenceAt ({ frames := 1, cells := 0, slots := 0, locals := 21 }) (Pq D κ base [.ref a, .int x] H0) (q_P (some (.null))) 0 0 (fun _ => False) := by
  refine Met.ofW (cc := bP_differenceAt) (maxL := 3) (ret := (some (FieldType.object "TasterPanels$Test"))) (by decide) rfl ?_
  intro p e s m args below meth c s₁ B hml hv
  obtain ⟨rfl, hH, hE⟩ := hv
  subst hH
  have hx := B.exec
  have hb := B.bytes
  have hr := B.returns
  have hT : ∀ w ∈ TT, w.before _ s = true := fun w h => atoms_spec (ws := wP_differenceAt) B.pre w (List.mem_cons_of_mem _ h)
  have hown : s.vm.findClass "TasterPanels" = some m.cls := findClass_of_methodNamed B.named
  have hlocks := B.notSynchronized
  have hK := hE.1
  have hS : va_S (fun q => base ≤ q) s.heap s.heap [] := va_S.rf
  have hAb : ∀ q : Nat, (fun q : Nat => base ≤ q) q → base ≤ q := fun _ h => h
  have hl := lv_entry ([.ref a, .int x]) (n := 3) (Nat.le_of_ble_eq_true rfl)
  rw [lg_entry_eq]
  generalize (lg_sl ([.ref a, .int x]) ++ List.replicate (3 - (lg_sl ([.ref a, .int x])).length) Slot.unset).toArray = ls at hl ⊢
  have hl : lv_has ls 3 [(0, .ref a), (1, .int x)] := hl
  refine lv_aload_n hx hb dP_differenceAt_0 rfl (lv_at hl 0 rfl) ?_
  refine lv_iload_n hx hb dP_differenceAt_1 rfl (lv_at hl 1 rfl) ?_
  refine x_callP (v := .null) (va_runV (As := [.int x]) (rest := []) ⟨hx, hb, hml, hown, hT⟩ (c_P_testAt l D κ base s.heap hP x .null (fun _ => rfl) (none_at (by decide) hx0)) (cwV 1 hT (TT_V kP52 kiP_testAt ksP_testAt knP kcP_testAt) rfl rfl rfl (by decide +kernel) ⟨Nat.le_of_ble_eq_true rfl, Nat.le_of_ble_eq_true rfl⟩) (pcV hE hS hAb (va_recv hK hP (ci := 2) (q0 := 0) rfl rfl)) rfl rfl hl.1 rfl (lv_room (Nat.le_of_ble_eq_true rfl)) dP_differenceAt_2 ⟨Nat.le_of_ble_eq_true rfl, Nat.le_of_ble_eq_true rfl⟩) ?_
  refine lv_astore_nN (lv' := [(2, .null), (0, .ref a), (1, .int x)]) hx hb dP_differenceAt_5 rfl hl (by decide) rfl (fun ls hl => ?_)
  refine lv_aload_nN hx hb dP_differenceAt_6 rfl (lv_at hl 0 rfl) ?_
  refine lv_ifnullN (tgt := 18) hx hb dP_differenceAt_7 (by decide) ?_
  refine lv_null hx hb dP_differenceAt_18 ?_
  refine lv_goto (tgt := 23) hx hb dP_differenceAt_19 (by decide) ?_
  exact W.aret (v := .null) hx hb hr (Or.inl ⟨_, rfl⟩) (Or.inl rfl) (fun t9 ht9 hW9 => ⟨rfl, ht9⟩) (fun q h => absurd h List.not_mem_nil) dP_differenceAt_23
set_option maxHeartbeats 400000 in
set_option maxRecDepth 100000 in
theorem c_P_differenceAt_some (l : Launch) (D : va_G) (κ : Nat → ClassId) (base : Nat) (H0 : Heap) {a nT nS q kd sp an ri : Nat} {sd : Int64} {fr : Nat → Option Nat} (hP : va_P D vwCl [(a, .inr (2, [.long sd, .ref (a + 1), .ref (a + 2), .int (nI nT), .int (nI nS), .ref (a + 3), .ref (a + 4)])), ((a + 2), .inl (κ 4, 40, .inr (.inr (.inr (.inr fr))))), (q, .inr (1, [.int (nI kd), .int (nI sp), .ref (q + 1), .ref (q + 2), .ref (q + 3), .int (nI an), .int (nI ri)]))] H0) (j : Nat) (hj : j < 40) (hf : fr j = some q) (hk : kd < 4) (r : Value) (hr0 : kd = 3 → r = .null) (hr1 : kd ≠ 3 → r = .ref q) : Met l yP_differenceAt wP_differenceAt ({ frames := 1, cells := 0, slots := 0, locals := 21 }) (Pq D κ base [.ref a, .int (nI j)] H0) (q_P (some (r))) 0 0 (fun _ => False) := by
  refine Met.ofW (cc := bP_differenceAt) (maxL := 3) (ret := (some (FieldType.object "TasterPanels$Test"))) (by decide) rfl ?_
  intro p e s m args below meth c s₁ B hml hv
  obtain ⟨rfl, hH, hE⟩ := hv
  subst hH
  have hx := B.exec
  have hb := B.bytes
  have hr := B.returns
  have hT : ∀ w ∈ TT, w.before _ s = true := fun w h => atoms_spec (ws := wP_differenceAt) B.pre w (List.mem_cons_of_mem _ h)
  have hown : s.vm.findClass "TasterPanels" = some m.cls := findClass_of_methodNamed B.named
  have hlocks := B.notSynchronized
  have hK := hE.1
  have hS : va_S (fun q => base ≤ q) s.heap s.heap [] := va_S.rf
  have hAb : ∀ q : Nat, (fun q : Nat => base ≤ q) q → base ≤ q := fun _ h => h
  have hl := lv_entry ([.ref a, .int (nI j)]) (n := 3) (Nat.le_of_ble_eq_true rfl)
  rw [lg_entry_eq]
  generalize (lg_sl ([.ref a, .int (nI j)]) ++ List.replicate (3 - (lg_sl ([.ref a, .int (nI j)])).length) Slot.unset).toArray = ls at hl ⊢
  have hl : lv_has ls 3 [(0, .ref a), (1, .int (nI j))] := hl
  refine lv_aload_n hx hb dP_differenceAt_0 rfl (lv_at hl 0 rfl) ?_
  refine lv_iload_n hx hb dP_differenceAt_1 rfl (lv_at hl 1 rfl) ?_
  refine x_callP (v := .ref q) (va_runV (As := [.int (nI j)]) (rest := []) ⟨hx, hb, hml, hown, hT⟩ (c_P_testAt l D κ base s.heap (hP.sub [0, 1] rfl) (nI j) (.ref q) (fun h => at_out (by decide) hj h rfl) (some_at (by decide) hj hf)) (cwV 1 hT (TT_V kP52 kiP_testAt ksP_testAt knP kcP_testAt) rfl rfl rfl (by decide +kernel) ⟨Nat.le_of_ble_eq_true rfl, Nat.le_of_ble_eq_true rfl⟩) (pcV hE hS hAb (va_recv hK hP (ci := 2) (q0 := 0) rfl rfl)) rfl rfl hl.1 rfl (lv_room (Nat.le_of_ble_eq_true rfl)) dP_differenceAt_2 ⟨Nat.le_of_ble_eq_true rfl, Nat.le_of_ble_eq_true rfl⟩) ?_
  refine lv_astore_n (lv' := [(2, .ref q), (0, .ref a), (1, .int (nI j))]) hx hb dP_differenceAt_5 rfl hl (by decide) rfl (fun ls hl => ?_)
  refine lv_aload_n hx hb dP_differenceAt_6 rfl (lv_at hl 0 rfl) ?_
  refine lv_ifnull hx hb dP_differenceAt_7 ?_
  refine lv_aload_n hx hb dP_differenceAt_10 rfl (lv_at hl 0 rfl) ?_
  refine va_getN (D := D) (ci := 1) (v := .int (nI kd)) (C := RS) (T := FS) (N := 7) hx hb hT inS hown hK hP 2 rfl rfl 0 (by decide) (va_Nw.use rfl (kN85 hE.2.1)) (fun _ h9 => h9) rfl dP_differenceAt_11 ?_
  refine lv_iconst (v := nI 3) hx hb dP_differenceAt_14 (by decide) ?_
  refine x_cne (a := kd) (b := 3) (tgt := 22) hx hb dP_differenceAt_15 (by decide) (by omega) (by omega) (fun h1 => ?_) (fun h1 => ?_)
  · refine lv_aload_n hx hb dP_differenceAt_22 rfl (lv_at hl 0 rfl) ?_
    exact W.aret (v := .ref q) hx hb hr (Or.inl ⟨_, rfl⟩) (Or.inr ⟨_, rfl⟩) (fun t9 ht9 hW9 => ⟨by rw [hr1 h1], ht9⟩) (fun q h => absurd h List.not_mem_nil) dP_differenceAt_23
  · refine lv_null hx hb dP_differenceAt_18 ?_
    refine lv_goto (tgt := 23) hx hb dP_differenceAt_19 (by decide) ?_
    exact W.aret (v := .null) hx hb hr (Or.inl ⟨_, rfl⟩) (Or.inl rfl) (fun t9 ht9 hW9 => ⟨by rw [hr0 h1], ht9⟩) (fun q h => absurd h List.not_mem_nil) dP_differenceAt_23
set_option maxHeartbeats 400000 in
set_option maxRecDepth 100000 in
theorem c_P_rankingAt_none (l : Launch) (D : va_G) (κ : Nat → ClassId) (base : Nat) (H0 : Heap) {a nT nS : Nat} {sd : Int64} {fr : Nat → Option Nat} (hP : va_P D vwCl [(a, .inr (2, [.long sd, .ref (a + 1), .ref (a + 2), .int (nI nT), .int (nI nS), .ref (a + 3), .ref (a + 4)])), ((a + 2), .inl (κ 4, 40, .inr (.inr (.inr (.inr fr)))))] H0) (x : Int32) (hx0 : (x < 0 ∨ nI 40 ≤ x) ∨ ∃ j, j < 40 ∧ x = nI j ∧ fr j = none) : Met l yP_rankingAt wP_rankingAt ({ frames := 1, cells := 0, slots := 0, locals := 21 }) (Pq D κ base [.ref a, .int x] H0) (q_P (some (.null))) 0 0 (fun _ => False) := by
  refine Met.ofW (cc := bP_rankingAt) (maxL := 3) (ret := (some (FieldType.object "TasterPanels$Test"))) (by decide) rfl ?_
  intro p e s m args below meth c s₁ B hml hv
  obtain ⟨rfl, hH, hE⟩ := hv
  subst hH
  have hx := B.exec
  have hb := B.bytes
  have hr := B.returns
  have hT : ∀ w ∈ TT, w.before _ s = true := fun w h => atoms_spec (ws := wP_rankingAt) B.pre w (List.mem_cons_of_mem _ h)
  have hown : s.vm.findClass "TasterPanels" = some m.cls := findClass_of_methodNamed B.named
  have hlocks := B.notSynchronized
  have hK := hE.1
  have hS : va_S (fun q => base ≤ q) s.heap s.heap [] := va_S.rf
  have hAb : ∀ q : Nat, (fun q : Nat => base ≤ q) q → base ≤ q := fun _ h => h
  have hl := lv_entry ([.ref a, .int x]) (n := 3) (Nat.le_of_ble_eq_true rfl)
  rw [lg_entry_eq]
  generalize (lg_sl ([.ref a, .int x]) ++ List.replicate (3 - (lg_sl ([.ref a, .int x])).length) Slot.unset).toArray = ls at hl ⊢
  have hl : lv_has ls 3 [(0, .ref a), (1, .int x)] := hl
  refine lv_aload_n hx hb dP_rankingAt_0 rfl (lv_at hl 0 rfl) ?_
  refine lv_iload_n hx hb dP_rankingAt_1 rfl (lv_at hl 1 rfl) ?_
  refine x_callP (v := .null) (va_runV (As := [.int x]) (rest := []) ⟨hx, hb, hml, hown, hT⟩ (c_P_testAt l D κ base s.heap hP x .null (fun _ => rfl) (none_at (by decide) hx0)) (cwV 1 hT (TT_V kP52 kiP_testAt ksP_testAt knP kcP_testAt) rfl rfl rfl (by decide +kernel) ⟨Nat.le_of_ble_eq_true rfl, Nat.le_of_ble_eq_true rfl⟩) (pcV hE hS hAb (va_recv hK hP (ci := 2) (q0 := 0) rfl rfl)) rfl rfl hl.1 rfl (lv_room (Nat.le_of_ble_eq_true rfl)) dP_rankingAt_2 ⟨Nat.le_of_ble_eq_true rfl, Nat.le_of_ble_eq_true rfl⟩) ?_
  refine lv_astore_nN (lv' := [(2, .null), (0, .ref a), (1, .int x)]) hx hb dP_rankingAt_5 rfl hl (by decide) rfl (fun ls hl => ?_)
  refine lv_aload_nN hx hb dP_rankingAt_6 rfl (lv_at hl 0 rfl) ?_
  refine lv_ifnullN (tgt := 18) hx hb dP_rankingAt_7 (by decide) ?_
  refine lv_null hx hb dP_rankingAt_18 ?_
  refine lv_goto (tgt := 23) hx hb dP_rankingAt_19 (by decide) ?_
  exact W.aret (v := .null) hx hb hr (Or.inl ⟨_, rfl⟩) (Or.inl rfl) (fun t9 ht9 hW9 => ⟨rfl, ht9⟩) (fun q h => absurd h List.not_mem_nil) dP_rankingAt_23
set_option maxHeartbeats 400000 in
set_option maxRecDepth 100000 in
theorem c_P_rankingAt_some (l : Launch) (D : va_G) (κ : Nat → ClassId) (base : Nat) (H0 : Heap) {a nT nS q kd sp an ri : Nat} {sd : Int64} {fr : Nat → Option Nat} (hP : va_P D vwCl [(a, .inr (2, [.long sd, .ref (a + 1), .ref (a + 2), .int (nI nT), .int (nI nS), .ref (a + 3), .ref (a + 4)])), ((a + 2), .inl (κ 4, 40, .inr (.inr (.inr (.inr fr))))), (q, .inr (1, [.int (nI kd), .int (nI sp), .ref (q + 1), .ref (q + 2), .ref (q + 3), .int (nI an), .int (nI ri)]))] H0) (j : Nat) (hj : j < 40) (hf : fr j = some q) (hk : kd < 4) (r : Value) (hr0 : kd ≠ 3 → r = .null) (hr1 : kd = 3 → r = .ref q) : Met l yP_rankingAt wP_rankingAt ({ frames := 1, cells := 0, slots := 0, locals := 21 }) (Pq D κ base [.ref a, .int (nI j)] H0) (q_P (some (r))) 0 0 (fun _ => False) := by
  refine Met.ofW (cc := bP_rankingAt) (maxL := 3) (ret := (some (FieldType.object "TasterPanels$Test"))) (by decide) rfl ?_
  intro p e s m args below meth c s₁ B hml hv
  obtain ⟨rfl, hH, hE⟩ := hv
  subst hH
  have hx := B.exec
  have hb := B.bytes
  have hr := B.returns
  have hT : ∀ w ∈ TT, w.before _ s = true := fun w h => atoms_spec (ws := wP_rankingAt) B.pre w (List.mem_cons_of_mem _ h)
  have hown : s.vm.findClass "TasterPanels" = some m.cls := findClass_of_methodNamed B.named
  have hlocks := B.notSynchronized
  have hK := hE.1
  have hS : va_S (fun q => base ≤ q) s.heap s.heap [] := va_S.rf
  have hAb : ∀ q : Nat, (fun q : Nat => base ≤ q) q → base ≤ q := fun _ h => h
  have hl := lv_entry ([.ref a, .int (nI j)]) (n := 3) (Nat.le_of_ble_eq_true rfl)
  rw [lg_entry_eq]
  generalize (lg_sl ([.ref a, .int (nI j)]) ++ List.replicate (3 - (lg_sl ([.ref a, .int (nI j)])).length) Slot.unset).toArray = ls at hl ⊢
  have hl : lv_has ls 3 [(0, .ref a), (1, .int (nI j))] := hl
  refine lv_aload_n hx hb dP_rankingAt_0 rfl (lv_at hl 0 rfl) ?_
  refine lv_iload_n hx hb dP_rankingAt_1 rfl (lv_at hl 1 rfl) ?_
  refine x_callP (v := .ref q) (va_runV (As := [.int (nI j)]) (rest := []) ⟨hx, hb, hml, hown, hT⟩ (c_P_testAt l D κ base s.heap (hP.sub [0, 1] rfl) (nI j) (.ref q) (fun h => at_out (by decide) hj h rfl) (some_at (by decide) hj hf)) (cwV 1 hT (TT_V kP52 kiP_testAt ksP_testAt knP kcP_testAt) rfl rfl rfl (by decide +kernel) ⟨Nat.le_of_ble_eq_true rfl, Nat.le_of_ble_eq_true rfl⟩) (pcV hE hS hAb (va_recv hK hP (ci := 2) (q0 := 0) rfl rfl)) rfl rfl hl.1 rfl (lv_room (Nat.le_of_ble_eq_true rfl)) dP_rankingAt_2 ⟨Nat.le_of_ble_eq_true rfl, Nat.le_of_ble_eq_true rfl⟩) ?_
  refine lv_astore_n (lv' := [(2, .ref q), (0, .ref a), (1, .int (nI j))]) hx hb dP_rankingAt_5 rfl hl (by decide) rfl (fun ls hl => ?_)
  refine lv_aload_n hx hb dP_rankingAt_6 rfl (lv_at hl 0 rfl) ?_
  refine lv_ifnull hx hb dP_rankingAt_7 ?_
  refine lv_aload_n hx hb dP_rankingAt_10 rfl (lv_at hl 0 rfl) ?_
  refine va_getN (D := D) (ci := 1) (v := .int (nI kd)) (C := RS) (T := FS) (N := 7) hx hb hT inS hown hK hP 2 rfl rfl 0 (by decide) (va_Nw.use rfl (kN85 hE.2.1)) (fun _ h9 => h9) rfl dP_rankingAt_11 ?_
  refine lv_iconst (v := nI 3) hx hb dP_rankingAt_14 (by decide) ?_
  refine x_ceq (a := kd) (b := 3) (tgt := 22) hx hb dP_rankingAt_15 (by decide) (by omega) (by omega) (fun h1 => ?_) (fun h1 => ?_)
  · refine lv_aload_n hx hb dP_rankingAt_22 rfl (lv_at hl 0 rfl) ?_
    exact W.aret (v := .ref q) hx hb hr (Or.inl ⟨_, rfl⟩) (Or.inr ⟨_, rfl⟩) (fun t9 ht9 hW9 => ⟨by rw [hr1 h1], ht9⟩) (fun q h => absurd h List.not_mem_nil) dP_rankingAt_23
  · refine lv_null hx hb dP_rankingAt_18 ?_
    refine lv_goto (tgt := 23) hx hb dP_rankingAt_19 (by decide) ?_
    exact W.aret (v := .null) hx hb hr (Or.inl ⟨_, rfl⟩) (Or.inl rfl) (fun t9 ht9 hW9 => ⟨by rw [hr0 h1], ht9⟩) (fun q h => absurd h List.not_mem_nil) dP_rankingAt_23
