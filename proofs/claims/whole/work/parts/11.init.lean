/-! constructors -/
set_option maxHeartbeats 400000 in
set_option maxRecDepth 100000 in
theorem c_T_init (l : Launch) (D : va_G) (κ : Nat → ClassId) (base : Nat) (H0 : Heap) {q : Nat} (hz : H0.size = (q + 1)) (hP : va_P D vwCl [(q, .inr (0, [.null, .null, .int (nI 0), .int (nI 0)]))] H0) (hD0 : va_D (fun q => base ≤ q) [(q, .inr (0, [.null, .null, .int (nI 0), .int (nI 0)]))]) (hbs : base ≤ H0.size)  : Met l yT_init wT_init ({ frames := 1, cells := 2, slots := 32, locals := 12 }) (Pq D κ base [.ref q] H0) (q_W (fun v H => Pst D (va_A [(q, .inr (0, [.null, .null, .int (nI 0), .int (nI 0)]))] H0.size) H0 none [(q, .inr (0, [.ref (q + 1), .ref (q + 2), .int (nI 0), .int (nI 0)])), ((q + 1), .inl (κ 1, 16, .inl (fun _ => nI 0))), ((q + 2), .inl (κ 1, 16, .inl (fun _ => nI 0)))] v H ∧ H.size = q + 3)) 2 32 (va_A [(q, .inr (0, [.null, .null, .int (nI 0), .int (nI 0)]))] H0.size) := by
  refine Met.ofW (cc := bT_init) (maxL := 1) (ret := none) (by decide) rfl ?_
  intro p e s m args below meth c s₁ B hml hv
  obtain ⟨rfl, hH, hE⟩ := hv
  subst hH
  have hx := B.exec
  have hb := B.bytes
  have hr := B.returns
  have hT : ∀ w ∈ TT, w.before _ s = true := fun w h => atoms_spec (ws := wT_init) B.pre w (List.mem_cons_of_mem _ h)
  have hown : s.vm.findClass "TasterPanels$Taster" = some m.cls := findClass_of_methodNamed B.named
  have hlocks := B.notSynchronized
  have hin : meth.name = "<init>" := (name_of_methodNamed B.named B.method).1
  have hK := hE.1
  have hD := hD0.self (sz := s.heap.size)
  have hAb : ∀ x9, va_A [(q, .inr (0, [.null, .null, .int (nI 0), .int (nI 0)]))] s.heap.size x9 → base ≤ x9 := fun x9 h => by rcases h with ⟨k, e, h⟩ | h; exact hD0.2 k _ h; exact Nat.le_trans hbs h
  generalize hAe : va_A [(q, .inr (0, [.null, .null, .int (nI 0), .int (nI 0)]))] s.heap.size = A at hD hAb ⊢
  have hA : ∀ x9, s.heap.size ≤ x9 → A x9 := fun x9 h => by rw [← hAe]; exact Or.inr h
  have hS : va_S A s.heap s.heap [] := va_S.rf
  have hl := lv_entry ([.ref q]) (n := 1) (Nat.le_of_ble_eq_true rfl)
  rw [lg_entry_eq]
  generalize (lg_sl ([.ref q]) ++ List.replicate (1 - (lg_sl ([.ref q])).length) Slot.unset).toArray = ls at hl ⊢
  have hl : lv_has ls 1 [(0, .ref q)] := hl
  refine lv_aload_n hx hb dT_init_0 rfl (lv_at hl 0 rfl) ?_
  refine W.objInit hx hb hown (hT _ kT3) (hT _ ki_obj) (hT _ kc_obj') rfl (by rw [hml]; exact hl.1) rfl dT_init_1 (Nat.le_of_ble_eq_true rfl) (Nat.le_of_ble_eq_true rfl) ?_
  refine W.eq (g2 := F0 m 4 ls []) rfl ?_
  refine lv_aload_n hx hb dT_init_4 rfl (lv_at hl 0 rfl) ?_
  refine lv_bipush (v := nI 16) hx hb dT_init_5 (by decide) ?_
  refine x_newa (atype := .boolean) (a0 := (16, .inl (fun _ => nI 0))) hx hb (hT _ ka_boolean) rfl (fun C h => by cases h) hK hP hD hS hA 1 rfl (fun _ => rfl) (by decide) (by decide) (Nat.le_of_ble_eq_true rfl) (Nat.le_of_ble_eq_true rfl) hz dT_init_7 (fun H hP hD hS hz => ?_)
  have hP : va_P D vwCl [(q, .inr (0, [.null, .null, .int (nI 0), .int (nI 0)])), ((q + 1), .inl (κ 1, 16, .inl (fun _ => nI 0)))] H := hP
  have hD : va_D A [(q, .inr (0, [.null, .null, .int (nI 0), .int (nI 0)])), ((q + 1), .inl (κ 1, 16, .inl (fun _ => nI 0)))] := hD
  refine x_putF (D := D) (ci := 0) (v := .ref (q + 1)) (ty := .array .boolean) (C := RT) (T := FT) (N := 4) hx hb hT inT tyT tyT_ok nmT hown hK hP hD hS 0 rfl rfl 0 (by decide) (hT _ kT9) (fun _ h9 => h9) rfl hin rfl (by decide +kernel) rfl rfl (Nat.le_of_ble_eq_true rfl) dT_init_9 (fun H locs hP hD hS hz9 => ?_)
  rw [hz] at hz9
  have hz := hz9
  have hP : va_P D vwCl [(q, .inr (0, [.ref (q + 1), .null, .int (nI 0), .int (nI 0)])), ((q + 1), .inl (κ 1, 16, .inl (fun _ => nI 0)))] H := hP
  have hD : va_D A [(q, .inr (0, [.ref (q + 1), .null, .int (nI 0), .int (nI 0)])), ((q + 1), .inl (κ 1, 16, .inl (fun _ => nI 0)))] := hD
  refine lv_aload_n hx hb dT_init_12 rfl (lv_at hl 0 rfl) ?_
  refine lv_bipush (v := nI 16) hx hb dT_init_13 (by decide) ?_
  refine x_newa (atype := .boolean) (a0 := (16, .inl (fun _ => nI 0))) hx hb (hT _ ka_boolean) rfl (fun C h => by cases h) hK hP hD hS hA 1 rfl (fun _ => rfl) (by decide) (by decide) (Nat.le_of_ble_eq_true rfl) (Nat.le_of_ble_eq_true rfl) hz dT_init_15 (fun H hP hD hS hz => ?_)
  have hP : va_P D vwCl [(q, .inr (0, [.ref (q + 1), .null, .int (nI 0), .int (nI 0)])), ((q + 1), .inl (κ 1, 16, .inl (fun _ => nI 0))), ((q + 2), .inl (κ 1, 16, .inl (fun _ => nI 0)))] H := hP
  have hD : va_D A [(q, .inr (0, [.ref (q + 1), .null, .int (nI 0), .int (nI 0)])), ((q + 1), .inl (κ 1, 16, .inl (fun _ => nI 0))), ((q + 2), .inl (κ 1, 16, .inl (fun _ => nI 0)))] := hD
  refine x_putF (D := D) (ci := 0) (v := .ref (q + 2)) (ty := .array .boolean) (C := RT) (T := FT) (N := 4) hx hb hT inT tyT tyT_ok nmT hown hK hP hD hS 0 rfl rfl 1 (by decide) (hT _ kT15) (fun _ h9 => h9) rfl hin rfl (by decide +kernel) rfl rfl (Nat.le_of_ble_eq_true rfl) dT_init_17 (fun H locs hP hD hS hz9 => ?_)
  rw [hz] at hz9
  have hz := hz9
  have hP : va_P D vwCl [(q, .inr (0, [.ref (q + 1), .ref (q + 2), .int (nI 0), .int (nI 0)])), ((q + 1), .inl (κ 1, 16, .inl (fun _ => nI 0))), ((q + 2), .inl (κ 1, 16, .inl (fun _ => nI 0)))] H := hP
  have hD : va_D A [(q, .inr (0, [.ref (q + 1), .ref (q + 2), .int (nI 0), .int (nI 0)])), ((q + 1), .inl (κ 1, 16, .inl (fun _ => nI 0))), ((q + 2), .inl (κ 1, 16, .inl (fun _ => nI 0)))] := hD
  exact W.vret hx hb hr (fun t9 ht9 hW9 => ⟨none, rfl, by rw [ht9]; exact ⟨⟨rfl, hP, hD, hS.1, hS.2.1⟩, hz⟩⟩) hS.2.2 dT_init_20
set_option maxHeartbeats 400000 in
set_option maxRecDepth 100000 in
theorem c_S_init (l : Launch) (D : va_G) (κ : Nat → ClassId) (base : Nat) (H0 : Heap) {q : Nat} (kd sp : Nat) (hz : H0.size = (q + 1)) (hP : va_P D vwCl [(q, .inr (1, [.int (nI 0), .int (nI 0), .null, .null, .null, .int (nI 0), .int (nI 0)]))] H0) (hD0 : va_D (fun q => base ≤ q) [(q, .inr (1, [.int (nI 0), .int (nI 0), .null, .null, .null, .int (nI 0), .int (nI 0)]))]) (hbs : base ≤ H0.size)  : Met l yS_init wS_init ({ frames := 1, cells := 3, slots := 182, locals := 12 }) (Pq D κ base [.ref q, .int (nI kd), .int (nI sp)] H0) (q_W (fun v H => Pst D (va_A [(q, .inr (1, [.int (nI 0), .int (nI 0), .null, .null, .null, .int (nI 0), .int (nI 0)]))] H0.size) H0 none [(q, .inr (1, [.int (nI kd), .int (nI sp), .ref (q + 1), .ref (q + 2), .ref (q + 3), .int (nI 0), .int (nI 0)])), ((q + 1), .inl (κ 0, 26, .inl (fun _ => nI 0))), ((q + 2), .inl (κ 1, 26, .inl (fun _ => nI 0))), ((q + 3), .inl (κ 0, 130, .inl (fun _ => nI 0)))] v H ∧ H.size = q + 4)) 3 182 (va_A [(q, .inr (1, [.int (nI 0), .int (nI 0), .null, .null, .null, .int (nI 0), .int (nI 0)]))] H0.size) := by
  refine Met.ofW (cc := bS_init) (maxL := 3) (ret := none) (by decide) rfl ?_
  intro p e s m args below meth c s₁ B hml hv
  obtain ⟨rfl, hH, hE⟩ := hv
  subst hH
  have hx := B.exec
  have hb := B.bytes
  have hr := B.returns
  have hT : ∀ w ∈ TT, w.before _ s = true := fun w h => atoms_spec (ws := wS_init) B.pre w (List.mem_cons_of_mem _ h)
  have hown : s.vm.findClass "TasterPanels$Test" = some m.cls := findClass_of_methodNamed B.named
  have hlocks := B.notSynchronized
  have hin : meth.name = "<init>" := (name_of_methodNamed B.named B.method).1
  have hK := hE.1
  have hD := hD0.self (sz := s.heap.size)
  have hAb : ∀ x9, va_A [(q, .inr (1, [.int (nI 0), .int (nI 0), .null, .null, .null, .int (nI 0), .int (nI 0)]))] s.heap.size x9 → base ≤ x9 := fun x9 h => by rcases h with ⟨k, e, h⟩ | h; exact hD0.2 k _ h; exact Nat.le_trans hbs h
  generalize hAe : va_A [(q, .inr (1, [.int (nI 0), .int (nI 0), .null, .null, .null, .int (nI 0), .int (nI 0)]))] s.heap.size = A at hD hAb ⊢
  have hA : ∀ x9, s.heap.size ≤ x9 → A x9 := fun x9 h => by rw [← hAe]; exact Or.inr h
  have hS : va_S A s.heap s.heap [] := va_S.rf
  have hl := lv_entry ([.ref q, .int (nI kd), .int (nI sp)]) (n := 3) (Nat.le_of_ble_eq_true rfl)
  rw [lg_entry_eq]
  generalize (lg_sl ([.ref q, .int (nI kd), .int (nI sp)]) ++ List.replicate (3 - (lg_sl ([.ref q, .int (nI kd), .int (nI sp)])).length) Slot.unset).toArray = ls at hl ⊢
  have hl : lv_has ls 3 [(0, .ref q), (1, .int (nI kd)), (2, .int (nI sp))] := hl
  refine lv_aload_n hx hb dS_init_0 rfl (lv_at hl 0 rfl) ?_
  refine W.objInit hx hb hown (hT _ kS3) (hT _ ki_obj) (hT _ kc_obj') rfl (by rw [hml]; exact hl.1) rfl dS_init_1 (Nat.le_of_ble_eq_true rfl) (Nat.le_of_ble_eq_true rfl) ?_
  refine W.eq (g2 := F0 m 4 ls []) rfl ?_
  refine lv_aload_n hx hb dS_init_4 rfl (lv_at hl 0 rfl) ?_
  refine lv_bipush (v := nI 26) hx hb dS_init_5 (by decide) ?_
  refine x_newa (atype := .int) (a0 := (26, .inl (fun _ => nI 0))) hx hb (hT _ ka_int) rfl (fun C h => by cases h) hK hP hD hS hA 0 rfl (fun _ => rfl) (by decide) (by decide) (Nat.le_of_ble_eq_true rfl) (Nat.le_of_ble_eq_true rfl) hz dS_init_7 (fun H hP hD hS hz => ?_)
  have hP : va_P D vwCl [(q, .inr (1, [.int (nI 0), .int (nI 0), .null, .null, .null, .int (nI 0), .int (nI 0)])), ((q + 1), .inl (κ 0, 26, .inl (fun _ => nI 0)))] H := hP
  have hD : va_D A [(q, .inr (1, [.int (nI 0), .int (nI 0), .null, .null, .null, .int (nI 0), .int (nI 0)])), ((q + 1), .inl (κ 0, 26, .inl (fun _ => nI 0)))] := hD
  refine x_putF (D := D) (ci := 1) (v := .ref (q + 1)) (ty := .array .int) (C := RS) (T := FS) (N := 7) hx hb hT inS tyS tyS_ok nmS hown hK hP hD hS 0 rfl rfl 2 (by decide) (hT _ kS9) (fun _ h9 => h9) rfl hin rfl (by decide +kernel) rfl rfl (Nat.le_of_ble_eq_true rfl) dS_init_9 (fun H locs hP hD hS hz9 => ?_)
  rw [hz] at hz9
  have hz := hz9
  have hP : va_P D vwCl [(q, .inr (1, [.int (nI 0), .int (nI 0), .ref (q + 1), .null, .null, .int (nI 0), .int (nI 0)])), ((q + 1), .inl (κ 0, 26, .inl (fun _ => nI 0)))] H := hP
  have hD : va_D A [(q, .inr (1, [.int (nI 0), .int (nI 0), .ref (q + 1), .null, .null, .int (nI 0), .int (nI 0)])), ((q + 1), .inl (κ 0, 26, .inl (fun _ => nI 0)))] := hD
  refine lv_aload_n hx hb dS_init_12 rfl (lv_at hl 0 rfl) ?_
  refine lv_bipush (v := nI 26) hx hb dS_init_13 (by decide) ?_
  refine x_newa (atype := .boolean) (a0 := (26, .inl (fun _ => nI 0))) hx hb (hT _ ka_boolean) rfl (fun C h => by cases h) hK hP hD hS hA 1 rfl (fun _ => rfl) (by decide) (by decide) (Nat.le_of_ble_eq_true rfl) (Nat.le_of_ble_eq_true rfl) hz dS_init_15 (fun H hP hD hS hz => ?_)
  have hP : va_P D vwCl [(q, .inr (1, [.int (nI 0), .int (nI 0), .ref (q + 1), .null, .null, .int (nI 0), .int (nI 0)])), ((q + 1), .inl (κ 0, 26, .inl (fun _ => nI 0))), ((q + 2), .inl (κ 1, 26, .inl (fun _ => nI 0)))] H := hP
  have hD : va_D A [(q, .inr (1, [.int (nI 0), .int (nI 0), .ref (q + 1), .null, .null, .int (nI 0), .int (nI 0)])), ((q + 1), .inl (κ 0, 26, .inl (fun _ => nI 0))), ((q + 2), .inl (κ 1, 26, .inl (fun _ => nI 0)))] := hD
  refine x_putF (D := D) (ci := 1) (v := .ref (q + 2)) (ty := .array .boolean) (C := RS) (T := FS) (N := 7) hx hb hT inS tyS tyS_ok nmS hown hK hP hD hS 0 rfl rfl 3 (by decide) (hT _ kS15) (fun _ h9 => h9) rfl hin rfl (by decide +kernel) rfl rfl (Nat.le_of_ble_eq_true rfl) dS_init_17 (fun H locs hP hD hS hz9 => ?_)
  rw [hz] at hz9
  have hz := hz9
  have hP : va_P D vwCl [(q, .inr (1, [.int (nI 0), .int (nI 0), .ref (q + 1), .ref (q + 2), .null, .int (nI 0), .int (nI 0)])), ((q + 1), .inl (κ 0, 26, .inl (fun _ => nI 0))), ((q + 2), .inl (κ 1, 26, .inl (fun _ => nI 0)))] H := hP
  have hD : va_D A [(q, .inr (1, [.int (nI 0), .int (nI 0), .ref (q + 1), .ref (q + 2), .null, .int (nI 0), .int (nI 0)])), ((q + 1), .inl (κ 0, 26, .inl (fun _ => nI 0))), ((q + 2), .inl (κ 1, 26, .inl (fun _ => nI 0)))] := hD
  refine lv_aload_n hx hb dS_init_20 rfl (lv_at hl 0 rfl) ?_
  refine lv_sipush (v := nI 130) hx hb dS_init_21 (by decide) ?_
  refine x_newa (atype := .int) (a0 := (130, .inl (fun _ => nI 0))) hx hb (hT _ ka_int) rfl (fun C h => by cases h) hK hP hD hS hA 0 rfl (fun _ => rfl) (by decide) (by decide) (Nat.le_of_ble_eq_true rfl) (Nat.le_of_ble_eq_true rfl) hz dS_init_24 (fun H hP hD hS hz => ?_)
  have hP : va_P D vwCl [(q, .inr (1, [.int (nI 0), .int (nI 0), .ref (q + 1), .ref (q + 2), .null, .int (nI 0), .int (nI 0)])), ((q + 1), .inl (κ 0, 26, .inl (fun _ => nI 0))), ((q + 2), .inl (κ 1, 26, .inl (fun _ => nI 0))), ((q + 3), .inl (κ 0, 130, .inl (fun _ => nI 0)))] H := hP
  have hD : va_D A [(q, .inr (1, [.int (nI 0), .int (nI 0), .ref (q + 1), .ref (q + 2), .null, .int (nI 0), .int (nI 0)])), ((q + 1), .inl (κ 0, 26, .inl (fun _ => nI 0))), ((q + 2), .inl (κ 1, 26, .inl (fun _ => nI 0))), ((q + 3), .inl (κ 0, 130, .inl (fun _ => nI 0)))] := hD
  refine x_putF (D := D) (ci := 1) (v := .ref (q + 3)) (ty := .array .int) (C := RS) (T := FS) (N := 7) hx hb hT inS tyS tyS_ok nmS hown hK hP hD hS 0 rfl rfl 4 (by decide) (hT _ kS19) (fun _ h9 => h9) rfl hin rfl (by decide +kernel) rfl rfl (Nat.le_of_ble_eq_true rfl) dS_init_26 (fun H locs hP hD hS hz9 => ?_)
  rw [hz] at hz9
  have hz := hz9
  have hP : va_P D vwCl [(q, .inr (1, [.int (nI 0), .int (nI 0), .ref (q + 1), .ref (q + 2), .ref (q + 3), .int (nI 0), .int (nI 0)])), ((q + 1), .inl (κ 0, 26, .inl (fun _ => nI 0))), ((q + 2), .inl (κ 1, 26, .inl (fun _ => nI 0))), ((q + 3), .inl (κ 0, 130, .inl (fun _ => nI 0)))] H := hP
  have hD : va_D A [(q, .inr (1, [.int (nI 0), .int (nI 0), .ref (q + 1), .ref (q + 2), .ref (q + 3), .int (nI 0), .int (nI 0)])), ((q + 1), .inl (κ 0, 26, .inl (fun _ => nI 0))), ((q + 2), .inl (κ 1, 26, .inl (fun _ => nI 0))), ((q + 3), .inl (κ 0, 130, .inl (fun _ => nI 0)))] := hD
  refine lv_aload_n hx hb dS_init_29 rfl (lv_at hl 0 rfl) ?_
  refine lv_iload_n hx hb dS_init_30 rfl (lv_at hl 1 rfl) ?_
  refine x_putF (D := D) (ci := 1) (v := .int (nI kd)) (ty := .int) (C := RS) (T := FS) (N := 7) hx hb hT inS tyS tyS_ok nmS hown hK hP hD hS 0 rfl rfl 0 (by decide) (hT _ kS22) (fun _ h9 => h9) rfl hin rfl (by decide +kernel) rfl rfl (Nat.le_of_ble_eq_true rfl) dS_init_31 (fun H locs hP hD hS hz9 => ?_)
  rw [hz] at hz9
  have hz := hz9
  have hP : va_P D vwCl [(q, .inr (1, [.int (nI kd), .int (nI 0), .ref (q + 1), .ref (q + 2), .ref (q + 3), .int (nI 0), .int (nI 0)])), ((q + 1), .inl (κ 0, 26, .inl (fun _ => nI 0))), ((q + 2), .inl (κ 1, 26, .inl (fun _ => nI 0))), ((q + 3), .inl (κ 0, 130, .inl (fun _ => nI 0)))] H := hP
  have hD : va_D A [(q, .inr (1, [.int (nI kd), .int (nI 0), .ref (q + 1), .ref (q + 2), .ref (q + 3), .int (nI 0), .int (nI 0)])), ((q + 1), .inl (κ 0, 26, .inl (fun _ => nI 0))), ((q + 2), .inl (κ 1, 26, .inl (fun _ => nI 0))), ((q + 3), .inl (κ 0, 130, .inl (fun _ => nI 0)))] := hD
  refine lv_aload_n hx hb dS_init_34 rfl (lv_at hl 0 rfl) ?_
  refine lv_iload_n hx hb dS_init_35 rfl (lv_at hl 2 rfl) ?_
  refine x_putF (D := D) (ci := 1) (v := .int (nI sp)) (ty := .int) (C := RS) (T := FS) (N := 7) hx hb hT inS tyS tyS_ok nmS hown hK hP hD hS 0 rfl rfl 1 (by decide) (hT _ kS26) (fun _ h9 => h9) rfl hin rfl (by decide +kernel) rfl rfl (Nat.le_of_ble_eq_true rfl) dS_init_36 (fun H locs hP hD hS hz9 => ?_)
  rw [hz] at hz9
  have hz := hz9
  have hP : va_P D vwCl [(q, .inr (1, [.int (nI kd), .int (nI sp), .ref (q + 1), .ref (q + 2), .ref (q + 3), .int (nI 0), .int (nI 0)])), ((q + 1), .inl (κ 0, 26, .inl (fun _ => nI 0))), ((q + 2), .inl (κ 1, 26, .inl (fun _ => nI 0))), ((q + 3), .inl (κ 0, 130, .inl (fun _ => nI 0)))] H := hP
  have hD : va_D A [(q, .inr (1, [.int (nI kd), .int (nI sp), .ref (q + 1), .ref (q + 2), .ref (q + 3), .int (nI 0), .int (nI 0)])), ((q + 1), .inl (κ 0, 26, .inl (fun _ => nI 0))), ((q + 2), .inl (κ 1, 26, .inl (fun _ => nI 0))), ((q + 3), .inl (κ 0, 130, .inl (fun _ => nI 0)))] := hD
  exact W.vret hx hb hr (fun t9 ht9 hW9 => ⟨none, rfl, by rw [ht9]; exact ⟨⟨rfl, hP, hD, hS.1, hS.2.1⟩, hz⟩⟩) hS.2.2 dS_init_39
set_option maxHeartbeats 400000 in
set_option maxRecDepth 100000 in
theorem c_P_init (l : Launch) (D : va_G) (κ : Nat → ClassId) (base : Nat) (H0 : Heap) {a : Nat} (sd : Int64) (hz : H0.size = (a + 1)) (hP : va_P D vwCl [(a, .inr (2, [.long (lN 0), .null, .null, .int (nI 0), .int (nI 0), .null, .null]))] H0) (hD0 : va_D (fun q => base ≤ q) [(a, .inr (2, [.long (lN 0), .null, .null, .int (nI 0), .int (nI 0), .null, .null]))]) (hbs : base ≤ H0.size)  : Met l yP_init wP_init ({ frames := 1, cells := 4, slots := 317, locals := 12 }) (Pq D κ base [.ref a, .long sd] H0) (q_W (fun v H => Pst D (va_A [(a, .inr (2, [.long (lN 0), .null, .null, .int (nI 0), .int (nI 0), .null, .null]))] H0.size) H0 none [(a, .inr (2, [.long sd, .ref (a + 1), .ref (a + 2), .int (nI 0), .int (nI 0), .ref (a + 3), .ref (a + 4)])), ((a + 1), .inl (κ 3, 26, .inr (.inr (.inr (.inr (fun _ => none)))))), ((a + 2), .inl (κ 4, 40, .inr (.inr (.inr (.inr (fun _ => none)))))), ((a + 3), .inl (κ 0, 120, .inl (fun _ => nI 0))), ((a + 4), .inl (κ 2, 131, .inr (.inl (fun _ => lN 0))))] v H ∧ H.size = a + 5)) 4 317 (va_A [(a, .inr (2, [.long (lN 0), .null, .null, .int (nI 0), .int (nI 0), .null, .null]))] H0.size) := by
  refine Met.ofW (cc := bP_init) (maxL := 3) (ret := none) (by decide) rfl ?_
  intro p e s m args below meth c s₁ B hml hv
  obtain ⟨rfl, hH, hE⟩ := hv
  subst hH
  have hx := B.exec
  have hb := B.bytes
  have hr := B.returns
  have hT : ∀ w ∈ TT, w.before _ s = true := fun w h => atoms_spec (ws := wP_init) B.pre w (List.mem_cons_of_mem _ h)
  have hown : s.vm.findClass "TasterPanels" = some m.cls := findClass_of_methodNamed B.named
  have hlocks := B.notSynchronized
  have hin : meth.name = "<init>" := (name_of_methodNamed B.named B.method).1
  have hK := hE.1
  have hD := hD0.self (sz := s.heap.size)
  have hAb : ∀ x9, va_A [(a, .inr (2, [.long (lN 0), .null, .null, .int (nI 0), .int (nI 0), .null, .null]))] s.heap.size x9 → base ≤ x9 := fun x9 h => by rcases h with ⟨k, e, h⟩ | h; exact hD0.2 k _ h; exact Nat.le_trans hbs h
  generalize hAe : va_A [(a, .inr (2, [.long (lN 0), .null, .null, .int (nI 0), .int (nI 0), .null, .null]))] s.heap.size = A at hD hAb ⊢
  have hA : ∀ x9, s.heap.size ≤ x9 → A x9 := fun x9 h => by rw [← hAe]; exact Or.inr h
  have hS : va_S A s.heap s.heap [] := va_S.rf
  have hl := lv_entry ([.ref a, .long sd]) (n := 3) (Nat.le_of_ble_eq_true rfl)
  rw [lg_entry_eq]
  generalize (lg_sl ([.ref a, .long sd]) ++ List.replicate (3 - (lg_sl ([.ref a, .long sd])).length) Slot.unset).toArray = ls at hl ⊢
  have hl : lv_has ls 3 [(0, .ref a), (1, .long sd)] := hl
  refine lv_aload_n hx hb dP_init_0 rfl (lv_at hl 0 rfl) ?_
  refine W.objInit hx hb hown (hT _ kP1) (hT _ ki_obj) (hT _ kc_obj') rfl (by rw [hml]; exact hl.1) rfl dP_init_1 (Nat.le_of_ble_eq_true rfl) (Nat.le_of_ble_eq_true rfl) ?_
  refine W.eq (g2 := F0 m 4 ls []) rfl ?_
  refine lv_aload_n hx hb dP_init_4 rfl (lv_at hl 0 rfl) ?_
  refine lv_bipush (v := nI 26) hx hb dP_init_5 (by decide) ?_
  refine x_newq hx hb hown (hT _ kP9) hE.2.1.2.1 hK hP hD hS hA 3 rfl (by decide) (by decide) (Nat.le_of_ble_eq_true rfl) (Nat.le_of_ble_eq_true rfl) hz dP_init_7 (fun H hP hD hS hz => ?_)
  have hP : va_P D vwCl [(a, .inr (2, [.long (lN 0), .null, .null, .int (nI 0), .int (nI 0), .null, .null])), ((a + 1), .inl (κ 3, 26, .inr (.inr (.inr (.inr (fun _ => none))))))] H := hP
  have hD : va_D A [(a, .inr (2, [.long (lN 0), .null, .null, .int (nI 0), .int (nI 0), .null, .null])), ((a + 1), .inl (κ 3, 26, .inr (.inr (.inr (.inr (fun _ => none))))))] := hD
  refine x_putF (D := D) (ci := 2) (v := .ref (a + 1)) (ty := .array (.object "TasterPanels$Taster")) (C := RP) (T := FP) (N := 7) hx hb hT inP tyP tyP_ok nmP hown hK hP hD hS 0 rfl rfl 1 (by decide) (hT _ kP11) (fun _ h9 => h9) rfl hin rfl (by decide +kernel) rfl rfl (Nat.le_of_ble_eq_true rfl) dP_init_10 (fun H locs hP hD hS hz9 => ?_)
  rw [hz] at hz9
  have hz := hz9
  have hP : va_P D vwCl [(a, .inr (2, [.long (lN 0), .ref (a + 1), .null, .int (nI 0), .int (nI 0), .null, .null])), ((a + 1), .inl (κ 3, 26, .inr (.inr (.inr (.inr (fun _ => none))))))] H := hP
  have hD : va_D A [(a, .inr (2, [.long (lN 0), .ref (a + 1), .null, .int (nI 0), .int (nI 0), .null, .null])), ((a + 1), .inl (κ 3, 26, .inr (.inr (.inr (.inr (fun _ => none))))))] := hD
  refine lv_aload_n hx hb dP_init_13 rfl (lv_at hl 0 rfl) ?_
  refine lv_bipush (v := nI 40) hx hb dP_init_14 (by decide) ?_
  refine x_newq hx hb hown (hT _ kP15) hE.2.1.2.2 hK hP hD hS hA 4 rfl (by decide) (by decide) (Nat.le_of_ble_eq_true rfl) (Nat.le_of_ble_eq_true rfl) hz dP_init_16 (fun H hP hD hS hz => ?_)
  have hP : va_P D vwCl [(a, .inr (2, [.long (lN 0), .ref (a + 1), .null, .int (nI 0), .int (nI 0), .null, .null])), ((a + 1), .inl (κ 3, 26, .inr (.inr (.inr (.inr (fun _ => none)))))), ((a + 2), .inl (κ 4, 40, .inr (.inr (.inr (.inr (fun _ => none))))))] H := hP
  have hD : va_D A [(a, .inr (2, [.long (lN 0), .ref (a + 1), .null, .int (nI 0), .int (nI 0), .null, .null])), ((a + 1), .inl (κ 3, 26, .inr (.inr (.inr (.inr (fun _ => none)))))), ((a + 2), .inl (κ 4, 40, .inr (.inr (.inr (.inr (fun _ => none))))))] := hD
  refine x_putF (D := D) (ci := 2) (v := .ref (a + 2)) (ty := .array (.object "TasterPanels$Test")) (C := RP) (T := FP) (N := 7) hx hb hT inP tyP tyP_ok nmP hown hK hP hD hS 0 rfl rfl 2 (by decide) (hT _ kP17) (fun _ h9 => h9) rfl hin rfl (by decide +kernel) rfl rfl (Nat.le_of_ble_eq_true rfl) dP_init_19 (fun H locs hP hD hS hz9 => ?_)
  rw [hz] at hz9
  have hz := hz9
  have hP : va_P D vwCl [(a, .inr (2, [.long (lN 0), .ref (a + 1), .ref (a + 2), .int (nI 0), .int (nI 0), .null, .null])), ((a + 1), .inl (κ 3, 26, .inr (.inr (.inr (.inr (fun _ => none)))))), ((a + 2), .inl (κ 4, 40, .inr (.inr (.inr (.inr (fun _ => none))))))] H := hP
  have hD : va_D A [(a, .inr (2, [.long (lN 0), .ref (a + 1), .ref (a + 2), .int (nI 0), .int (nI 0), .null, .null])), ((a + 1), .inl (κ 3, 26, .inr (.inr (.inr (.inr (fun _ => none)))))), ((a + 2), .inl (κ 4, 40, .inr (.inr (.inr (.inr (fun _ => none))))))] := hD
  refine lv_aload_n hx hb dP_init_22 rfl (lv_at hl 0 rfl) ?_
  refine lv_bipush (v := nI 120) hx hb dP_init_23 (by decide) ?_
  refine x_newa (atype := .int) (a0 := (120, .inl (fun _ => nI 0))) hx hb (hT _ ka_int) rfl (fun C h => by cases h) hK hP hD hS hA 0 rfl (fun _ => rfl) (by decide) (by decide) (Nat.le_of_ble_eq_true rfl) (Nat.le_of_ble_eq_true rfl) hz dP_init_25 (fun H hP hD hS hz => ?_)
  have hP : va_P D vwCl [(a, .inr (2, [.long (lN 0), .ref (a + 1), .ref (a + 2), .int (nI 0), .int (nI 0), .null, .null])), ((a + 1), .inl (κ 3, 26, .inr (.inr (.inr (.inr (fun _ => none)))))), ((a + 2), .inl (κ 4, 40, .inr (.inr (.inr (.inr (fun _ => none)))))), ((a + 3), .inl (κ 0, 120, .inl (fun _ => nI 0)))] H := hP
  have hD : va_D A [(a, .inr (2, [.long (lN 0), .ref (a + 1), .ref (a + 2), .int (nI 0), .int (nI 0), .null, .null])), ((a + 1), .inl (κ 3, 26, .inr (.inr (.inr (.inr (fun _ => none)))))), ((a + 2), .inl (κ 4, 40, .inr (.inr (.inr (.inr (fun _ => none)))))), ((a + 3), .inl (κ 0, 120, .inl (fun _ => nI 0)))] := hD
  refine x_putF (D := D) (ci := 2) (v := .ref (a + 3)) (ty := .array .int) (C := RP) (T := FP) (N := 7) hx hb hT inP tyP tyP_ok nmP hown hK hP hD hS 0 rfl rfl 5 (by decide) (hT _ kP21) (fun _ h9 => h9) rfl hin rfl (by decide +kernel) rfl rfl (Nat.le_of_ble_eq_true rfl) dP_init_27 (fun H locs hP hD hS hz9 => ?_)
  rw [hz] at hz9
  have hz := hz9
  have hP : va_P D vwCl [(a, .inr (2, [.long (lN 0), .ref (a + 1), .ref (a + 2), .int (nI 0), .int (nI 0), .ref (a + 3), .null])), ((a + 1), .inl (κ 3, 26, .inr (.inr (.inr (.inr (fun _ => none)))))), ((a + 2), .inl (κ 4, 40, .inr (.inr (.inr (.inr (fun _ => none)))))), ((a + 3), .inl (κ 0, 120, .inl (fun _ => nI 0)))] H := hP
  have hD : va_D A [(a, .inr (2, [.long (lN 0), .ref (a + 1), .ref (a + 2), .int (nI 0), .int (nI 0), .ref (a + 3), .null])), ((a + 1), .inl (κ 3, 26, .inr (.inr (.inr (.inr (fun _ => none)))))), ((a + 2), .inl (κ 4, 40, .inr (.inr (.inr (.inr (fun _ => none)))))), ((a + 3), .inl (κ 0, 120, .inl (fun _ => nI 0)))] := hD
  refine lv_aload_n hx hb dP_init_30 rfl (lv_at hl 0 rfl) ?_
  refine lv_sipush (v := nI 131) hx hb dP_init_31 (by decide) ?_
  refine x_newa (atype := .long) (a0 := (131, .inr (.inl (fun _ => lN 0)))) hx hb (hT _ ka_long) rfl (fun C h => by cases h) hK hP hD hS hA 2 rfl (fun _ => rfl) (by decide) (by decide) (Nat.le_of_ble_eq_true rfl) (Nat.le_of_ble_eq_true rfl) hz dP_init_34 (fun H hP hD hS hz => ?_)
  have hP : va_P D vwCl [(a, .inr (2, [.long (lN 0), .ref (a + 1), .ref (a + 2), .int (nI 0), .int (nI 0), .ref (a + 3), .null])), ((a + 1), .inl (κ 3, 26, .inr (.inr (.inr (.inr (fun _ => none)))))), ((a + 2), .inl (κ 4, 40, .inr (.inr (.inr (.inr (fun _ => none)))))), ((a + 3), .inl (κ 0, 120, .inl (fun _ => nI 0))), ((a + 4), .inl (κ 2, 131, .inr (.inl (fun _ => lN 0))))] H := hP
  have hD : va_D A [(a, .inr (2, [.long (lN 0), .ref (a + 1), .ref (a + 2), .int (nI 0), .int (nI 0), .ref (a + 3), .null])), ((a + 1), .inl (κ 3, 26, .inr (.inr (.inr (.inr (fun _ => none)))))), ((a + 2), .inl (κ 4, 40, .inr (.inr (.inr (.inr (fun _ => none)))))), ((a + 3), .inl (κ 0, 120, .inl (fun _ => nI 0))), ((a + 4), .inl (κ 2, 131, .inr (.inl (fun _ => lN 0))))] := hD
  refine x_putF (D := D) (ci := 2) (v := .ref (a + 4)) (ty := .array .long) (C := RP) (T := FP) (N := 7) hx hb hT inP tyP tyP_ok nmP hown hK hP hD hS 0 rfl rfl 6 (by decide) (hT _ kP25) (fun _ h9 => h9) rfl hin rfl (by decide +kernel) rfl rfl (Nat.le_of_ble_eq_true rfl) dP_init_36 (fun H locs hP hD hS hz9 => ?_)
  rw [hz] at hz9
  have hz := hz9
  have hP : va_P D vwCl [(a, .inr (2, [.long (lN 0), .ref (a + 1), .ref (a + 2), .int (nI 0), .int (nI 0), .ref (a + 3), .ref (a + 4)])), ((a + 1), .inl (κ 3, 26, .inr (.inr (.inr (.inr (fun _ => none)))))), ((a + 2), .inl (κ 4, 40, .inr (.inr (.inr (.inr (fun _ => none)))))), ((a + 3), .inl (κ 0, 120, .inl (fun _ => nI 0))), ((a + 4), .inl (κ 2, 131, .inr (.inl (fun _ => lN 0))))] H := hP
  have hD : va_D A [(a, .inr (2, [.long (lN 0), .ref (a + 1), .ref (a + 2), .int (nI 0), .int (nI 0), .ref (a + 3), .ref (a + 4)])), ((a + 1), .inl (κ 3, 26, .inr (.inr (.inr (.inr (fun _ => none)))))), ((a + 2), .inl (κ 4, 40, .inr (.inr (.inr (.inr (fun _ => none)))))), ((a + 3), .inl (κ 0, 120, .inl (fun _ => nI 0))), ((a + 4), .inl (κ 2, 131, .inr (.inl (fun _ => lN 0))))] := hD
  refine lv_aload_n hx hb dP_init_39 rfl (lv_at hl 0 rfl) ?_
  refine lv_lload_n hx hb dP_init_40 rfl (lv_at hl 1 rfl) ?_
  refine x_putF (D := D) (ci := 2) (v := .long sd) (ty := .long) (C := RP) (T := FP) (N := 7) hx hb hT inP tyP tyP_ok nmP hown hK hP hD hS 0 rfl rfl 0 (by decide) (hT _ kP29) (fun _ h9 => h9) rfl hin rfl (by decide +kernel) rfl rfl (Nat.le_of_ble_eq_true rfl) dP_init_41 (fun H locs hP hD hS hz9 => ?_)
  rw [hz] at hz9
  have hz := hz9
  have hP : va_P D vwCl [(a, .inr (2, [.long sd, .ref (a + 1), .ref (a + 2), .int (nI 0), .int (nI 0), .ref (a + 3), .ref (a + 4)])), ((a + 1), .inl (κ 3, 26, .inr (.inr (.inr (.inr (fun _ => none)))))), ((a + 2), .inl (κ 4, 40, .inr (.inr (.inr (.inr (fun _ => none)))))), ((a + 3), .inl (κ 0, 120, .inl (fun _ => nI 0))), ((a + 4), .inl (κ 2, 131, .inr (.inl (fun _ => lN 0))))] H := hP
  have hD : va_D A [(a, .inr (2, [.long sd, .ref (a + 1), .ref (a + 2), .int (nI 0), .int (nI 0), .ref (a + 3), .ref (a + 4)])), ((a + 1), .inl (κ 3, 26, .inr (.inr (.inr (.inr (fun _ => none)))))), ((a + 2), .inl (κ 4, 40, .inr (.inr (.inr (.inr (fun _ => none)))))), ((a + 3), .inl (κ 0, 120, .inl (fun _ => nI 0))), ((a + 4), .inl (κ 2, 131, .inr (.inl (fun _ => lN 0))))] := hD
  exact W.vret hx hb hr (fun t9 ht9 hW9 => ⟨none, rfl, by rw [ht9]; exact ⟨⟨rfl, hP, hD, hS.1, hS.2.1⟩, hz⟩⟩) hS.2.2 dP_init_44
