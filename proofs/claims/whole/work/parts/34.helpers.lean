/-! the law's two helpers: cell, row -/
def Pxs (D : va_G) (κ : Nat → ClassId) (base b L : Nat) (xs : Nat → Int32) (av : List Value) (H0 : Heap) : Array Value → State → Prop := va_Pc av (fun U => (U.heap = H0 ∧ EVx D κ base U) ∧ va_X b L xs U U.heap)
theorem Pxs.blind {D : va_G} {κ : Nat → ClassId} {base b L : Nat} {xs : Nat → Int32} {av : List Value} {H0 : Heap} : FrameBlind (Pxs D κ base b L xs av H0) := by
  intro a U g mk h
  obtain ⟨h1, h2, h3⟩ := h
  obtain ⟨-, h5⟩ := Px.blind (D := D) (κ := κ) (base := base) (av := av) (H0 := H0) a U g mk ⟨h1, h2⟩
  exact ⟨h1, h5, va_X.moved (u := U) (U := U.calling g mk a) (Vm.Alike.refl U.vm) h3⟩
theorem pcXs {D : va_G} {κ : Nat → ClassId} {base b L : Nat} {xs : Nat → Int32} {s : State} {A : Nat → Prop} {H : Heap} {locs : List Loc} {As : List Value} (h : EVx D κ base s) (hX : va_X b L xs s s.heap) (hb : b < base) (hbl : b < s.heap.size) (hS : va_S A s.heap H locs) (hA : ∀ q, A q → base ≤ q) : PreS s H (Pxs D κ base b L xs As H) As :=
  ⟨Pxs.blind, fun _ hU hW => ⟨rfl, ⟨hU, h.go hS hA hU hW⟩, by
    rw [hU]
    exact (va_X.moved hW.alike hX).kept (hS.2.1 b hbl (fun z => by have := hA b z; omega))⟩⟩
theorem pcXV {D : va_G} {κ : Nat → ClassId} {base : Nat} {s : State} {A : Nat → Prop} {H : Heap} {locs : List Loc} {C : String} {b : Nat} {As : List Value} (h : EVx D κ base s) (hS : va_S A s.heap H locs) (hA : ∀ q, A q → base ≤ q) (hr : ∃ cellB : Cell, H[b]? = some cellB ∧ cellB.vm.isStatics = false ∧ s.vm.findClass C = some cellB.cls) : PreV s H C b (Px D κ base (.ref b :: As) H) As :=
  ⟨Px.blind, hr, fun _ hU hW => ⟨rfl, hU, h.go hS hA hU hW⟩⟩
theorem pcXS {D : va_G} {κ : Nat → ClassId} {base : Nat} {s : State} {A : Nat → Prop} {H : Heap} {locs : List Loc} {As : List Value} (h : EVx D κ base s) (hS : va_S A s.heap H locs) (hA : ∀ q, A q → base ≤ q) : PreS s H (Px D κ base As H) As :=
  ⟨Px.blind, fun _ hU hW => ⟨rfl, hU, h.go hS hA hU hW⟩⟩
set_option maxHeartbeats 1000000 in
theorem c_L_cell (l : Launch) (D : va_G) (κ : Nat → ClassId) (base : Nat) (H0 : Heap) (b L : Nat) (xs : Nat → Int32) (hbb : b < base) (hbl : b < H0.size) (hL : L < 2 ^ 31) : Met l yL_cell wL_cell ({ frames := 0, cells := 0, slots := 0, locals := 0 }) (Pxs D κ base b L xs [.ref b, .int (nI 0)] H0) (q_P (some (.int (if 0 < L then xs 0 else nI 0)))) 0 0 (fun _ => False) := by
  refine Met.ofW (cc := bL_cell) (maxL := 2) (ret := (some FieldType.int)) (by decide) rfl ?_
  intro p e s m args below meth c s₁ B hml hv
  obtain ⟨rfl, ⟨hH, hE⟩, hX⟩ := hv
  subst hH
  have hx := B.exec
  have hb := B.bytes
  have hr := B.returns
  have hlocks := B.notSynchronized
  have hS : va_S (fun q => base ≤ q) s.heap s.heap [] := va_S.rf
  have hl := lv_entry ([.ref b, .int (nI 0)]) (n := 2) (Nat.le_of_ble_eq_true rfl)
  rw [lg_entry_eq]
  generalize (lg_sl ([.ref b, .int (nI 0)]) ++ List.replicate (2 - (lg_sl ([.ref b, .int (nI 0)])).length) Slot.unset).toArray = ls at hl ⊢
  have hl : lv_has ls 2 [(0, .ref b), (1, .int (nI 0))] := hl
  have hbA : ¬ (fun q => base ≤ q) b := fun h => by have h : base ≤ b := h; omega
  refine lv_iload_n hx hb dL_cell_0 rfl (lv_at hl 1 rfl) ?_
  refine lv_aload_n hx hb dL_cell_1 rfl (lv_at hl 0 rfl) ?_
  refine va_slen hx hb hX hbl hbA hS dL_cell_2 ?_
  refine x_cge (a := 0) (b := L) (tgt := 12) hx hb dL_cell_3 (by decide) (by omega) (by omega) (fun g1 => ?_) (fun g1 => ?_)
  · rw [if_neg (show ¬ 0 < L by omega)]
    refine lv_iconst (v := nI 0) hx hb dL_cell_12 (by decide) ?_
    exact W.iret (v := nI 0) hx hb hr (fun t9 ht9 hW9 => ⟨rfl, ht9⟩) (fun q h => absurd h List.not_mem_nil) dL_cell_13
  · rw [if_pos (show 0 < L by omega)]
    refine lv_aload_n hx hb dL_cell_6 rfl (lv_at hl 0 rfl) ?_
    refine lv_iload_n hx hb dL_cell_7 rfl (lv_at hl 1 rfl) ?_
    refine va_sld hx hb hX hbl hbA hS (i := nI 0) (vp_in_nI (by omega) hL) dL_cell_8 ?_
    refine lv_goto (tgt := 13) hx hb dL_cell_9 (by decide) ?_
    exact W.iret (v := xs 0) hx hb hr (fun t9 ht9 hW9 => ⟨rfl, ht9⟩) (fun q h => absurd h List.not_mem_nil) dL_cell_13
theorem rwF_ub (k : Nat) : ∀ f r, r + f ≤ k + 1 → rwF k f r ≤ k + 1
  | 0, _, _ => Nat.le_refl _
  | f + 1, r, h => by
    show (if 20 * pw_ways r k 3 ≤ 3 ^ k then r else rwF k f (r + 1)) ≤ k + 1
    split
    · omega
    · exact rwF_ub k f (r + 1) (by omega)
theorem row_cases (x : Int32) : (x < nI 1 ∨ nI 26 < x) ∨ ∃ k, 1 ≤ k ∧ k ≤ 26 ∧ x = nI k := by
  rcases pk_ix x (show 27 < 2 ^ 31 by decide) with h | h | ⟨j, hj, rfl⟩
  · exact Or.inl (Or.inl (Int32.lt_trans h (by decide)))
  · exact Or.inl (Or.inr (Int32.lt_of_lt_of_le (show nI 26 < nI 27 by decide) h))
  · by_cases e : j = 0
    · rw [e]
      exact Or.inl (Or.inl (by decide))
    · exact Or.inr ⟨j, by omega, by omega, rfl⟩
theorem row_not {k : Nat} (h1 : 1 ≤ k) (h2 : k ≤ 26) : ¬ (nI k < nI 1 ∨ nI 26 < nI k) := by
  rintro (q | q)
  · exact absurd ((Int32.ofNat_lt_ofNat (by omega) (by omega)).mp q) (by omega)
  · exact absurd ((Int32.ofNat_lt_ofNat (by omega) (by omega)).mp q) (by omega)
abbrev wL_row : List Cond := Cond.codeWith yL_row bL_row 4 (some FieldType.int) [(0, 9, 12, 13)] :: TT
theorem kwL_row : Cond.codeWith yL_row bL_row 4 (some FieldType.int) [(0, 9, 12, 13)] ∈ TT := inTT 277 (by decide +kernel) (by decide +kernel)
abbrev rmR : Room := { frames := 7, cells := 1, slots := 6, locals := 106 }
set_option maxHeartbeats 1000000 in
theorem c_L_row (l : Launch) (hlt : l.stackTraces = false) (D : va_G) (κ : Nat → ClassId) (base : Nat) (H0 : Heap) {a o : Nat} {fs : List Value} {ov : Nat → Int64} (x : Int32) (hP : va_P D vwCl [(a, .inr (2, fs)), (o, .inl (κ 2, 1, .inr (.inl ov)))] H0) (hob : base ≤ o) (hao : a ≠ o) :
    Met l yL_row wL_row rmR (Px D κ base [.ref a, .int x, .ref o] H0) (q_W (fun v H => ((x < nI 1 ∨ nI 26 < x) → v = some (.int (nI 1)) ∧ ∀ z : Nat, z < H0.size → H[z]? = H0[z]?) ∧ (∀ k, 1 ≤ k → k ≤ 26 → x = nI k → v = some (.int (nI 0)) ∧ ∃ ov2 : Nat → Int64, ov2 0 = lN (rwF k (k + 1) 0) ∧ va_P D vwCl [(o, .inl (κ 2, 1, .inr (.inl ov2)))] H) ∧ H0.size ≤ H.size ∧ ∀ z : Nat, z < H0.size → ¬ z = o → H[z]? = H0[z]?)) 1 6 (fun q => q = o ∨ H0.size ≤ q) := by
  refine va_MetW (cc := bL_row) (maxL := 4) (ret := (some FieldType.int)) (hh := [(0, 9, 12, 13)]) (by decide) rfl ?_
  intro p e s m args below meth c s₁ B hml hv
  obtain ⟨rfl, hH, hE⟩ := hv
  subst hH
  have hx := B.exec
  have hb := B.bytes
  have hr := B.returns
  have hT : ∀ w ∈ TT, w.before _ s = true := fun w h => atoms_spec (ws := wL_row) B.pre w (List.mem_cons_of_mem _ h)
  have hown : s.vm.findClass "TasterPanelsLaw" = some m.cls := findClass_of_methodNamed B.named
  have hlocks := B.notSynchronized
  have hK := hE.1.1
  have X₀ : Stand p l e rmR s m ([.ref a, .int x, .ref o] : List Value).toArray below meth c s₁ [] 0 0 := Stand.of_body B
  have htab : c.exceptionTable.toList.map (fun h => (h.startPc, h.endPc, h.handlerPc, h.catchType)) = [(0, 9, 12, 13)] := by
    obtain ⟨m9, meth9, c9, hn9, h1, h2, h3, h4, h5, -⟩ := Cond.codeWith_spec (atoms_spec (ws := wL_row) B.pre _ List.mem_cons_self)
    cases B.named.symm.trans hn9
    cases X₀.method.symm.trans h1
    cases X₀.code.symm.trans h2
    exact h5
  have hAb : ∀ q : Nat, (fun q : Nat => q = o ∨ s.heap.size ≤ q) q → base ≤ q := by
    intro q h
    rcases h with h | h
    · rw [h]; exact hob
    · exact Nat.le_trans (Nat.le_trans hob (Nat.le_of_lt (hP 1 _ rfl).lt)) h
  have hS : va_S (fun q => q = o ∨ s.heap.size ≤ q) s.heap s.heap [] := va_S.rf
  have hl := lv_entry ([.ref a, .int x, .ref o]) (n := 4) (Nat.le_of_ble_eq_true rfl)
  rw [lg_entry_eq]
  generalize (lg_sl ([.ref a, .int x, .ref o]) ++ List.replicate (4 - (lg_sl ([.ref a, .int x, .ref o])).length) Slot.unset).toArray = ls at hl ⊢
  have hl : lv_has ls 4 [(0, .ref a), (1, .int x), (2, .ref o)] := hl
  refine lv_aload_n hx hb dL_row_0 rfl (lv_at hl 2 rfl) ?_
  refine lv_iconst (v := nI 0) hx hb dL_row_1 (by decide) ?_
  refine lv_aload_n hx hb dL_row_2 rfl (lv_at hl 0 rfl) ?_
  refine lv_iload_n hx hb dL_row_3 rfl (lv_at hl 1 rfl) ?_
  have hws : ∀ w ∈ wP_row, ∀ (a' : Array Value) (U : State), s.WarmedH U.vm → w.before a' U = true := fun w hw a' U hW => word_at hW (TT_code kcP_row w hw).2 (hT w (TT_code kcP_row w hw).1)
  rcases row_cases x with hbad | ⟨k, hk1, hk2, rfl⟩
  · have hpx := pcXV (As := [.int x]) hE hS hAb (va_recv hK hP (ci := 2) (q0 := 0) rfl rfl)
    refine x_thrown (As := [.int x]) (rest := [.int (nI 0), .ref o]) (hpc := 12) (ct := 13) (hh := (0, 9, 12, 13)) (ws' := TT) hx hb (hml.trans hl.1.symm) hown htab (by decide) rfl rfl (by decide) (hT _ kL13) (c_P_rowT l hlt D κ base s.heap a x hbad) rfl hws hpx (by decide) (by decide) rfl rfl (by decide) (by decide) (hT _ kL7) (hT _ kiP_row) (hT _ ksP_row) (hT _ knP) (fun a' U hW => word_at hW (TT_good knP) (hT _ knP)) ⟨by decide, by decide⟩ (fun sig h => by cases h; rfl) (by simp [Value.category]) dL_row_4 (fun q H1 hz hk => ?_)
    refine lv_astore_n (lv' := [(3, .ref q), (0, .ref a), (1, .int x), (2, .ref o)]) hx hb dL_row_12 rfl hl (by decide) rfl (fun ls hl => ?_)
    refine lv_iconst (v := nI 1) hx hb dL_row_13 (by decide) ?_
    exact W.iret (v := nI 1) hx hb hr (fun t9 ht9 hW9 => ⟨some (.int (nI 1)), rfl, by
      rw [ht9]
      exact ⟨fun _ => ⟨rfl, hk⟩, fun k2 h1 h2 e2 => absurd hbad (by rw [e2]; exact row_not h1 h2), hz, fun z hz _ => hk z hz⟩⟩) (fun q h => absurd h List.not_mem_nil) dL_row_14
  · refine x_callP (v := .int (nI (rwF k (k + 1) 0))) (va_runV (As := [.int (nI k)]) (rest := [.int (nI 0), .ref o]) ⟨hx, hb, hml, hown, hT⟩ (c_P_row l D κ base s.heap a k hk1 hk2) (cwV 1 hT (TT_V kL7 kiP_row ksP_row knP kcP_row) rfl rfl rfl (by decide +kernel) ⟨Nat.le_of_ble_eq_true rfl, Nat.le_of_ble_eq_true rfl⟩) (pcV hE.1 hS hAb (va_recv hK hP (ci := 2) (q0 := 0) rfl rfl)) rfl rfl hl.1 rfl (lv_room (Nat.le_of_ble_eq_true rfl)) dL_row_4 ⟨Nat.le_of_ble_eq_true rfl, Nat.le_of_ble_eq_true rfl⟩) ?_
    have hub := rwF_ub k (k + 1) 0 (by omega)
    refine lv_i2l (v := lN (rwF k (k + 1) 0)) hx hb dL_row_7 (nI_l (by omega)) ?_
    have hP1 : va_P D vwCl [(o, .inl (κ 2, 1, .inr (.inl ov)))] s.heap := hP.sub [1] rfl
    have hD1 : va_D (fun q => q = o ∨ s.heap.size ≤ q) [(o, .inl (κ 2, 1, .inr (.inl ov)))] := ⟨fun i j x y hx hy _ => by
      have := (List.getElem?_eq_some_iff.mp hx).1
      have := (List.getElem?_eq_some_iff.mp hy).1
      simp only [List.length_cons, List.length_nil] at *
      omega, fun i x hx => by
      have hi : i < 1 := (List.getElem?_eq_some_iff.mp hx).1
      rw [show i = 0 by omega] at hx
      cases hx
      exact Or.inl rfl⟩
    refine x_last hx hb hK hP1 hD1 hS 0 2 (j := 0) rfl rfl (by omega) (by decide) dL_row_8 (fun H locs hP hD hS => ?_)
    refine lv_goto (tgt := 15) hx hb dL_row_9 (by decide) ?_
    refine lv_iconst (v := nI 0) hx hb dL_row_15 (by decide) ?_
    refine W.widen (k := 1) (n := 6) (by decide) (by decide) ?_
    exact W.iret (v := nI 0) hx hb hr (fun t9 ht9 hW9 => ⟨some (.int (nI 0)), rfl, by
      rw [ht9]
      refine ⟨fun q => absurd q ?_, fun k2 h1 h2 e2 => ⟨rfl, _, ?_, hP⟩, hS.1, fun z hz hzo => hS.2.1 z hz (fun q => ?_)⟩
      · exact row_not hk1 hk2
      · rw [nI_inj (by omega) (by omega) e2]
        exact updL_eq
      · rcases q with q | q
        · exact hzo q
        · omega⟩) hS.2.2 dL_row_16
