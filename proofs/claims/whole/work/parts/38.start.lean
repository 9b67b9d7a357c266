/-! what the Statement gives of the law's start -/
theorem ar_prim {args : Array Value} {s : State} {ty : FieldType} (hno : ∀ C, ty ≠ .object C) (h : (Cond.arrayClass ty).before args s = true) : ∃ cA : ClassId, ArrOfT s cA ty ∧ va_RA s cA ty := by
  obtain ⟨c, k, comp, h1, h2, h3⟩ := Cond.arrayClass_spec h
  refine ⟨c, fun n z => ⟨fun k h => (by cases h), k, h2, comp, h3⟩, ?_⟩
  cases ty <;> first | exact h1 | exact absurd rfl (hno _)
theorem ar_obj {s : State} {C : String} (h : va_AO C s) : ∃ cA : ClassId, ArrOfT s cA (.object C) ∧ va_RA s cA (.object C) := by
  obtain ⟨comp, c, k, h1, h2, h3, h4, h5⟩ := Cond.arrayOver_spec h
  exact ⟨c, fun n z => ⟨fun k h => (by cases h), k, h3, comp, h4⟩, k, comp, h3, h4, h1, h5⟩
theorem sta_of {args : Array Value} {s : State} {base : Nat} {C n : String} {l : List Nat} {F : List Cond} (hF : ∀ w ∈ F, w.before args s = true) (hl : (Cond.laysStatic C n "[I").before args s = true) (hini : (Cond.initialized C).before args s = true)
    (harr : Cond.arrayOf (.static C n "[I") .int ∈ F) (hlen : Cond.eq (.length (.static C n "[I")) (.int (Int32.ofNat l.length)) ∈ F) (hel : ∀ j, j < l.length → Cond.eq (.elem (.static C n "[I") (.int (Int32.ofNat j))) (.int (nI (l.getD j 0))) ∈ F) (hN : l.length < 2 ^ 31) (hb : s.heap.size ≤ base) : StaO C n l base s s.heap := by
  have hA : ∀ a : Nat, a < s.heap.size → ¬ (fun q => base ≤ q) a := fun a h q => by have q : base ≤ a := q; omega
  obtain ⟨t, ht, hT⟩ := va_Tof (tm := .static C n "[I") (ty := .int) (N := l.length) (f := tb l) (A := fun q => base ≤ q) hN (hF _ harr) (va_eqt (hF _ hlen)) (fun j hj => va_eqt (hF _ (hel j hj))) hA
  exact ⟨t, va_Zref hl hini ht hA, hT⟩
abbrev FN : List Cond := flatC (Jvm.Cond.and given_1 narrow_1)
def staOK (q : String × String × List Nat) : Bool := decide (Cond.laysStatic q.1 q.2.1 "[I" ∈ lw_tbl) && (decide (Cond.initialized q.1 ∈ lw_tbl) && (decide (Cond.arrayOf (.static q.1 q.2.1 "[I") .int ∈ FN) && (decide (Cond.eq (.length (.static q.1 q.2.1 "[I")) (.int (Int32.ofNat q.2.2.length)) ∈ FN) && (decide (∀ j, j < q.2.2.length → Cond.eq (.elem (.static q.1 q.2.1 "[I") (.int (Int32.ofNat j))) (.int (nI (q.2.2.getD j 0))) ∈ FN) && decide (q.2.2.length < 2 ^ 31)))))
theorem sta_0 : ∀ q ∈ StaL, staOK q = true := by decide +kernel
theorem sta_go {args : Array Value} {s : State} (hts : ∀ w ∈ lw_tbl, w.before args s = true) (hn : (Jvm.Cond.and given_1 narrow_1).before args s = true) : Sta s.heap.size s s.heap := by
  intro k q hq
  have h := sta_0 q (List.mem_of_getElem? hq)
  simp only [staOK, Bool.and_eq_true, decide_eq_true_eq] at h
  obtain ⟨h1, h2, h3, h4, h5, h6⟩ := h
  exact sta_of (flat_of_before _ hn) (hts _ h1) (hts _ h2) h3 h4 h5 h6 (Nat.le_refl _)
theorem nst_go {args : Array Value} {s : State} (hts : ∀ w ∈ lw_tbl, w.before args s = true) : Nst s := by
  refine ⟨fun w hw => ?_, va_AO.of (hts _ kA_T), va_AO.of (hts _ kA_S)⟩
  have h1 := hts w (NN_in w hw)
  simp only [NN, List.mem_cons, List.not_mem_nil, or_false] at hw
  rcases hw with rfl | rfl | rfl | rfl | rfl | rfl | rfl | rfl | rfl | rfl | rfl | rfl | rfl
  all_goals exact va_Nw.of rfl h1
theorem str_in : Cond.stringRef "TasterPanels" 150 "k is not 1 .. 26" ∈ lw_tbl := by decide +kernel
theorem exa_in : Cond.exactly (.string "TasterPanels" 150) "java/lang/String" ∈ FN := by decide +kernel
theorem zl_in : (lU ∈ lw_tbl ∧ lP ∈ lw_tbl) ∧ (sU ∈ FN ∧ sP ∈ FN) := by decide +kernel
theorem xw_in : ∀ w ∈ XW, w ∈ lw_tbl := by decide +kernel
theorem ev_go {args : Array Value} {s : State} (hts : ∀ w ∈ lw_tbl, w.before args s = true) (hn : (Jvm.Cond.and given_1 narrow_1).before args s = true) : ∃ (D : va_G) (κ : Nat → ClassId), EVx D κ s.heap.size s := by
  have hT : ∀ w ∈ TT, w.before args s = true := fun w h => hts w (TT_in h)
  obtain ⟨c0, i0, k0⟩ := u_known hT inT (hT _ kxT)
  obtain ⟨c1, i1, k1⟩ := u_known hT inS (hT _ kxS)
  obtain ⟨c2, i2, k2⟩ := u_known hT inP (hT _ kxP)
  obtain ⟨c3, i3, k3⟩ := u_known hT inM (hT _ kxM)
  obtain ⟨a0, r0⟩ := ar_prim (fun C h => by cases h) (hT _ ka_int)
  obtain ⟨a1, r1⟩ := ar_prim (fun C h => by cases h) (hT _ ka_boolean)
  obtain ⟨a2, r2⟩ := ar_prim (fun C h => by cases h) (hT _ ka_long)
  have hN := nst_go hts
  obtain ⟨a3, r3⟩ := ar_obj hN.2.1
  obtain ⟨a4, r4⟩ := ar_obj hN.2.2
  refine ⟨((fun c => match c with | 0 => c0 | 1 => c1 | 2 => c2 | _ => c3), (fun c => match c with | 0 => i0 | 1 => i1 | 2 => i2 | _ => i3)), (fun c => match c with | 0 => a0 | 1 => a1 | 2 => a2 | 3 => a3 | _ => a4), ⟨⟨fun c q hq => ?_, fun c q hq => ?_⟩, hN, sta_go hts hn⟩, ?_, ?_, ?_, ?_⟩
  · have hz : c < 4 := (List.getElem?_eq_some_iff.mp hq).1
    rcases (show c = 0 ∨ c = 1 ∨ c = 2 ∨ c = 3 by omega) with rfl | rfl | rfl | rfl
    · cases hq; exact k0
    · cases hq; exact k1
    · cases hq; exact k2
    · cases hq; exact k3
  · have hz : c < 5 := (List.getElem?_eq_some_iff.mp hq).1
    rcases (show c = 0 ∨ c = 1 ∨ c = 2 ∨ c = 3 ∨ c = 4 by omega) with rfl | rfl | rfl | rfl | rfl
    · cases hq; exact r0
    · cases hq; exact r1
    · cases hq; exact r2
    · cases hq; exact r3
    · cases hq; exact r4
  · exact ZL.of (hts _ zl_in.1.1) (flat_of_before _ hn _ zl_in.2.1) (Nat.le_refl _)
  · exact ZL.of (hts _ zl_in.1.2) (flat_of_before _ hn _ zl_in.2.2) (Nat.le_refl _)
  · obtain ⟨q, c, cA, kA, q1, -⟩ := Cond.exactly_spec (args := args) (first := s) (o := none) (s := s) (idx := []) (t := .string "TasterPanels" 150) (cls := "java/lang/String") (flat_of_before _ hn _ exa_in)
    exact ⟨q, vk_R.of (hts _ str_in) q1⟩
  · intro w hw
    have h1 := hts w (xw_in w hw)
    simp only [XW, List.mem_cons, List.not_mem_nil, or_false] at hw
    rcases hw with rfl | rfl | rfl | rfl <;> exact va_Nw.of rfl h1
