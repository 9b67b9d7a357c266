/-! row's exception: thrown by the class, caught by the law's helper -/
abbrev ioX : String := "java/lang/IndexOutOfBoundsException"
abbrev ioN : List String := ["java/lang/RuntimeException", "java/lang/Exception"]
abbrev sU : Cond := .isRef (.static "java/lang/Throwable" "UNASSIGNED_STACK" "[Ljava/lang/StackTraceElement;")
abbrev sP : Cond := .isRef (.static "java/lang/Throwable" "SUPPRESSED_SENTINEL" "Ljava/util/List;")
abbrev lU : Cond := .laysStatic "java/lang/Throwable" "UNASSIGNED_STACK" "[Ljava/lang/StackTraceElement;"
abbrev lP : Cond := .laysStatic "java/lang/Throwable" "SUPPRESSED_SENTINEL" "Ljava/util/List;"
abbrev XW : List Cond := [.declares ⟨"java/lang/RuntimeException", "<init>", "(Ljava/lang/String;)V"⟩, .declares ⟨"java/lang/Exception", "<init>", "(Ljava/lang/String;)V"⟩, .declares ⟨"java/lang/Throwable", "<init>", "(Ljava/lang/String;)V"⟩, .castable ioX ioX]
theorem own_all : (Bundle.ownAtoms "TasterPanels" 152 ioX ioN).all (fun a => decide (a ∈ TT) || (decide (a ∈ XW) || decide (a ∈ [sU, sP, lU, lP]))) = true := by decide +kernel
theorem own_in {a : Cond} (h : a ∈ Bundle.ownAtoms "TasterPanels" 152 ioX ioN) : a ∈ TT ∨ a ∈ XW ∨ a ∈ [sU, sP, lU, lP] := by
  have h1 := List.all_eq_true.mp own_all a h
  simpa only [Bool.or_eq_true, decide_eq_true_eq] using h1
def ZL (O n d : String) (base : Nat) (U : State) (H : Heap) : Prop := ∃ (cf : ClassId) (kf : Class) (fi : Nat) (f : Field) (a : Nat) (cell : Cell) (v : Value), U.vm.findClass O = some cf ∧ U.fieldFound? O n d = some (cf, kf, fi, f) ∧ f.isStatic = true ∧ kf.statics = some a ∧ H[a]? = some cell ∧ cell.vm.isStatics = true ∧ cell.cls = cf ∧ f.slot < cell.slots.size ∧ kf.staticTypes[f.slot]? = some f.type ∧ cell.slots[f.slot]? = some v ∧ v.isRef = true ∧ ¬ base ≤ a
theorem ZL.moved {O n d : String} {base : Nat} {u U : State} {H : Heap} (hvm : u.vm.Alike U.vm) (h : ZL O n d base u H) : ZL O n d base U H := by
  obtain ⟨cf, kf, fi, f, a, cell, v, h0, h1, h2, h3, h4, h5, h6, h7, h8, h9⟩ := h
  obtain ⟨k', hi', he⟩ := State.fieldFound?_setVm hvm h1
  exact ⟨cf, k', fi, f, a, cell, v, by rw [hvm.findClass]; exact h0, hi', h2, by rw [he]; exact h3, h4, h5, h6, h7, by rw [he]; exact h8, h9⟩
theorem ZL.kept {O n d : String} {base : Nat} {U : State} {H H1 : Heap} (h : ZL O n d base U H) (hq : ∀ a : Nat, a < H.size → ¬ base ≤ a → H1[a]? = H[a]?) : ZL O n d base U H1 := by
  obtain ⟨cf, kf, fi, f, a, cell, v, h0, h1, h2, h3, h4, h5, h6, h7, h8, h9, h10, h11⟩ := h
  exact ⟨cf, kf, fi, f, a, cell, v, h0, h1, h2, h3, by rw [hq a (Array.getElem?_eq_some_iff.mp h4).1 h11]; exact h4, h5, h6, h7, h8, h9, h10, h11⟩
theorem ZL.lays {O n d : String} {base : Nat} {U : State} {args : Array Value} (h : ZL O n d base U U.heap) : (Cond.laysStatic O n d).before args U = true := by
  obtain ⟨cf, kf, fi, f, a, cell, v, h0, h1, h2, h3, h4, h5, h6, h7, h8, h9⟩ := h
  exact Cond.laysStatic_of h0 h1 h2 h3 h4 h5 h6 h7 h8
theorem ZL.isRef {O n d : String} {base : Nat} {U : State} {args : Array Value} (h : ZL O n d base U U.heap) : (Cond.isRef (.static O n d)).before args U = true := by
  obtain ⟨cf, kf, fi, f, a, cell, v, h0, h1, h2, h3, h4, h5, h6, h7, h8, h9, h10, h11⟩ := h
  cases v <;> first | (cases h10; done) | simp [Cond.before, Cond.holds, Cond.value, Term.eval, State.fieldNamed?, h1, h2, h3, h4, h5, h9]
theorem ZL.of {O n d : String} {base : Nat} {s : State} {args : Array Value} (hl : (Cond.laysStatic O n d).before args s = true) (h : (Cond.isRef (.static O n d)).before args s = true) (hb : s.heap.size ≤ base) : ZL O n d base s s.heap := by
  obtain ⟨c, k, i, f, a, cell, hc, hi, hst, ha, hcell, hs, hcls, hlt, hty⟩ := Cond.laysStatic_spec hl
  have hv : cell.slots[f.slot]? = some cell.slots[f.slot] := Array.getElem?_eq_getElem hlt
  refine ⟨c, k, i, f, a, cell, cell.slots[f.slot], hc, hi, hst, ha, hcell, hs, hcls, hlt, hty, hv, ?_, fun q => absurd (Array.getElem?_eq_some_iff.mp hcell).1 (by omega)⟩
  generalize cell.slots[f.slot] = v at hv
  cases v <;> first | rfl | (simp [Cond.before, Cond.holds, Cond.value, Term.eval, State.fieldNamed?, hi, hst, ha, hcell, hs, hv] at h)
def EVx (D : va_G) (κ : Nat → ClassId) (base : Nat) (U : State) : Prop := EV D κ base U ∧ ZL "java/lang/Throwable" "UNASSIGNED_STACK" "[Ljava/lang/StackTraceElement;" base U U.heap ∧ ZL "java/lang/Throwable" "SUPPRESSED_SENTINEL" "Ljava/util/List;" base U U.heap ∧ (∃ q : Nat, vk_R "TasterPanels" 150 "k is not 1 .. 26" q U) ∧ ∀ w ∈ XW, va_Nw w U
theorem XW_warm {s U : State} (hW : s.WarmedH U.vm) (h : ∀ w ∈ XW, va_Nw w s) : ∀ w ∈ XW, va_Nw w U := by
  intro w hw
  have h1 := h w hw
  simp only [XW, List.mem_cons, List.not_mem_nil, or_false] at hw
  rcases hw with rfl | rfl | rfl | rfl
  · exact va_Nw.warmD hW h1
  · exact va_Nw.warmD hW h1
  · exact va_Nw.warmD hW h1
  · exact va_Nw.warmC hW h1
theorem XW_same {u U : State} (hv : u.vm = U.vm) (h : ∀ w ∈ XW, va_Nw w u) : ∀ w ∈ XW, va_Nw w U := by
  intro w hw
  have h1 := h w hw
  simp only [XW, List.mem_cons, List.not_mem_nil, or_false] at hw
  rcases hw with rfl | rfl | rfl | rfl <;> exact va_Nw.same rfl hv h1
theorem XW_use {U : State} {A : Array Value} (h : ∀ w ∈ XW, va_Nw w U) : ∀ w ∈ XW, w.before A U = true := by
  intro w hw
  have h1 := h w hw
  simp only [XW, List.mem_cons, List.not_mem_nil, or_false] at hw
  rcases hw with rfl | rfl | rfl | rfl <;> exact va_Nw.use rfl h1
theorem EVx.go {D : va_G} {κ : Nat → ClassId} {base : Nat} {s U : State} {A : Nat → Prop} {H : Heap} {locs : List Loc} (h : EVx D κ base s) (hS : va_S A s.heap H locs) (hA : ∀ q, A q → base ≤ q) (hU : U.heap = H) (hW : s.WarmedH U.vm) : EVx D κ base U := by
  obtain ⟨h1, h2, h3, ⟨q, h4⟩, h5⟩ := h
  refine ⟨h1.go hS hA hU hW, ?_, ?_, ⟨q, vk_R.warm hW h4⟩, XW_warm hW h5⟩
  · rw [hU]
    exact (ZL.moved hW.alike h2).kept (fun a h1 h2 => hS.2.1 a h1 (fun z => h2 (hA a z)))
  · rw [hU]
    exact (ZL.moved hW.alike h3).kept (fun a h1 h2 => hS.2.1 a h1 (fun z => h2 (hA a z)))
def Px (D : va_G) (κ : Nat → ClassId) (base : Nat) (av : List Value) (H0 : Heap) : Array Value → State → Prop := va_Pc av (fun U => U.heap = H0 ∧ EVx D κ base U)
theorem Px.blind {D : va_G} {κ : Nat → ClassId} {base : Nat} {av : List Value} {H0 : Heap} : FrameBlind (Px D κ base av H0) := by
  intro a U g mk h
  obtain ⟨h1, h2, ⟨h3, h4, h5⟩, h6, h7, ⟨q, h8⟩, h9⟩ := h
  exact ⟨h1, h2, ⟨va_K.moved (u := U) (U := U.calling g mk a) (Vm.Alike.refl U.vm) h3, Nst.same (u := U) (U := U.calling g mk a) rfl h4, Sta.moved (u := U) (U := U.calling g mk a) (Vm.Alike.refl U.vm) h5⟩, ZL.moved (u := U) (U := U.calling g mk a) (Vm.Alike.refl U.vm) h6, ZL.moved (u := U) (U := U.calling g mk a) (Vm.Alike.refl U.vm) h7, ⟨q, vk_R.same (u := U) (U := U.calling g mk a) rfl h8⟩, XW_same (u := U) (U := U.calling g mk a) rfl h9⟩
def q_T : Array Value → State → Outcome → State → Prop := fun _ s o t => ∃ (a : Nat) (ce : Cell), o = .threw a ∧ s.heap.size ≤ a ∧ t.heap[a]? = some ce ∧ s.vm.findClass ioX = some ce.cls ∧ s.vm.assignable ce.cls ce.cls = true ∧ ce.vm = .none ∧ s.WarmedH t.vm ∧ s.sameButNew ({ t with vm := s.vm } : State) [] 1 6
abbrev rmT : Room := { frames := 6, cells := 1, slots := 6, locals := 82 }
theorem ki_io : Cond.instantiable ioX 6 ∈ TT := inTT 284 (by decide +kernel) (by decide +kernel)
theorem kn_io : Cond.initialized ioX ∈ TT := inTT 29 (by decide +kernel) (by decide +kernel)
set_option maxHeartbeats 1000000 in
theorem c_P_rowT (l : Launch) (hlt : l.stackTraces = false) (D : va_G) (κ : Nat → ClassId) (base : Nat) (H0 : Heap) (a : Nat) (x : Int32) (hx0 : x < nI 1 ∨ nI 26 < x) : MetFree l yP_row (headSpec wP_row rmT) (Px D κ base [.ref a, .int x] H0) (fun _ _ _ _ _ => True) q_T := by
  refine MetFree.of_bodyS (code := bP_row) (maxLocals := 5) (ret := some FieldType.int) (by decide) ?_ ?_
  · intro args s m h hn
    obtain ⟨meth, c, h1, h2, h3, h4, h5, h6, -, -⟩ := Cond.code_spec hn (atoms_spec (ws := wP_row) h _ List.mem_cons_self)
    exact ⟨meth, c, h1, h2, h3, h4, h5, h6⟩
  · intro p e s m args below meth c s₁ B hml hv _
    obtain ⟨rfl, hH, hE⟩ := hv
    subst hH
    have hx := B.exec
    have hb := B.bytes
    have hT : ∀ w ∈ TT, w.before _ s = true := fun w h => atoms_spec (ws := wP_row) B.pre w (List.mem_cons_of_mem _ h)
    have hown : s.vm.findClass "TasterPanels" = some m.cls := findClass_of_methodNamed B.named
    have hlocks := B.notSynchronized
    have X₀ : Stand p l e rmT s m ([.ref a, .int x] : List Value).toArray below meth c s₁ [] 0 0 := Stand.of_body B
    have hh0 : s₁.heap = s.heap := by rw [B.state]; rfl
    have hout : ∀ y ∈ c.exceptionTable.toList, covers y 20 = false := by
      obtain ⟨meth', c', h1, h2, -, -, -, -, h9, -⟩ := Cond.code_spec B.named (atoms_spec (ws := wP_row) B.pre _ List.mem_cons_self)
      cases X₀.method.symm.trans h1
      cases X₀.code.symm.trans h2
      intro y hy
      have h0 : c.exceptionTable.size = 0 := by simpa [Array.isEmpty] using h9
      have h3 : c.exceptionTable.toList = [] := List.eq_nil_of_length_eq_zero (by simpa using h0)
      rw [h3] at hy
      cases hy
    obtain ⟨cC, kC0, hfc, -⟩ := Cond.instantiable_spec (hT _ ki_io)
    have K : W p l e rmT s m ([.ref a, .int x] : List Value).toArray below meth c s.heap [] 0 0 (fun t => ∃ o, t.status = .running ∧ Ended t below o ∧ q_T ([.ref a, .int x] : List Value).toArray s o t) (entryFrame m ([.ref a, .int x] : List Value).toArray 5) := by
      have hl := lv_entry ([.ref a, .int x]) (n := 5) (Nat.le_of_ble_eq_true rfl)
      rw [lg_entry_eq]
      generalize (lg_sl ([.ref a, .int x]) ++ List.replicate (5 - (lg_sl ([.ref a, .int x])).length) Slot.unset).toArray = ls at hl ⊢
      have hl : lv_has ls 5 [(0, .ref a), (1, .int x)] := hl
      have KT : W p l e rmT s m ([.ref a, .int x] : List Value).toArray below meth c s.heap [] 0 0 (fun t => ∃ o, t.status = .running ∧ Ended t below o ∧ q_T ([.ref a, .int x] : List Value).toArray s o t) (F0 m 11 ls []) := by
        obtain ⟨hE1, hZ1, hZ2, ⟨q, hq⟩, hXW⟩ := hE
        refine W.newcK hx hb hown (hT _ kP148) (hT _ ki_io) (hT _ kn_io) (g := F0 m 11 ls []) rfl dP_row_11 (by decide) (by decide) hfc rfl fun H1 kC hkC e1 z1 o1 => ?_
        refine lv_dup hx hb dP_row_14 rfl ?_
        refine va_ldcS hx hb hown hq dP_row_15 ?_
        intro T hT' X
        have htr : e.platform.stackTraces = false := by rw [X.admits.platform]; exact hlt
        obtain ⟨U, st, h1, h2, h3, h4, ce, h5, h6⟩ := X.ctorThrowS hx htr (own := "TasterPanels") (cls := ioX) (names := ioN) (ic := 152) hown (by decide) (by decide)
          (fun w hw => by
            rcases own_in hw with h | h | h
            · exact hT w h
            · exact XW_use hXW w h
            · simp only [List.mem_cons, List.not_mem_nil, or_false] at h
              rcases h with rfl | rfl | rfl | rfl
              · exact hZ1.isRef
              · exact hZ2.isRef
              · exact hZ1.lays
              · exact hZ2.lays) (fun y h => absurd h List.not_mem_nil) hfc hkC (by rw [hT']; exact e1) (Nat.le_refl _) (msg := .ref q) rfl (g := F0 m 17 ls [.ref q, .ref s.heap.size, .ref s.heap.size]) rfl (hl.1.trans hml.symm) rfl rfl (rest := []) rfl (by rw [hb]; exact dP_row_17) (by rw [hb]; exact dP_row_20) hout (by decide) (by simp [JFrame.monitorRoom, Value.category, rmT, ioN])
        exact ⟨U, st, .threw s.heap.size, h1, h2, s.heap.size, ce, rfl, Nat.le_refl _, h5, h6.cls, h6.self, h6.vm, h3, h4⟩
      refine lv_iload_n hx hb dP_row_0 rfl (lv_at hl 1 rfl) ?_
      refine lv_iconst (v := nI 1) hx hb dP_row_1 (by decide) ?_
      refine lv_icmp_lt (tgt := 11) hx hb dP_row_2 (by decide) (fun h1 => KT) (fun h1 => ?_)
      refine lv_iload_n hx hb dP_row_5 rfl (lv_at hl 1 rfl) ?_
      refine lv_bipush (v := nI 26) hx hb dP_row_6 (by decide) ?_
      refine lv_icmp_le (tgt := 21) hx hb dP_row_8 (by decide) (fun h2 => absurd hx0 ?_) (fun h2 => KT)
      rintro (h | h)
      · exact h1 h
      · exact absurd h2 (Int32.not_le.mpr h)
    obtain ⟨t, a1, o, b1, b2, b3⟩ := K s₁ hh0 X₀
    exact ⟨t, o, a1, b1, b2, b3⟩
