/-! env: what holds at every call: the tables' classes, the nest's links, the static tables -/
abbrev tyK (κ : Nat → ClassId) : List (ClassId × FieldType) := [(κ 0, .int), (κ 1, .boolean), (κ 2, .long), (κ 3, .object "TasterPanels$Taster"), (κ 4, .object "TasterPanels$Test")]
def tb (l : List Nat) : Nat → Value := fun j => .int (nI (l.getD j 0))
def StaO (C n : String) (l : List Nat) (base : Nat) (U : State) (H : Heap) : Prop := ∃ t : Nat, va_Z C n "[I" (.ref t) (fun q => base ≤ q) U H ∧ va_T .int t l.length (tb l) (fun q => base ≤ q) U H
def tFACT : List Nat := [1, 1, 2, 6, 24, 120]
def tTS : List Nat := [0, 0, 1, 0, 1, 0, 1, 0, 0, 1, 1, 0, 1, 0, 1, 0, 1, 1]
def tPS : List Nat := [0, 1, 1, 0]
def tDS : List Nat := [0, 0, 1, 0, 1, 0, 1, 0, 1, 1, 1, 0]
def tTR : List Nat := [2, 1, 0, 2, 1, 0]
def tPR : List Nat := [1, 0]
def tDR : List Nat := [0, 1, 1, 0]
def tSERVED : List Nat := [0, 0, 1, 0, 1, 0, 1, 0, 0, 1, 1, 0, 1, 0, 1, 0, 1, 1, 0, 1, 9, 1, 0, 9, 0, 0, 1, 0, 1, 0, 1, 0, 1, 1, 1, 0]
def tRIGHT : List Nat := [2, 1, 0, 2, 1, 0, 1, 0, 0, 1, 1, 0]
def StaL : List (String × String × List Nat) := [("TasterPanels", "FACTORIALS", tFACT), ("TasterPanels", "TRIANGLE_SERVED", tTS), ("TasterPanels", "PAIR_SERVED", tPS), ("TasterPanels", "DUO_SERVED", tDS), ("TasterPanels", "TRIANGLE_RIGHT", tTR), ("TasterPanels", "PAIR_RIGHT", tPR), ("TasterPanels", "DUO_RIGHT", tDR), ("TasterPanelsModel", "SERVED", tSERVED), ("TasterPanelsModel", "RIGHT", tRIGHT)]
def Sta (base : Nat) (U : State) (H : Heap) : Prop := ∀ (k : Nat) (q : String × String × List Nat), StaL[k]? = some q → StaO q.1 q.2.1 q.2.2 base U H
theorem Sta.moved {base : Nat} {u U : State} {H : Heap} (hvm : u.vm.Alike U.vm) (h : Sta base u H) : Sta base U H := fun k q hq => by
  obtain ⟨t, h1, h2⟩ := h k q hq
  exact ⟨t, va_Z.moved hvm h1, va_T.moved hvm h2⟩
theorem Sta.kept {base : Nat} {U : State} {H H1 : Heap} (h : Sta base U H) (hq : ∀ a : Nat, a < H.size → ¬ base ≤ a → H1[a]? = H[a]?) : Sta base U H1 := fun k q hk => by
  obtain ⟨t, h1, h2⟩ := h k q hk
  exact ⟨t, va_Z.kept h1 hq, va_T.kept h2 hq⟩
def EV (D : va_G) (κ : Nat → ClassId) (base : Nat) (U : State) : Prop := va_K D vwCl (tyK κ) U ∧ Nst U ∧ Sta base U U.heap
theorem EV.go {D : va_G} {κ : Nat → ClassId} {base : Nat} {s U : State} {A : Nat → Prop} {H : Heap} {locs : List Loc} (h : EV D κ base s) (hS : va_S A s.heap H locs) (hA : ∀ q, A q → base ≤ q) (hU : U.heap = H) (hW : s.WarmedH U.vm) : EV D κ base U :=
  ⟨va_K.moved hW.alike h.1, h.2.1.warm hW, by
    rw [hU]
    exact (h.2.2.moved hW.alike).kept (fun a h1 h2 => hS.2.1 a h1 (fun z => h2 (hA a z)))⟩
def Pq (D : va_G) (κ : Nat → ClassId) (base : Nat) (av : List Value) (H0 : Heap) : Array Value → State → Prop := va_Pc av (fun U => U.heap = H0 ∧ EV D κ base U)
theorem Nst.same {u U : State} (h : u.vm = U.vm) (hN : Nst u) : Nst U := by
  refine ⟨?_, va_AO.moved (h ▸ Vm.Alike.refl _) hN.2.1, va_AO.moved (h ▸ Vm.Alike.refl _) hN.2.2⟩
  intro w hw
  have h1 := hN.1 w hw
  simp only [NN, List.mem_cons, List.not_mem_nil, or_false] at hw
  rcases hw with rfl | rfl | rfl | rfl | rfl | rfl | rfl | rfl | rfl | rfl | rfl | rfl | rfl
  all_goals exact va_Nw.same rfl h h1
theorem Pq.blind {D : va_G} {κ : Nat → ClassId} {base : Nat} {av : List Value} {H0 : Heap} : FrameBlind (Pq D κ base av H0) := by
  intro a U g mk h
  obtain ⟨h1, h2, h3, h4, h5⟩ := h
  exact ⟨h1, h2, va_K.moved (u := U) (U := U.calling g mk a) (Vm.Alike.refl U.vm) h3, Nst.same (u := U) (U := U.calling g mk a) rfl h4, Sta.moved (u := U) (U := U.calling g mk a) (Vm.Alike.refl U.vm) h5⟩
theorem pcS {D : va_G} {κ : Nat → ClassId} {base : Nat} {s : State} {A : Nat → Prop} {H : Heap} {locs : List Loc} {As : List Value} (h : EV D κ base s) (hS : va_S A s.heap H locs) (hA : ∀ q, A q → base ≤ q) : PreS s H (Pq D κ base As H) As :=
  ⟨Pq.blind, fun _ hU hW => ⟨rfl, hU, h.go hS hA hU hW⟩⟩
theorem pcV {D : va_G} {κ : Nat → ClassId} {base : Nat} {s : State} {A : Nat → Prop} {H : Heap} {locs : List Loc} {C : String} {b : Nat} {As : List Value} (h : EV D κ base s) (hS : va_S A s.heap H locs) (hA : ∀ q, A q → base ≤ q) (hr : ∃ cellB : Cell, H[b]? = some cellB ∧ cellB.vm.isStatics = false ∧ s.vm.findClass C = some cellB.cls) : PreV s H C b (Pq D κ base (.ref b :: As) H) As :=
  ⟨Pq.blind, hr, fun _ hU hW => ⟨rfl, hU, h.go hS hA hU hW⟩⟩
