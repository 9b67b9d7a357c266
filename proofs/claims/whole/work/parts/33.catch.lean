/-! the law's helper row: a call that throws, and the handler that takes it -/
theorem go_cold {E : CtlPost} {e : Env} {d : Bool} {acts : List Action} {s : State} {f : JFrame} {a : Addr} {Q : Handler → Jvm.Pre} {x : ExceptionTableEntry} {t : List ExceptionTableEntry} {cT : ClassId} {cell : Cell} {vm' : Vm} (hx : covers x f.pc = true) (h0 : x.catchType ≠ 0)
    (hg : (Jvm.resolveClass f.method.cls x.catchType).Gives e.toSetting s.vm (.ok cT) vm') (hsz : vm'.classes.size ≤ s.vm.classes.size) (hcell : s.heap[a]? = some cell) (hobj : ∀ k, cell.vm ≠ .statics k) (hk : ∃ k, vm'.classes[cell.cls]? = some k) (hc : ∃ k, vm'.classes[cT]? = some k) (hfit : vm'.assignable cell.cls cT = true) :
    wp (findHandler.go f a (x :: t)) Q E e d acts s ↔ Q (.found x.handlerPc) d acts (s.setVm vm') := by
  simp only [covers] at hx
  obtain ⟨ha, ht⟩ := hg.op (op := VmOp.resolveClass f.method.cls x.catchType) rfl
  simp [findHandler.go, hx, h0, ha, ht, hsz, hcell, hobj, hk, hc, hfit, VmOp.dirties, VmOp.acts]
def FindC (e : Env) (s : State) (f : JFrame) (a : Addr) (h : Handler) (vm' : Vm) : Prop := ∀ (Q : Handler → Jvm.Pre) (E : CtlPost) (d : Bool) (acts : List Action), wp (findHandler f a) Q E e d acts s ↔ Q h d acts (s.setVm vm')
theorem step_cold {e : Env} {s : State} {a : Addr} {f : JFrame} {r : List Frame} {pc : Nat} {vm' : Vm} (hfind : FindC e s f a (.found pc) vm') :
    (stepThrowing e s a (.java f :: r)).Is ((s.setVm vm').setFrames (.java { f with pc := pc, stack := [.ref a] } :: r)) [] := by
  simp only [stepThrowing, searchFrame, vmDo]
  generalize hr : Sem.go _ e false [] s = res
  obtain ⟨as, rfl, ha⟩ := Sem.eq_ok_of hr (a := Handler.found pc) (s' := s.setVm vm') (acts' := []) (by simp [hfind _ _ _ _])
  exact ⟨rfl, ha⟩
section XT
variable {p : Program} {l : Launch} {e : Env} {R : Room} {s : State} {m : MethodId} {args : Array Value} {below : List Frame} {meth : Method} {c : Code} {H : Heap} {locs : List Loc} {cells slots : Nat} {Q : State → Prop}
theorem caught_cold {T : State} (X : Stand p l e R s m args below meth c T locs cells slots) (a : Addr) {g : JFrame} (hg : g.method = m) {pc : Nat} {vm' : Vm}
    (hfind : FindC e ((T.setTop g).pushFrame (.throwing a)) g a (.found pc) vm') {target : State}
    (hrest : Steps p.tables e below ((T.setVm vm').setTop { g with pc := pc, stack := [.ref a] }) target) :
    Steps p.tables e below ((T.setTop g).pushFrame (.throwing a)) target := by
  have h : At T g.method c below := by rw [hg]; exact X.here
  obtain ⟨hgo, hw⟩ := h.throwing a
  refine Steps.head hgo hw ?_
  rw [stepThread_throwing (frames_entered h.top _), (step_cold (s := (T.setTop g).pushFrame (.throwing a)) hfind).1]
  obtain ⟨g₀, hg₀⟩ := Option.isSome_iff_exists.mp h.top
  obtain ⟨r, hr⟩ := State.topJava?_eq_some.mp hg₀
  have hr' : (T.setVm vm').frames = .java g₀ :: r := hr
  rw [State.setTop_of_frames _ hr'] at hrest
  have e1 : (((T.setTop g).pushFrame (.throwing a)).setVm vm').setFrames (.java { g with pc := pc, stack := [.ref a] } :: T.frames.tail) = (T.setVm vm').setFrames (.java { g with pc := pc, stack := [.ref a] } :: r) := by
    rw [State.pushFrame, State.setTop_of_frames _ hr, State.setFrames_setFrames, hr]
    show ((T.setVm vm').setFrames _).setFrames _ = _
    rw [State.setFrames_setFrames]
    rfl
  rw [e1]
  exact hrest
theorem kept_new {U V : State} {k n : Nat} (h : U.sameButNew V [] k n) : U.heap.size ≤ V.heap.size ∧ ∀ z : Nat, z < U.heap.size → V.heap[z]? = U.heap[z]? := by
  obtain ⟨-, h1, -, -, -, h6⟩ := h
  refine ⟨h1, fun z hz => ?_⟩
  obtain ⟨c', e1, e2, e3, e4⟩ := h6 z _ (Array.getElem?_eq_getElem hz)
  rw [e1, Array.getElem?_eq_getElem hz]
  have e5 : c'.slots = (U.heap[z]).slots := Array.ext_getElem? (fun i => e4 i List.not_mem_nil)
  rw [e2, e5]
/-- a virtual call that throws; its frame's first handler, of the exception's own class, takes it -/
theorem x_thrown {cc bytes : ByteArray} {maxL index pc hpc ct b : Nat} {y : MethodName} {ret : Option FieldType} {ws ws' : List Cond} {rm : Room} {Pc : Array Value → State → Prop} {own C : String} {ls : Array Slot} {As rest : List Value} {hh : Nat × Nat × Nat × Nat}
    (hx : p.tables.exec = Jvm.exec) (hb : c.code = cc) (hml : c.maxLocals = ls.size) (hown : s.vm.findClass own = some m.cls) (htab : c.exceptionTable.toList.map (fun h => (h.startPc, h.endPc, h.handlerPc, h.catchType)) = [hh]) (hcov : (decide (hh.1 ≤ pc) && decide (pc < hh.2.1)) = true) (hh1 : hh.2.2.1 = hpc) (hh2 : hh.2.2.2 = ct) (hh3 : ct ≠ 0)
    (hclink : (Cond.classLink own ct ioX).before args s = true)
    (hM : MetFree l y (headSpec ws rm) Pc (fun _ _ _ _ _ => True) q_T) (hw : ws = Cond.code y bytes maxL ret :: ws') (hws : ∀ w ∈ ws, ∀ (a' : Array Value) (U : State), s.WarmedH U.vm → w.before a' U = true) (hp : PreV s H C b Pc As)
    (hframes : rm.frames + 1 ≤ R.frames) (hlocals : 8 + (maxL + 11) + rm.locals ≤ R.locals) (hrc : rm.cells = 1) (hrs : rm.slots = 6) (hcl : cells + 1 ≤ R.cells) (hsl : slots + 6 ≤ R.slots)
    (hlink : (Cond.methodLink own index y).before args s = true) (hinst : (Cond.instanceMethod y).before args s = true) (hsel : (Cond.selects C y y).before args s = true) (hini : (Cond.initialized y.cls).before args s = true) (hig : ∀ (a' : Array Value) (U : State), s.WarmedH U.vm → (Cond.initialized y.cls).before a' U = true) (hy : y.cls ≠ "java/lang/invoke/MethodHandle" ∧ y.cls ≠ "java/lang/invoke/VarHandle")
    (hlen : ∀ sig, parseMethodDescriptor y.desc = some sig → As.length = sig.parameters.length) (hW : (rest.map fun v => v.category).sum ≤ 8) (hdg : decode cc pc = .ok (.invokevirtual index, 3))
    (kk : ∀ (q : Nat) (H1 : Heap), H.size ≤ H1.size → (∀ z : Nat, z < H.size → H1[z]? = H[z]?) → W p l e R s m args below meth c H1 locs (cells + 1) (slots + 6) Q (F0 m hpc ls [.ref q])) :
    W p l e R s m args below meth c H locs cells slots Q (F0 m pc ls (As.reverse ++ .ref b :: rest)) := by
  obtain ⟨hblind, ⟨cellB, hcB, hoB, hclB⟩, hPc⟩ := hp
  intro T hT X
  have hcode : (Cond.code y bytes maxL ret).before args s = true := hws _ (by rw [hw]; exact List.mem_cons_self) _ _ (State.WarmedH.refl s)
  obtain ⟨mk, methM, hnamed, hmethM, hstM, habM⟩ := Cond.instanceMethod_spec hinst
  obtain ⟨methM', cM, hmethM', -, -, -, -, -, -, hsigM⟩ := Cond.code_spec hnamed hcode
  cases hmethM.symm.trans hmethM'
  obtain ⟨c2, r2, m2, q1, q2, q3, q4, kP, hkP, hkPi⟩ := Cond.selects_spec hsel
  cases hclB.symm.trans q1
  cases (State.methodFound?_of_named hnamed hy).symm.trans q2
  cases hnamed.symm.trans q3
  have hselP : selectMethod e.platform s.vm cellB.cls mk = .method mk := by rw [Launch.admits_selectMethod X.admits]; exact q4
  obtain ⟨vm₁, X₁, hstep₁⟩ := X.invokevirtual hx hown hlink hnamed hmethM hstM hkP hkPi hy (a := b) (cell := cellB) (by rw [hT]; exact hcB)
    (fun z h => by rw [h] at hoB; cases hoB) hselP hmethM habM hkP hkPi (g := F0 m pc ls (As.reverse ++ .ref b :: rest)) rfl (argsL := As) (rest := rest) (hlen _ hsigM) rfl (by rw [hb]; exact hdg)
  have hn₁ := X₁.named hnamed
  have hc₁ : (Cond.code y bytes maxL ret).before (Value.ref b :: As).toArray (T.setVm vm₁) = true := hws _ (by rw [hw]; exact List.mem_cons_self) _ _ X₁.warmed
  obtain ⟨methY, cY, hmY, hcY, -, hlY, -, -, -, -⟩ := Cond.code_spec hn₁ hc₁
  obtain ⟨kY, hkY, -⟩ := className_of_methodNamed hn₁
  have hinitY : kY.init = .initialized := Cond.initialized_spec (findClass_of_methodNamed hn₁) hkY (hig (Value.ref b :: As).toArray (T.setVm vm₁) X₁.warmed)
  have h : At (T.setVm vm₁) (F0 m pc ls rest).method c below := X₁.here
  have happ : (headSpec ws rm).appliesLoose y e.platform ((T.setVm vm₁).calling (F0 m pc ls rest) mk (Value.ref b :: As).toArray) = true :=
    Spec.appliesLoose_calling (g := F0 m pc ls rest) h (by rw [hb]; exact hdg) hn₁ hkY hinitY
      (X₁.room_calling (g := F0 m pc ls rest) (R' := rm) hml.symm hmY hcY hframes (by rw [hlY]; simp only [JFrame.monitorRoom, List.length_nil, Nat.mul_zero, Nat.zero_add]; omega) (by rw [hrc]; exact hcl) (by rw [hrs]; exact hsl)) (atoms_intro fun w hw => hws w hw _ _ X₁.warmed)
  obtain ⟨mid, hmid⟩ := h.above
  have hfr : ((T.setVm vm₁).setTop (F0 m pc ls rest)).frames = (.java (F0 m pc ls rest) :: mid) ++ below := by rw [State.frames_setTop' _ h.top, hmid]; rfl
  obtain ⟨o, s₂, hsteps, hrun, hend, hq⟩ := Steps.callFree hM p X₁.admits X₁.cas X₁.clock (acts := []) hfr happ (hblind _ _ _ _ (hPc (T.setVm vm₁) hT X₁.warmed)) trivial
  obtain ⟨qa, ce, rfl, hqa, hce, hcls, hasg, hvm, hWt, hsame⟩ := hq
  rw [State.frames_setTop' _ h.top, X₁.tail] at hend
  obtain ⟨T', X', hW', hsame', hs2⟩ := X₁.outOfThrown (g := F0 m pc ls rest) rfl hend hWt hsame
  have hh1' : s₂.heap = T'.heap := by rw [hs2]; exact throwing_heap _ _ _
  have hce' : T'.heap[qa]? = some ce := by rw [← hh1']; exact hce
  have hpl : e.platform.magicAccessors = ({} : Platform).magicAccessors := by rw [X.admits.platform]
  obtain ⟨cT, hcT, hcl1⟩ := Cond.classLink_spec hown hclink e.platform hpl
  obtain ⟨dk, _, _, kt, hd, _, _, _, _, hkt, _, hopen⟩ := hcl1.here
  have hcl₀ := X'.warmed.classLinks hcl1
  have hW2 : s.WarmedH (T'.vm.noted m.cls ct (.cls cT)) := X'.warmed.noted hd hopen (State.rightAt_cls hcl1)
  have ecls : ce.cls = cT := by
    have h1 : (T.setVm vm₁).vm.findClass ioX = some ce.cls := hcls
    rw [X₁.warmed.alike.findClass] at h1
    exact Option.some.inj (h1.symm.trans hcT)
  have hasg0 : s.vm.assignable ce.cls cT = true := by
    have h1 : (T.setVm vm₁).vm.assignable ce.cls ce.cls = true := hasg
    rw [X₁.warmed.alike.assignable] at h1
    rw [← ecls]
    exact h1
  obtain ⟨kt', hkt', -⟩ := hW2.alike.2.2 _ _ hkt
  have hfind : FindC e ((T'.setTop (F0 m pc ls rest)).pushFrame (.throwing qa)) (F0 m pc ls rest) qa (.found hpc) (T'.vm.noted m.cls ct (.cls cT)) := by
    intro Q E d acts
    rw [W.findHandler_eq (meth := meth) (code := c) X'.method' X'.code]
    obtain ⟨x9, h9⟩ : ∃ x9, c.exceptionTable.toList = [x9] := by
      cases h1 : c.exceptionTable.toList with
      | nil => rw [h1] at htab; cases htab
      | cons y t =>
        cases t with
        | nil => exact ⟨y, rfl⟩
        | cons z t => rw [h1] at htab; cases htab
    rw [h9] at htab ⊢
    have h8 : hh = (x9.startPc, x9.endPc, x9.handlerPc, x9.catchType) := by
      cases htab
      rfl
    subst h8
    have hcT9 : x9.catchType = ct := hh2
    have hpc9 : x9.handlerPc = hpc := hh1
    have hv9 : ((T'.setTop (F0 m pc ls rest)).pushFrame (.throwing qa)).vm = T'.vm := throwing_vm _ _ _
    have hh9 : ((T'.setTop (F0 m pc ls rest)).pushFrame (.throwing qa)).heap = T'.heap := throwing_heap _ _ _
    have hgo := go_cold (Q := Q) (E := E) (e := e) (d := d) (acts := acts) (s := (T'.setTop (F0 m pc ls rest)).pushFrame (.throwing qa)) (f := F0 m pc ls rest) (a := qa) (x := x9) (t := []) (cell := ce) (cT := cT) (vm' := T'.vm.noted m.cls ct (.cls cT)) hcov (by rw [hcT9]; exact hh3) (by rw [hv9, hcT9]; exact resolveClass_links e.toSetting hcl₀) (by rw [hv9]; no_record) (by rw [hh9]; exact hce') (fun k h => by rw [hvm] at h; cases h) ⟨kt', by rw [ecls]; exact hkt'⟩ ⟨kt', hkt'⟩ (by rw [hW2.alike.assignable]; exact hasg0)
    rw [hpc9] at hgo
    exact hgo
  have hX9 := X'.noted hW2
  rw [List.append_nil] at hX9
  obtain ⟨hz1, hz2⟩ := kept_new hsame'
  have hTH : (T.setVm vm₁).heap = H := hT
  obtain ⟨t, a1, b1⟩ := kk qa T'.heap (by rw [← hTH]; exact hz1) (by rw [← hTH]; exact hz2) (T'.setVm (T'.vm.noted m.cls ct (.cls cT))) rfl hX9
  refine ⟨t, hstep₁ _ (fun acts => ?_), b1⟩
  rw [doInvoke_state]
  refine Steps.trans hsteps ?_
  rw [hs2]
  exact caught_cold X' qa rfl hfind a1
end XT
