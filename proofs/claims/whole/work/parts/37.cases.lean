/-! the law: what holds at each turn of its loop -/
def LI (D : va_G) (κ : Nat → ClassId) (a : Nat) (H : Heap) : Prop := ∃ (sd : Int64) (nT nS th : Nat) (bT bS : Nat → Nat) (td fd : Nat → Nat → Nat) (ta tr kd sp ca cr : Nat → Nat) (od aw rk : Nat → Nat → Nat) (mk ms ma mr mt : Nat → Nat) (ov : Nat → Int64),
  RC D κ a a sd nT nS bT bS td fd ta tr kd sp ca cr od aw rk H ∧ RMo D κ a (a + 5) sd nT nS mk ms ma mr mt th H ∧ Tie sd nT nS td fd ta tr kd sp ca cr od aw rk mk ms ma mr mt ∧ Sep a a nT nS bT bS ∧ a + 15 ≤ H.size ∧ va_P D vwCl [((a + 14), .inl (κ 2, 1, .inr (.inl ov)))] H
theorem le14 {a q : Nat} (h : q = a + 14) : a ≤ q := by omega
theorem le14s {a q sz : Nat} (hz : a + 15 ≤ sz) (h : q = a + 14 ∨ sz ≤ q) : a ≤ q := by rcases h with h | h <;> omega
section LIX
variable {D : va_G} {κ : Nat → ClassId} {a : Nat} {sd : Int64} {nT nS th : Nat} {bT bS : Nat → Nat} {td fd : Nat → Nat → Nat} {ta tr kd sp ca cr : Nat → Nat} {od aw rk : Nat → Nat → Nat} {mk ms ma mr mt : Nat → Nat} {ov : Nat → Int64} {H H1 : Heap}
theorem LI_mk (hR : RC D κ a a sd nT nS bT bS td fd ta tr kd sp ca cr od aw rk H) (hM : RMo D κ a (a + 5) sd nT nS mk ms ma mr mt th H) (hT : Tie sd nT nS td fd ta tr kd sp ca cr od aw rk mk ms ma mr mt) (hS : Sep a a nT nS bT bS) (hz : a + 15 ≤ H.size) (hO : va_P D vwCl [((a + 14), .inl (κ 2, 1, .inr (.inl ov)))] H) : LI D κ a H :=
  ⟨sd, nT, nS, th, bT, bS, td, fd, ta, tr, kd, sp, ca, cr, od, aw, rk, mk, ms, ma, mr, mt, ov, hR, hM, hT, hS, hz, hO⟩
theorem out_kept (hO : va_P D vwCl [((a + 14), .inl (κ 2, 1, .inr (.inl ov)))] H) (h : H1[a + 14]? = H[a + 14]?) : va_P D vwCl [((a + 14), .inl (κ 2, 1, .inr (.inl ov)))] H1 := hO.kept (fun k q hq => by
  have hz : k < 1 := (List.getElem?_eq_some_iff.mp hq).1
  rw [show k = 0 by omega] at hq
  cases hq
  exact h)
theorem after_P (hM : RMo D κ a (a + 5) sd nT nS mk ms ma mr mt th H) (hS : Sep a a nT nS bT bS) (hz : a + 15 ≤ H.size) (hO : va_P D vwCl [((a + 14), .inl (κ 2, 1, .inr (.inl ov)))] H) (hF : FrC a nT nS bT bS H H1) : RMo D κ a (a + 5) sd nT nS mk ms ma mr mt th H1 ∧ a + 15 ≤ H1.size ∧ va_P D vwCl [((a + 14), .inl (κ 2, 1, .inr (.inl ov)))] H1 :=
  ⟨hM.keep hF.1 (fun q h1 h2 => hF.apart hS hz q h1 (by omega)), Nat.le_trans hz hF.1, out_kept hO (hF.apart hS hz (a + 14) (by omega) (by omega))⟩
theorem after_M (hR : RC D κ a a sd nT nS bT bS td fd ta tr kd sp ca cr od aw rk H) (hS : Sep a a nT nS bT bS) (hz : a + 15 ≤ H.size) (hO : va_P D vwCl [((a + 14), .inl (κ 2, 1, .inr (.inl ov)))] H) (hF : FrM (a + 5) H H1) : RC D κ a a sd nT nS bT bS td fd ta tr kd sp ca cr od aw rk H1 ∧ a + 15 ≤ H1.size ∧ va_P D vwCl [((a + 14), .inl (κ 2, 1, .inr (.inl ov)))] H1 :=
  ⟨hR.keep hS hF.1 (fun q h1 h2 => hF.apart q h1 (by omega)), Nat.le_trans hz hF.1, out_kept hO (hF.apart (a + 14) (by omega) (by omega))⟩
theorem FrC.out (hR : RC D κ a a sd nT nS bT bS td fd ta tr kd sp ca cr od aw rk H) (hF : FrC a nT nS bT bS H H1) : H.size ≤ H1.size ∧ ∀ q : Nat, q < H.size → ¬ (fun q : Nat => a ≤ q) q → H1[q]? = H[q]? := ⟨hF.1, fun q h1 h2 => hF.2 q h1 (fun h => h2 (hR.ownB q h))⟩
theorem FrM.out (hM : RMo D κ a (a + 5) sd nT nS mk ms ma mr mt th H) (hF : FrM (a + 5) H H1) : H.size ≤ H1.size ∧ ∀ q : Nat, q < H.size → ¬ (fun q : Nat => a ≤ q) q → H1[q]? = H[q]? := ⟨hF.1, fun q h1 h2 => hF.2 q h1 (fun h => h2 (hM.ownB q h))⟩
theorem RC.recv {s : State} {tys : List (ClassId × FieldType)} (hK : va_K D vwCl tys s) (hR : RC D κ a a sd nT nS bT bS td fd ta tr kd sp ca cr od aw rk H) : ∃ cellB : Cell, H[a]? = some cellB ∧ cellB.vm.isStatics = false ∧ s.vm.findClass "TasterPanels" = some cellB.cls := by
  obtain ⟨⟨fT, fS, mx, sw, hP, -⟩, -⟩ := hR
  exact va_recv hK hP (ci := 2) (q0 := 0) rfl rfl
theorem RMo.recv {s : State} {tys : List (ClassId × FieldType)} (hK : va_K D vwCl tys s) (hM : RMo D κ a (a + 5) sd nT nS mk ms ma mr mt th H) : ∃ cellB : Cell, H[a + 5]? = some cellB ∧ cellB.vm.isStatics = false ∧ s.vm.findClass "TasterPanelsModel" = some cellB.cls := by
  obtain ⟨⟨F, wy, nx, hP⟩, -⟩ := hM
  exact va_recv hK hP (ci := 3) (q0 := 0) rfl rfl
end LIX
section LRX
variable {p : Program} {l : Launch} {e : Env} {R : Room} {s : State} {m : MethodId} {args : Array Value} {below : List Frame} {meth : Method} {c : Code} {H : Heap} {locs : List Loc} {cells slots : Nat} {Q : State → Prop}
variable {cc : ByteArray} {pc : Nat} {ls : Array Slot} {rest : List Value} {A : Nat → Prop} {H0 : Heap}
theorem x_sld (hexec : p.tables.exec = Jvm.exec) (hb : c.code = cc) {b L j : Nat} {xs : Nat → Int32} (hX : va_X b L xs s H0) (hbl : b < H0.size) (hbA : ¬ A b) (hS : va_S A H0 H locs) (hj : j < L) (hL : L < 2 ^ 31) (hdg : decode cc pc = .ok (.iaload, 1))
    (kk : W p l e R s m args below meth c H locs cells slots Q (F0 m (pc + 1) ls (.int (xs j) :: rest))) : W p l e R s m args below meth c H locs cells slots Q (F0 m pc ls (.int (nI j) :: .ref b :: rest)) := by
  refine va_sld hexec hb hX hbl hbA hS (vp_in_nI hj hL) hdg ?_
  rw [nI_clamp (by omega)]
  exact kk
theorem call_SW {T : State} (X : Stand p l e R s m args below meth c T locs cells slots) (hexec : p.tables.exec = Jvm.exec) {own : String} {index : Nat} {y : MethodName} {bytes : ByteArray} {maxL : Nat} {ret : Option FieldType} {hh : List (Nat × Nat × Nat × Nat)}
    (hown : s.vm.findClass own = some m.cls) (hlink : (Cond.methodLink own index y).before args s = true) (hstat : (Cond.static y).before args s = true) (hinit : (Cond.initialized y.cls).before args s = true)
    (hcode : (Cond.codeWith y bytes maxL ret hh).before args s = true) (hy : y.cls ≠ "java/lang/invoke/MethodHandle" ∧ y.cls ≠ "java/lang/invoke/VarHandle")
    {Wt : Nat} {Pre : Pt → Array Value → Prop} {Post : Pt → Array Value → Option Value → Pt → Prop} (hK : Back l R p e below s args y 3 Wt Pre Post)
    {g : JFrame} (hg : g.method = m) (hsize : g.locals.size = c.maxLocals) {argsL rest : List Value} (hlen : ∀ sig, parseMethodDescriptor y.desc = some sig → argsL.length = sig.parameters.length)
    (hstack : g.stack = argsL.reverse ++ rest) (hW : 2 * g.monitorRoom + (rest.map fun v => v.category).sum ≤ Wt) (hdg : decode c.code g.pc = .ok (.invokestatic index, 3))
    (hpre : ∀ vm₁, s.WarmedH vm₁ → Pre ⟨T.setVm vm₁, locs, cells, slots⟩ argsL.toArray) :
    ∃ (v : Option Value) (vm₁ : Vm) (B : Pt), s.WarmedH vm₁ ∧ Stand p l e R s m args below meth c B.U B.locs B.cells B.slots ∧ Post ⟨T.setVm vm₁, locs, cells, slots⟩ argsL.toArray v B ∧
      ∀ target, Steps p.tables e below (B.U.setTop { g with pc := g.pc + 3, stack := v.toList ++ rest }) target → Steps p.tables e below (T.setTop g) target := by
  obtain ⟨mk, methM, cM, hnamed, hmethM, -, -, -, -, -, -, hsigM⟩ := Cond.codeWith_spec hcode
  have hstatic : methM.isStatic = true := Cond.static_spec hnamed hmethM hstat
  obtain ⟨kP, hkP, -⟩ := className_of_methodNamed hnamed
  have hinitP : kP.init = .initialized := Cond.initialized_spec (findClass_of_methodNamed hnamed) hkP hinit
  obtain ⟨vm₁, X₁, hstep₁⟩ := X.invokestatic hexec hown hlink hnamed hmethM hstatic hkP hinitP hy (g := g) hg (argsL := argsL) (rest := rest) (hlen _ hsigM) hstack hdg
  obtain ⟨v, B, X', hpost, hsteps⟩ := hK m meth c ⟨T.setVm vm₁, locs, cells, slots⟩ { g with stack := rest } (.invokestatic index) mk argsL.toArray X₁ hg hsize hdg hW (X₁.named hnamed) (hpre vm₁ X₁.warmed)
  exact ⟨v, vm₁, B, X₁.warmed, X', hpost, fun target h => hstep₁ _ fun acts => by rw [doInvoke_state]; exact hsteps.trans h⟩
theorem run_SW {own : String} {index nL maxL mc ms : Nat} {y : MethodName} {bytes : ByteArray} {ret : Option FieldType} {hh : List (Nat × Nat × Nat × Nat)} {ws : List Cond} {rm : Room} {Pc : Array Value → State → Prop} {Qc : Array Value → State → Outcome → State → Prop} {free : Addr → Prop} {As rest : List Value} {g : JFrame}
    (hx : p.tables.exec = Jvm.exec) (hb : c.code = cc) (hml : c.maxLocals = nL) (hown : s.vm.findClass own = some m.cls) (hM : Met l y ws rm Pc Qc mc ms free) (hrc : rm.cells = mc) (hrs : rm.slots = ms) (hframes : rm.frames + 1 ≤ R.frames) (hlocals : 8 + (maxL + 11) + rm.locals ≤ R.locals)
    (hws : ∀ w ∈ ws, ∀ (a' : Array Value) (U : State), s.WarmedH U.vm → w.before a' U = true) (hcode : Cond.codeWith y bytes maxL ret hh ∈ ws) (hig : ∀ (a' : Array Value) (U : State), s.WarmedH U.vm → (Cond.initialized y.cls).before a' U = true)
    (hl : (Cond.methodLink own index y).before args s = true) (hst : (Cond.static y).before args s = true) (hy : y.cls ≠ "java/lang/invoke/MethodHandle" ∧ y.cls ≠ "java/lang/invoke/VarHandle") (hlen : ∀ sig, parseMethodDescriptor y.desc = some sig → As.length = sig.parameters.length) (hp : PreS s H Pc As)
    (hg : g.method = m) (hsize : g.locals.size = nL) (hstack : g.stack = As.reverse ++ rest) (hW : 2 * g.monitorRoom + (rest.map fun v => v.category).sum ≤ 8) (hdg : decode cc g.pc = .ok (.invokestatic index, 3)) (hf : cells + mc ≤ R.cells ∧ slots + ms ≤ R.slots) :
    va_Run p l e R s m args below meth c H locs cells slots mc ms g rest (Qc As.toArray) (free) := by
  have hK : Back l R p e below s args y 3 8 (PreOf R mc ms Pc) (PostOf Qc mc ms free) := va_backW hM hp.1 hrc hrs hframes hlocals hws hcode hig
  intro T hT X
  obtain ⟨v, vm₁, ⟨U', l2, c2, s2⟩, hW₁, X', ⟨g', mk, t, L, e1, e2, hq, h1, hL, h2, h3⟩, st⟩ := call_SW X hx (bytes := bytes) (maxL := maxL) (ret := ret) (hh := hh) hown hl hst (hig _ _ (State.WarmedH.refl s)) (hws _ hcode _ _ (State.WarmedH.refl s)) hy hK hg (hsize.trans hml.symm) (argsL := As) (rest := rest) hlen hstack hW (by rw [hb]; exact hdg)
    (fun vm₁ hW₁ => ⟨hf.1, hf.2, hp.2 (T.setVm vm₁) hT hW₁⟩)
  dsimp only [Pt.U, Pt.locs, Pt.cells, Pt.slots] at X' e1 e2 h1 h2 h3 st
  subst h1; subst h2; subst h3
  exact ⟨v, (T.setVm vm₁).calling g' mk As.toArray, t, U', L, hT, X', hL, e1, e2, hq, st⟩
end LRX
def LC (p : Program) (l : Launch) (s : State) (m : MethodId) (meth : Method) (c : Code) (D : va_G) (κ : Nat → ClassId) (a bq L : Nat) (xs : Nat → Int32) : Prop := (p.tables.exec = Jvm.exec ∧ c.code = code ∧ c.maxLocals = 9 ∧ s.vm.findClass "TasterPanelsLaw" = some m.cls ∧ (∀ w ∈ TT, w.before #[Value.ref bq] s = true)) ∧ (va_X bq L xs s s.heap ∧ bq < s.heap.size ∧ EVx D κ a s ∧ s.heap.size = a ∧ L ≤ 3073) ∧ l.stackTraces = false
abbrev lvL (a bq t : Nat) : List (Nat × Value) := [(0, .ref bq), (1, .ref a), (2, .ref (a + 5)), (3, .ref (a + 14)), (4, .int (nI (6 * t + 1)))]
abbrev WL (p : Program) (l : Launch) (e : Env) (s : State) (m : MethodId) (below : List Frame) (meth : Method) (c : Code) (bq : Nat) (H : Heap) (locs : List Loc) (cells slots : Nat) (Q : State → Prop) (g : JFrame) : Prop := W p l e room_1 s m #[Value.ref bq] below meth c H locs cells slots Q g
def GO (p : Program) (l : Launch) (e : Env) (s : State) (m : MethodId) (below : List Frame) (meth : Method) (c : Code) (D : va_G) (κ : Nat → ClassId) (a bq t : Nat) (Q : State → Prop) : Prop := ∀ (H : Heap) (locs : List Loc) (ls : Array Slot), LI D κ a H → va_S (fun q => a ≤ q) s.heap H locs → lv_has ls 9 (lvL a bq t) → WL p l e s m below meth c bq H locs (15 + 4 * (t + 1)) (7473 + 189 * (t + 1)) Q (F0 m 742 ls [])
section LAW
variable {p : Program} {l : Launch} {e : Env} {s : State} {m : MethodId} {below : List Frame} {meth : Method} {c : Code} {D : va_G} {κ : Nat → ClassId} {a bq L t : Nat} {xs : Nat → Int32} {H : Heap} {locs : List Loc} {ls : Array Slot} {Q : State → Prop}
set_option maxHeartbeats 1000000 in
theorem law_2 (hC : LC p l s m meth c D κ a bq L xs) (ht : 6 * t + 7 ≤ L) (hI : LI D κ a H) (hS : va_S (fun q => a ≤ q) s.heap H locs) (hl : lv_has ls 9 (lvL a bq t)) (KK : GO p l e s m below meth c D κ a bq t Q) : WL p l e s m below meth c bq H locs (15 + 4 * t) (7473 + 189 * t) Q (F0 m 170 ls []) := by
  obtain ⟨⟨hx, hb, hml, hown, hT⟩, ⟨hX, hbl, hE, hsa, hL⟩, hlt⟩ := hC
  have hK := hE.1.1
  have hAb : ∀ q : Nat, (fun q : Nat => a ≤ q) q → a ≤ q := fun _ h => h
  have hbA : ¬ (fun q : Nat => a ≤ q) bq := fun h => by have h : a ≤ bq := h; omega
  obtain ⟨sd, nT, nS, th, bT, bS, td, fd, ta, tr, kd, sp, ca, cr, od, aw, rk, mk, ms, ma, mr, mt, ov, hR, hM, hTie, hSep, hz, hO⟩ := hI
  have hn : nT ≤ 26 := hM.2.1.1
  have hs : nS ≤ 40 := hM.2.1.2.1
  have hok := hM.2.2.1
  obtain ⟨r, ⟨h0, h1, h2, h3⟩, ⟨q0, q1, q2, q3⟩⟩ := ag_order hTie hn hs hok (xs (6 * t + 1 + 1)) (xs (6 * t + 1 + 2)) (xs (6 * t + 1 + 3))
  refine lv_aload_n hx hb dL_law_170 rfl (lv_at hl 1 rfl) ?_
  refine lv_aload_n hx hb dL_law_171 rfl (lv_at hl 0 rfl) ?_
  refine lv_iload hx hb dL_law_172 (lv_at hl 4 rfl) ?_
  refine lv_iconst (v := nI 1) hx hb dL_law_174 (by decide) ?_
  refine x_iadd (v := nI (6 * t + 1 + 1)) hx hb dL_law_175 (nI_add _ _) ?_
  refine x_sld (j := 6 * t + 1 + 1) hx hb hX hbl hbA hS (by omega) (by omega) dL_law_176 ?_
  refine lv_aload_n hx hb dL_law_177 rfl (lv_at hl 0 rfl) ?_
  refine lv_iload hx hb dL_law_178 (lv_at hl 4 rfl) ?_
  refine lv_iconst (v := nI 2) hx hb dL_law_180 (by decide) ?_
  refine x_iadd (v := nI (6 * t + 1 + 2)) hx hb dL_law_181 (nI_add _ _) ?_
  refine x_sld (j := 6 * t + 1 + 2) hx hb hX hbl hbA hS (by omega) (by omega) dL_law_182 ?_
  refine lv_aload_n hx hb dL_law_183 rfl (lv_at hl 0 rfl) ?_
  refine lv_iload hx hb dL_law_184 (lv_at hl 4 rfl) ?_
  refine lv_iconst (v := nI 3) hx hb dL_law_186 (by decide) ?_
  refine x_iadd (v := nI (6 * t + 1 + 3)) hx hb dL_law_187 (nI_add _ _) ?_
  refine x_sld (j := 6 * t + 1 + 3) hx hb hX hbl hbA hS (by omega) (by omega) dL_law_188 ?_
  refine x_callP (v := .int r) (va_runV (As := [.int (xs (6 * t + 1 + 1)), .int (xs (6 * t + 1 + 2)), .int (xs (6 * t + 1 + 3))]) (rest := []) ⟨hx, hb, hml, hown, hT⟩ (c_P_order l D κ a H hR (xs (6 * t + 1 + 1)) (xs (6 * t + 1 + 2)) (xs (6 * t + 1 + 3)) r h0 h1 h2 h3) (cwV 3 hT (TT_V kL37 kiP_order ksP_order knP kcP_order) rfl rfl rfl (by decide +kernel) ⟨Nat.le_of_ble_eq_true rfl, Nat.le_of_ble_eq_true rfl⟩) (pcV hE.1 hS hAb (RC.recv hK hR)) rfl rfl hl.1 rfl (lv_room (Nat.le_of_ble_eq_true rfl)) dL_law_189 ⟨show 15 + 4 * t + 0 ≤ 601024 by omega, show 7473 + 189 * t + 0 ≤ 7293000 by omega⟩) ?_
  refine lv_aload_n hx hb dL_law_192 rfl (lv_at hl 2 rfl) ?_
  refine lv_aload_n hx hb dL_law_193 rfl (lv_at hl 0 rfl) ?_
  refine lv_iload hx hb dL_law_194 (lv_at hl 4 rfl) ?_
  refine lv_iconst (v := nI 1) hx hb dL_law_196 (by decide) ?_
  refine x_iadd (v := nI (6 * t + 1 + 1)) hx hb dL_law_197 (nI_add _ _) ?_
  refine x_sld (j := 6 * t + 1 + 1) hx hb hX hbl hbA hS (by omega) (by omega) dL_law_198 ?_
  refine lv_aload_n hx hb dL_law_199 rfl (lv_at hl 0 rfl) ?_
  refine lv_iload hx hb dL_law_200 (lv_at hl 4 rfl) ?_
  refine lv_iconst (v := nI 2) hx hb dL_law_202 (by decide) ?_
  refine x_iadd (v := nI (6 * t + 1 + 2)) hx hb dL_law_203 (nI_add _ _) ?_
  refine x_sld (j := 6 * t + 1 + 2) hx hb hX hbl hbA hS (by omega) (by omega) dL_law_204 ?_
  refine lv_aload_n hx hb dL_law_205 rfl (lv_at hl 0 rfl) ?_
  refine lv_iload hx hb dL_law_206 (lv_at hl 4 rfl) ?_
  refine lv_iconst (v := nI 3) hx hb dL_law_208 (by decide) ?_
  refine x_iadd (v := nI (6 * t + 1 + 3)) hx hb dL_law_209 (nI_add _ _) ?_
  refine x_sld (j := 6 * t + 1 + 3) hx hb hX hbl hbA hS (by omega) (by omega) dL_law_210 ?_
  refine x_callW (va_runV (As := [.int (xs (6 * t + 1 + 1)), .int (xs (6 * t + 1 + 2)), .int (xs (6 * t + 1 + 3))]) (rest := [.int r]) ⟨hx, hb, hml, hown, hT⟩ (c_M_order l D κ a H hM (xs (6 * t + 1 + 1)) (xs (6 * t + 1 + 2)) (xs (6 * t + 1 + 3)) r q0 q1 q2 q3) (cwV 3 hT (TT_V kL41 kiM_order ksM_order knM kcM_order) rfl rfl rfl (by decide +kernel) ⟨Nat.le_of_ble_eq_true rfl, Nat.le_of_ble_eq_true rfl⟩) (pcV hE.1 hS hAb (RMo.recv hK hM)) rfl rfl hl.1 rfl (lv_room (Nat.le_of_ble_eq_true rfl)) dL_law_211 ⟨show 15 + 4 * t + 0 ≤ 601024 by omega, show 7473 + 189 * t + 0 ≤ 7293000 by omega⟩) hS (fun q h => RMo.ownB hM q h) (fun v H1 h => FrM.out hM (h.2.2)) (fun v H locs hpost hS => ?_)
  obtain ⟨rfl, hM, hF⟩ := hpost
  obtain ⟨hR, hz, hO⟩ := after_M hR hSep hz hO hF
  refine W.eq (g2 := F0 m 214 ls [.int r, .int r]) rfl ?_
  refine lv_icmp_eq (tgt := 742) hx hb dL_law_214 (by decide) (fun _ => ?_) (fun h9 => absurd rfl h9)
  refine W.widen (k := 15 + 4 * (t + 1)) (n := 7473 + 189 * (t + 1)) (by omega) (by omega) ?_
  exact KK _ _ _ (LI_mk hR hM hTie hSep hz hO) hS hl
set_option maxHeartbeats 1000000 in
theorem law_4 (hC : LC p l s m meth c D κ a bq L xs) (ht : 6 * t + 7 ≤ L) (hI : LI D κ a H) (hS : va_S (fun q => a ≤ q) s.heap H locs) (hl : lv_has ls 9 (lvL a bq t)) (KK : GO p l e s m below meth c D κ a bq t Q) : WL p l e s m below meth c bq H locs (15 + 4 * t) (7473 + 189 * t) Q (F0 m 268 ls []) := by
  obtain ⟨⟨hx, hb, hml, hown, hT⟩, ⟨hX, hbl, hE, hsa, hL⟩, hlt⟩ := hC
  have hK := hE.1.1
  have hAb : ∀ q : Nat, (fun q : Nat => a ≤ q) q → a ≤ q := fun _ h => h
  have hbA : ¬ (fun q : Nat => a ≤ q) bq := fun h => by have h : a ≤ bq := h; omega
  obtain ⟨sd, nT, nS, th, bT, bS, td, fd, ta, tr, kd, sp, ca, cr, od, aw, rk, mk, ms, ma, mr, mt, ov, hR, hM, hTie, hSep, hz, hO⟩ := hI
  have hn : nT ≤ 26 := hM.2.1.1
  have hs : nS ≤ 40 := hM.2.1.2.1
  have hok := hM.2.2.1
  obtain ⟨r, ⟨h0, h1, h2, h3⟩, ⟨q0, q1, q2, q3⟩⟩ := ag_chance hTie hn hs hok (xs (6 * t + 1 + 1)) (xs (6 * t + 1 + 2))
  refine lv_aload_n hx hb dL_law_268 rfl (lv_at hl 1 rfl) ?_
  refine lv_aload_n hx hb dL_law_269 rfl (lv_at hl 0 rfl) ?_
  refine lv_iload hx hb dL_law_270 (lv_at hl 4 rfl) ?_
  refine lv_iconst (v := nI 1) hx hb dL_law_272 (by decide) ?_
  refine x_iadd (v := nI (6 * t + 1 + 1)) hx hb dL_law_273 (nI_add _ _) ?_
  refine x_sld (j := 6 * t + 1 + 1) hx hb hX hbl hbA hS (by omega) (by omega) dL_law_274 ?_
  refine lv_aload_n hx hb dL_law_275 rfl (lv_at hl 0 rfl) ?_
  refine lv_iload hx hb dL_law_276 (lv_at hl 4 rfl) ?_
  refine lv_iconst (v := nI 2) hx hb dL_law_278 (by decide) ?_
  refine x_iadd (v := nI (6 * t + 1 + 2)) hx hb dL_law_279 (nI_add _ _) ?_
  refine x_sld (j := 6 * t + 1 + 2) hx hb hX hbl hbA hS (by omega) (by omega) dL_law_280 ?_
  refine x_callP (v := .long r) (va_runV (As := [.int (xs (6 * t + 1 + 1)), .int (xs (6 * t + 1 + 2))]) (rest := []) ⟨hx, hb, hml, hown, hT⟩ (c_P_chance l D κ a H hR (xs (6 * t + 1 + 1)) (xs (6 * t + 1 + 2)) r h0 h1 h2 h3) (cwV 2 hT (TT_V kL47 kiP_chance ksP_chance knP kcP_chance) rfl rfl rfl (by decide +kernel) ⟨Nat.le_of_ble_eq_true rfl, Nat.le_of_ble_eq_true rfl⟩) (pcV hE.1 hS hAb (RC.recv hK hR)) rfl rfl hl.1 rfl (lv_room (Nat.le_of_ble_eq_true rfl)) dL_law_281 ⟨show 15 + 4 * t + 0 ≤ 601024 by omega, show 7473 + 189 * t + 0 ≤ 7293000 by omega⟩) ?_
  refine lv_aload_n hx hb dL_law_284 rfl (lv_at hl 2 rfl) ?_
  refine lv_aload_n hx hb dL_law_285 rfl (lv_at hl 0 rfl) ?_
  refine lv_iload hx hb dL_law_286 (lv_at hl 4 rfl) ?_
  refine lv_iconst (v := nI 1) hx hb dL_law_288 (by decide) ?_
  refine x_iadd (v := nI (6 * t + 1 + 1)) hx hb dL_law_289 (nI_add _ _) ?_
  refine x_sld (j := 6 * t + 1 + 1) hx hb hX hbl hbA hS (by omega) (by omega) dL_law_290 ?_
  refine lv_aload_n hx hb dL_law_291 rfl (lv_at hl 0 rfl) ?_
  refine lv_iload hx hb dL_law_292 (lv_at hl 4 rfl) ?_
  refine lv_iconst (v := nI 2) hx hb dL_law_294 (by decide) ?_
  refine x_iadd (v := nI (6 * t + 1 + 2)) hx hb dL_law_295 (nI_add _ _) ?_
  refine x_sld (j := 6 * t + 1 + 2) hx hb hX hbl hbA hS (by omega) (by omega) dL_law_296 ?_
  refine x_callW (va_runV (As := [.int (xs (6 * t + 1 + 1)), .int (xs (6 * t + 1 + 2))]) (rest := [.long r]) ⟨hx, hb, hml, hown, hT⟩ (c_M_chance l D κ a H hM (xs (6 * t + 1 + 1)) (xs (6 * t + 1 + 2)) r q0 q1 q2 q3) (cwV 2 hT (TT_V kL51 kiM_chance ksM_chance knM kcM_chance) rfl rfl rfl (by decide +kernel) ⟨Nat.le_of_ble_eq_true rfl, Nat.le_of_ble_eq_true rfl⟩) (pcV hE.1 hS hAb (RMo.recv hK hM)) rfl rfl hl.1 rfl (lv_room (Nat.le_of_ble_eq_true rfl)) dL_law_297 ⟨show 15 + 4 * t + 0 ≤ 601024 by omega, show 7473 + 189 * t + 0 ≤ 7293000 by omega⟩) hS (fun q h => RMo.ownB hM q h) (fun v H1 h => FrM.out hM (h.2.2)) (fun v H locs hpost hS => ?_)
  obtain ⟨rfl, hM, hF⟩ := hpost
  obtain ⟨hR, hz, hO⟩ := after_M hR hSep hz hO hF
  refine W.eq (g2 := F0 m 300 ls [.long r, .long r]) rfl ?_
  refine x_leq (tgt := 742) hx hb dL_law_300 dL_law_301 (by decide) (fun _ => ?_) (fun h9 => absurd rfl h9)
  refine W.widen (k := 15 + 4 * (t + 1)) (n := 7473 + 189 * (t + 1)) (by omega) (by omega) ?_
  exact KK _ _ _ (LI_mk hR hM hTie hSep hz hO) hS hl
set_option maxHeartbeats 1000000 in
theorem law_5 (hC : LC p l s m meth c D κ a bq L xs) (ht : 6 * t + 7 ≤ L) (hI : LI D κ a H) (hS : va_S (fun q => a ≤ q) s.heap H locs) (hl : lv_has ls 9 (lvL a bq t)) (KK : GO p l e s m below meth c D κ a bq t Q) : WL p l e s m below meth c bq H locs (15 + 4 * t) (7473 + 189 * t) Q (F0 m 306 ls []) := by
  obtain ⟨⟨hx, hb, hml, hown, hT⟩, ⟨hX, hbl, hE, hsa, hL⟩, hlt⟩ := hC
  have hK := hE.1.1
  have hAb : ∀ q : Nat, (fun q : Nat => a ≤ q) q → a ≤ q := fun _ h => h
  have hbA : ¬ (fun q : Nat => a ≤ q) bq := fun h => by have h : a ≤ bq := h; omega
  obtain ⟨sd, nT, nS, th, bT, bS, td, fd, ta, tr, kd, sp, ca, cr, od, aw, rk, mk, ms, ma, mr, mt, ov, hR, hM, hTie, hSep, hz, hO⟩ := hI
  have hn : nT ≤ 26 := hM.2.1.1
  have hs : nS ≤ 40 := hM.2.1.2.1
  have hok := hM.2.2.1
  obtain ⟨r, ⟨h0, h1, h2⟩, ⟨q0, q1, q2⟩⟩ := ag_right hTie hs (xs (6 * t + 1 + 1))
  refine lv_aload_n hx hb dL_law_306 rfl (lv_at hl 1 rfl) ?_
  refine lv_aload_n hx hb dL_law_307 rfl (lv_at hl 0 rfl) ?_
  refine lv_iload hx hb dL_law_308 (lv_at hl 4 rfl) ?_
  refine lv_iconst (v := nI 1) hx hb dL_law_310 (by decide) ?_
  refine x_iadd (v := nI (6 * t + 1 + 1)) hx hb dL_law_311 (nI_add _ _) ?_
  refine x_sld (j := 6 * t + 1 + 1) hx hb hX hbl hbA hS (by omega) (by omega) dL_law_312 ?_
  refine x_callP (v := .int r) (va_runV (As := [.int (xs (6 * t + 1 + 1))]) (rest := []) ⟨hx, hb, hml, hown, hT⟩ (c_P_right l D κ a H hR (xs (6 * t + 1 + 1)) r h0 h1 h2) (cwV 1 hT (TT_V kL52 kiP_right ksP_right knP kcP_right) rfl rfl rfl (by decide +kernel) ⟨Nat.le_of_ble_eq_true rfl, Nat.le_of_ble_eq_true rfl⟩) (pcV hE.1 hS hAb (RC.recv hK hR)) rfl rfl hl.1 rfl (lv_room (Nat.le_of_ble_eq_true rfl)) dL_law_313 ⟨show 15 + 4 * t + 0 ≤ 601024 by omega, show 7473 + 189 * t + 0 ≤ 7293000 by omega⟩) ?_
  refine lv_aload_n hx hb dL_law_316 rfl (lv_at hl 2 rfl) ?_
  refine lv_aload_n hx hb dL_law_317 rfl (lv_at hl 0 rfl) ?_
  refine lv_iload hx hb dL_law_318 (lv_at hl 4 rfl) ?_
  refine lv_iconst (v := nI 1) hx hb dL_law_320 (by decide) ?_
  refine x_iadd (v := nI (6 * t + 1 + 1)) hx hb dL_law_321 (nI_add _ _) ?_
  refine x_sld (j := 6 * t + 1 + 1) hx hb hX hbl hbA hS (by omega) (by omega) dL_law_322 ?_
  refine x_callW (va_runV (As := [.int (xs (6 * t + 1 + 1))]) (rest := [.int r]) ⟨hx, hb, hml, hown, hT⟩ (c_M_right l D κ a H hM (xs (6 * t + 1 + 1)) r q0 q1 q2) (cwV 1 hT (TT_V kL55 kiM_right ksM_right knM kcM_right) rfl rfl rfl (by decide +kernel) ⟨Nat.le_of_ble_eq_true rfl, Nat.le_of_ble_eq_true rfl⟩) (pcV hE.1 hS hAb (RMo.recv hK hM)) rfl rfl hl.1 rfl (lv_room (Nat.le_of_ble_eq_true rfl)) dL_law_323 ⟨show 15 + 4 * t + 0 ≤ 601024 by omega, show 7473 + 189 * t + 0 ≤ 7293000 by omega⟩) hS (fun q h => RMo.ownB hM q h) (fun v H1 h => FrM.out hM (h.2.2)) (fun v H locs hpost hS => ?_)
  obtain ⟨rfl, hM, hF⟩ := hpost
  obtain ⟨hR, hz, hO⟩ := after_M hR hSep hz hO hF
  refine W.eq (g2 := F0 m 326 ls [.int r, .int r]) rfl ?_
  refine lv_icmp_eq (tgt := 742) hx hb dL_law_326 (by decide) (fun _ => ?_) (fun h9 => absurd rfl h9)
  refine W.widen (k := 15 + 4 * (t + 1)) (n := 7473 + 189 * (t + 1)) (by omega) (by omega) ?_
  exact KK _ _ _ (LI_mk hR hM hTie hSep hz hO) hS hl
set_option maxHeartbeats 1000000 in
theorem law_10 (hC : LC p l s m meth c D κ a bq L xs) (ht : 6 * t + 7 ≤ L) (hI : LI D κ a H) (hS : va_S (fun q => a ≤ q) s.heap H locs) (hl : lv_has ls 9 (lvL a bq t)) (KK : GO p l e s m below meth c D κ a bq t Q) : WL p l e s m below meth c bq H locs (15 + 4 * t) (7473 + 189 * t) Q (F0 m 548 ls []) := by
  obtain ⟨⟨hx, hb, hml, hown, hT⟩, ⟨hX, hbl, hE, hsa, hL⟩, hlt⟩ := hC
  have hK := hE.1.1
  have hAb : ∀ q : Nat, (fun q : Nat => a ≤ q) q → a ≤ q := fun _ h => h
  have hbA : ¬ (fun q : Nat => a ≤ q) bq := fun h => by have h : a ≤ bq := h; omega
  obtain ⟨sd, nT, nS, th, bT, bS, td, fd, ta, tr, kd, sp, ca, cr, od, aw, rk, mk, ms, ma, mr, mt, ov, hR, hM, hTie, hSep, hz, hO⟩ := hI
  have hn : nT ≤ 26 := hM.2.1.1
  have hs : nS ≤ 40 := hM.2.1.2.1
  have hok := hM.2.2.1
  obtain ⟨r, ⟨h0, h1⟩, ⟨q0, q1⟩⟩ := ag_out hTie hn (xs (6 * t + 1 + 1))
  refine lv_aload_n hx hb dL_law_548 rfl (lv_at hl 1 rfl) ?_
  refine lv_aload_n hx hb dL_law_549 rfl (lv_at hl 0 rfl) ?_
  refine lv_iload hx hb dL_law_550 (lv_at hl 4 rfl) ?_
  refine lv_iconst (v := nI 1) hx hb dL_law_552 (by decide) ?_
  refine x_iadd (v := nI (6 * t + 1 + 1)) hx hb dL_law_553 (nI_add _ _) ?_
  refine x_sld (j := 6 * t + 1 + 1) hx hb hX hbl hbA hS (by omega) (by omega) dL_law_554 ?_
  refine x_callP (v := .int (nI r)) (va_runV (As := [.int (xs (6 * t + 1 + 1))]) (rest := []) ⟨hx, hb, hml, hown, hT⟩ (c_P_out l D κ a H hR (xs (6 * t + 1 + 1)) r h0 h1) (cwV 1 hT (TT_V kL75 kiP_out ksP_out knP kcP_out) rfl rfl rfl (by decide +kernel) ⟨Nat.le_of_ble_eq_true rfl, Nat.le_of_ble_eq_true rfl⟩) (pcV hE.1 hS hAb (RC.recv hK hR)) rfl rfl hl.1 rfl (lv_room (Nat.le_of_ble_eq_true rfl)) dL_law_555 ⟨show 15 + 4 * t + 0 ≤ 601024 by omega, show 7473 + 189 * t + 0 ≤ 7293000 by omega⟩) ?_
  refine lv_aload_n hx hb dL_law_558 rfl (lv_at hl 2 rfl) ?_
  refine lv_aload_n hx hb dL_law_559 rfl (lv_at hl 0 rfl) ?_
  refine lv_iload hx hb dL_law_560 (lv_at hl 4 rfl) ?_
  refine lv_iconst (v := nI 1) hx hb dL_law_562 (by decide) ?_
  refine x_iadd (v := nI (6 * t + 1 + 1)) hx hb dL_law_563 (nI_add _ _) ?_
  refine x_sld (j := 6 * t + 1 + 1) hx hb hX hbl hbA hS (by omega) (by omega) dL_law_564 ?_
  refine x_callW (va_runV (As := [.int (xs (6 * t + 1 + 1))]) (rest := [.int (nI r)]) ⟨hx, hb, hml, hown, hT⟩ (c_M_out l D κ a H hM (xs (6 * t + 1 + 1)) r q0 q1) (cwV 1 hT (TT_V kL79 kiM_out ksM_out knM kcM_out) rfl rfl rfl (by decide +kernel) ⟨Nat.le_of_ble_eq_true rfl, Nat.le_of_ble_eq_true rfl⟩) (pcV hE.1 hS hAb (RMo.recv hK hM)) rfl rfl hl.1 rfl (lv_room (Nat.le_of_ble_eq_true rfl)) dL_law_565 ⟨show 15 + 4 * t + 0 ≤ 601024 by omega, show 7473 + 189 * t + 0 ≤ 7293000 by omega⟩) hS (fun q h => RMo.ownB hM q h) (fun v H1 h => FrM.out hM (h.2.2)) (fun v H locs hpost hS => ?_)
  obtain ⟨rfl, hM, hF⟩ := hpost
  obtain ⟨hR, hz, hO⟩ := after_M hR hSep hz hO hF
  refine W.eq (g2 := F0 m 568 ls [.int (nI r), .int (nI r)]) rfl ?_
  refine lv_icmp_eq (tgt := 742) hx hb dL_law_568 (by decide) (fun _ => ?_) (fun h9 => absurd rfl h9)
  refine W.widen (k := 15 + 4 * (t + 1)) (n := 7473 + 189 * (t + 1)) (by omega) (by omega) ?_
  exact KK _ _ _ (LI_mk hR hM hTie hSep hz hO) hS hl
set_option maxHeartbeats 1000000 in
theorem law_3 (hC : LC p l s m meth c D κ a bq L xs) (ht : 6 * t + 7 ≤ L) (hI : LI D κ a H) (hS : va_S (fun q => a ≤ q) s.heap H locs) (hl : lv_has ls 9 (lvL a bq t)) (KK : GO p l e s m below meth c D κ a bq t Q) : WL p l e s m below meth c bq H locs (15 + 4 * t) (7473 + 189 * t) Q (F0 m 219 ls []) := by
  obtain ⟨⟨hx, hb, hml, hown, hT⟩, ⟨hX, hbl, hE, hsa, hL⟩, hlt⟩ := hC
  have hK := hE.1.1
  have hAb : ∀ q : Nat, (fun q : Nat => a ≤ q) q → a ≤ q := fun _ h => h
  have hbA : ¬ (fun q : Nat => a ≤ q) bq := fun h => by have h : a ≤ bq := h; omega
  obtain ⟨sd, nT, nS, th, bT, bS, td, fd, ta, tr, kd, sp, ca, cr, od, aw, rk, mk, ms, ma, mr, mt, ov, hR, hM, hTie, hSep, hz, hO⟩ := hI
  have hn : nT ≤ 26 := hM.2.1.1
  have hs : nS ≤ 40 := hM.2.1.2.1
  have hok := hM.2.2.1
  obtain ⟨r, ma2, aw2, ca2, cr2, ta2, tr2, ⟨h1, h2, h3, h4, h5, h6⟩, ⟨q1, q2, q3, q4, q5, q6⟩, hTie⟩ := ag_answer hTie hn hs hok (xs (6 * t + 1 + 1)) (xs (6 * t + 1 + 2)) (xs (6 * t + 1 + 3))
  refine lv_aload_n hx hb dL_law_219 rfl (lv_at hl 1 rfl) ?_
  refine lv_aload_n hx hb dL_law_220 rfl (lv_at hl 0 rfl) ?_
  refine lv_iload hx hb dL_law_221 (lv_at hl 4 rfl) ?_
  refine lv_iconst (v := nI 1) hx hb dL_law_223 (by decide) ?_
  refine x_iadd (v := nI (6 * t + 1 + 1)) hx hb dL_law_224 (nI_add _ _) ?_
  refine x_sld (j := 6 * t + 1 + 1) hx hb hX hbl hbA hS (by omega) (by omega) dL_law_225 ?_
  refine lv_aload_n hx hb dL_law_226 rfl (lv_at hl 0 rfl) ?_
  refine lv_iload hx hb dL_law_227 (lv_at hl 4 rfl) ?_
  refine lv_iconst (v := nI 2) hx hb dL_law_229 (by decide) ?_
  refine x_iadd (v := nI (6 * t + 1 + 2)) hx hb dL_law_230 (nI_add _ _) ?_
  refine x_sld (j := 6 * t + 1 + 2) hx hb hX hbl hbA hS (by omega) (by omega) dL_law_231 ?_
  refine lv_aload_n hx hb dL_law_232 rfl (lv_at hl 0 rfl) ?_
  refine lv_iload hx hb dL_law_233 (lv_at hl 4 rfl) ?_
  refine lv_iconst (v := nI 3) hx hb dL_law_235 (by decide) ?_
  refine x_iadd (v := nI (6 * t + 1 + 3)) hx hb dL_law_236 (nI_add _ _) ?_
  refine x_sld (j := 6 * t + 1 + 3) hx hb hX hbl hbA hS (by omega) (by omega) dL_law_237 ?_
  refine x_callW (va_runV (As := [.int (xs (6 * t + 1 + 1)), .int (xs (6 * t + 1 + 2)), .int (xs (6 * t + 1 + 3))]) (rest := []) ⟨hx, hb, hml, hown, hT⟩ (c_P_answer l D κ a H hR (xs (6 * t + 1 + 1)) (xs (6 * t + 1 + 2)) (xs (6 * t + 1 + 3)) r aw2 ca2 cr2 ta2 tr2 h1 h2 h3 h4 h5 h6) (cwV 3 hT (TT_V kL42 kiP_answer ksP_answer knP kcP_answer) rfl rfl rfl (by decide +kernel) ⟨Nat.le_of_ble_eq_true rfl, Nat.le_of_ble_eq_true rfl⟩) (pcV hE.1 hS hAb (RC.recv hK hR)) rfl rfl hl.1 rfl (lv_room (Nat.le_of_ble_eq_true rfl)) dL_law_238 ⟨show 15 + 4 * t + 0 ≤ 601024 by omega, show 7473 + 189 * t + 0 ≤ 7293000 by omega⟩) hS (fun q h => RC.ownB hR q h) (fun v H1 h => FrC.out hR (h.2.2)) (fun v H locs hpost hS => ?_)
  obtain ⟨rfl, hR, hF⟩ := hpost
  obtain ⟨hM, hz, hO⟩ := after_P hM hSep hz hO hF
  refine W.eq (g2 := F0 m 241 ls [.int (nI r)]) rfl ?_
  refine lv_aload_n hx hb dL_law_241 rfl (lv_at hl 2 rfl) ?_
  refine lv_aload_n hx hb dL_law_242 rfl (lv_at hl 0 rfl) ?_
  refine lv_iload hx hb dL_law_243 (lv_at hl 4 rfl) ?_
  refine lv_iconst (v := nI 1) hx hb dL_law_245 (by decide) ?_
  refine x_iadd (v := nI (6 * t + 1 + 1)) hx hb dL_law_246 (nI_add _ _) ?_
  refine x_sld (j := 6 * t + 1 + 1) hx hb hX hbl hbA hS (by omega) (by omega) dL_law_247 ?_
  refine lv_aload_n hx hb dL_law_248 rfl (lv_at hl 0 rfl) ?_
  refine lv_iload hx hb dL_law_249 (lv_at hl 4 rfl) ?_
  refine lv_iconst (v := nI 2) hx hb dL_law_251 (by decide) ?_
  refine x_iadd (v := nI (6 * t + 1 + 2)) hx hb dL_law_252 (nI_add _ _) ?_
  refine x_sld (j := 6 * t + 1 + 2) hx hb hX hbl hbA hS (by omega) (by omega) dL_law_253 ?_
  refine lv_aload_n hx hb dL_law_254 rfl (lv_at hl 0 rfl) ?_
  refine lv_iload hx hb dL_law_255 (lv_at hl 4 rfl) ?_
  refine lv_iconst (v := nI 3) hx hb dL_law_257 (by decide) ?_
  refine x_iadd (v := nI (6 * t + 1 + 3)) hx hb dL_law_258 (nI_add _ _) ?_
  refine x_sld (j := 6 * t + 1 + 3) hx hb hX hbl hbA hS (by omega) (by omega) dL_law_259 ?_
  refine x_callW (va_runV (As := [.int (xs (6 * t + 1 + 1)), .int (xs (6 * t + 1 + 2)), .int (xs (6 * t + 1 + 3))]) (rest := [.int (nI r)]) ⟨hx, hb, hml, hown, hT⟩ (c_M_answer l D κ a H hM (xs (6 * t + 1 + 1)) (xs (6 * t + 1 + 2)) (xs (6 * t + 1 + 3)) r ma2 q1 q2 q3 q4 q5 q6) (cwV 3 hT (TT_V kL46 kiM_answer ksM_answer knM kcM_answer) rfl rfl rfl (by decide +kernel) ⟨Nat.le_of_ble_eq_true rfl, Nat.le_of_ble_eq_true rfl⟩) (pcV hE.1 hS hAb (RMo.recv hK hM)) rfl rfl hl.1 rfl (lv_room (Nat.le_of_ble_eq_true rfl)) dL_law_260 ⟨show 15 + 4 * t + 0 ≤ 601024 by omega, show 7473 + 189 * t + 0 ≤ 7293000 by omega⟩) hS (fun q h => RMo.ownB hM q h) (fun v H1 h => FrM.out hM (h.2.2)) (fun v H locs hpost hS => ?_)
  obtain ⟨rfl, hM, hF⟩ := hpost
  obtain ⟨hR, hz, hO⟩ := after_M hR hSep hz hO hF
  refine W.eq (g2 := F0 m 263 ls [.int (nI r), .int (nI r)]) rfl ?_
  refine lv_icmp_eq (tgt := 742) hx hb dL_law_263 (by decide) (fun _ => ?_) (fun h9 => absurd rfl h9)
  refine W.widen (k := 15 + 4 * (t + 1)) (n := 7473 + 189 * (t + 1)) (by omega) (by omega) ?_
  exact KK _ _ _ (LI_mk hR hM hTie hSep hz hO) hS hl
set_option maxHeartbeats 1000000 in
theorem law_6 (hC : LC p l s m meth c D κ a bq L xs) (ht : 6 * t + 7 ≤ L) (hI : LI D κ a H) (hS : va_S (fun q => a ≤ q) s.heap H locs) (hl : lv_has ls 9 (lvL a bq t)) (KK : GO p l e s m below meth c D κ a bq t Q) : WL p l e s m below meth c bq H locs (15 + 4 * t) (7473 + 189 * t) Q (F0 m 331 ls []) := by
  obtain ⟨⟨hx, hb, hml, hown, hT⟩, ⟨hX, hbl, hE, hsa, hL⟩, hlt⟩ := hC
  have hK := hE.1.1
  have hAb : ∀ q : Nat, (fun q : Nat => a ≤ q) q → a ≤ q := fun _ h => h
  have hbA : ¬ (fun q : Nat => a ≤ q) bq := fun h => by have h : a ≤ bq := h; omega
  obtain ⟨sd, nT, nS, th, bT, bS, td, fd, ta, tr, kd, sp, ca, cr, od, aw, rk, mk, ms, ma, mr, mt, ov, hR, hM, hTie, hSep, hz, hO⟩ := hI
  have hn : nT ≤ 26 := hM.2.1.1
  have hs : nS ≤ 40 := hM.2.1.2.1
  have hok := hM.2.2.1
  obtain ⟨r, mr2, rk2, ⟨h1, h2, h3, h4, h5, h6, h7⟩, ⟨q1, q2, q3, q4, q5, q6, q7⟩, hTie⟩ := ag_rank hTie hn hs hok (xs (6 * t + 1 + 1)) (xs (6 * t + 1 + 2)) (xs (6 * t + 1 + 3)) (xs (6 * t + 1 + 4))
  refine lv_aload_n hx hb dL_law_331 rfl (lv_at hl 1 rfl) ?_
  refine lv_aload_n hx hb dL_law_332 rfl (lv_at hl 0 rfl) ?_
  refine lv_iload hx hb dL_law_333 (lv_at hl 4 rfl) ?_
  refine lv_iconst (v := nI 1) hx hb dL_law_335 (by decide) ?_
  refine x_iadd (v := nI (6 * t + 1 + 1)) hx hb dL_law_336 (nI_add _ _) ?_
  refine x_sld (j := 6 * t + 1 + 1) hx hb hX hbl hbA hS (by omega) (by omega) dL_law_337 ?_
  refine lv_aload_n hx hb dL_law_338 rfl (lv_at hl 0 rfl) ?_
  refine lv_iload hx hb dL_law_339 (lv_at hl 4 rfl) ?_
  refine lv_iconst (v := nI 2) hx hb dL_law_341 (by decide) ?_
  refine x_iadd (v := nI (6 * t + 1 + 2)) hx hb dL_law_342 (nI_add _ _) ?_
  refine x_sld (j := 6 * t + 1 + 2) hx hb hX hbl hbA hS (by omega) (by omega) dL_law_343 ?_
  refine lv_aload_n hx hb dL_law_344 rfl (lv_at hl 0 rfl) ?_
  refine lv_iload hx hb dL_law_345 (lv_at hl 4 rfl) ?_
  refine lv_iconst (v := nI 3) hx hb dL_law_347 (by decide) ?_
  refine x_iadd (v := nI (6 * t + 1 + 3)) hx hb dL_law_348 (nI_add _ _) ?_
  refine x_sld (j := 6 * t + 1 + 3) hx hb hX hbl hbA hS (by omega) (by omega) dL_law_349 ?_
  refine lv_aload_n hx hb dL_law_350 rfl (lv_at hl 0 rfl) ?_
  refine lv_iload hx hb dL_law_351 (lv_at hl 4 rfl) ?_
  refine lv_iconst (v := nI 4) hx hb dL_law_353 (by decide) ?_
  refine x_iadd (v := nI (6 * t + 1 + 4)) hx hb dL_law_354 (nI_add _ _) ?_
  refine x_sld (j := 6 * t + 1 + 4) hx hb hX hbl hbA hS (by omega) (by omega) dL_law_355 ?_
  refine x_callW (va_runV (As := [.int (xs (6 * t + 1 + 1)), .int (xs (6 * t + 1 + 2)), .int (xs (6 * t + 1 + 3)), .int (xs (6 * t + 1 + 4))]) (rest := []) ⟨hx, hb, hml, hown, hT⟩ (c_P_rank l D κ a H hR (xs (6 * t + 1 + 1)) (xs (6 * t + 1 + 2)) (xs (6 * t + 1 + 3)) (xs (6 * t + 1 + 4)) r rk2 h1 h2 h3 h4 h5 h6 h7) (cwV 4 hT (TT_V kL56 kiP_rank ksP_rank knP kcP_rank) rfl rfl rfl (by decide +kernel) ⟨Nat.le_of_ble_eq_true rfl, Nat.le_of_ble_eq_true rfl⟩) (pcV hE.1 hS hAb (RC.recv hK hR)) rfl rfl hl.1 rfl (lv_room (Nat.le_of_ble_eq_true rfl)) dL_law_356 ⟨show 15 + 4 * t + 0 ≤ 601024 by omega, show 7473 + 189 * t + 0 ≤ 7293000 by omega⟩) hS (fun q h => RC.ownB hR q h) (fun v H1 h => FrC.out hR (h.2.2)) (fun v H locs hpost hS => ?_)
  obtain ⟨rfl, hR, hF⟩ := hpost
  obtain ⟨hM, hz, hO⟩ := after_P hM hSep hz hO hF
  refine W.eq (g2 := F0 m 359 ls [.int (nI r)]) rfl ?_
  refine lv_aload_n hx hb dL_law_359 rfl (lv_at hl 2 rfl) ?_
  refine lv_aload_n hx hb dL_law_360 rfl (lv_at hl 0 rfl) ?_
  refine lv_iload hx hb dL_law_361 (lv_at hl 4 rfl) ?_
  refine lv_iconst (v := nI 1) hx hb dL_law_363 (by decide) ?_
  refine x_iadd (v := nI (6 * t + 1 + 1)) hx hb dL_law_364 (nI_add _ _) ?_
  refine x_sld (j := 6 * t + 1 + 1) hx hb hX hbl hbA hS (by omega) (by omega) dL_law_365 ?_
  refine lv_aload_n hx hb dL_law_366 rfl (lv_at hl 0 rfl) ?_
  refine lv_iload hx hb dL_law_367 (lv_at hl 4 rfl) ?_
  refine lv_iconst (v := nI 2) hx hb dL_law_369 (by decide) ?_
  refine x_iadd (v := nI (6 * t + 1 + 2)) hx hb dL_law_370 (nI_add _ _) ?_
  refine x_sld (j := 6 * t + 1 + 2) hx hb hX hbl hbA hS (by omega) (by omega) dL_law_371 ?_
  refine lv_aload_n hx hb dL_law_372 rfl (lv_at hl 0 rfl) ?_
  refine lv_iload hx hb dL_law_373 (lv_at hl 4 rfl) ?_
  refine lv_iconst (v := nI 3) hx hb dL_law_375 (by decide) ?_
  refine x_iadd (v := nI (6 * t + 1 + 3)) hx hb dL_law_376 (nI_add _ _) ?_
  refine x_sld (j := 6 * t + 1 + 3) hx hb hX hbl hbA hS (by omega) (by omega) dL_law_377 ?_
  refine lv_aload_n hx hb dL_law_378 rfl (lv_at hl 0 rfl) ?_
  refine lv_iload hx hb dL_law_379 (lv_at hl 4 rfl) ?_
  refine lv_iconst (v := nI 4) hx hb dL_law_381 (by decide) ?_
  refine x_iadd (v := nI (6 * t + 1 + 4)) hx hb dL_law_382 (nI_add _ _) ?_
  refine x_sld (j := 6 * t + 1 + 4) hx hb hX hbl hbA hS (by omega) (by omega) dL_law_383 ?_
  refine x_callW (va_runV (As := [.int (xs (6 * t + 1 + 1)), .int (xs (6 * t + 1 + 2)), .int (xs (6 * t + 1 + 3)), .int (xs (6 * t + 1 + 4))]) (rest := [.int (nI r)]) ⟨hx, hb, hml, hown, hT⟩ (c_M_rank l D κ a H hM (xs (6 * t + 1 + 1)) (xs (6 * t + 1 + 2)) (xs (6 * t + 1 + 3)) (xs (6 * t + 1 + 4)) r mr2 q1 q2 q3 q4 q5 q6 q7) (cwV 4 hT (TT_V kL60 kiM_rank ksM_rank knM kcM_rank) rfl rfl rfl (by decide +kernel) ⟨Nat.le_of_ble_eq_true rfl, Nat.le_of_ble_eq_true rfl⟩) (pcV hE.1 hS hAb (RMo.recv hK hM)) rfl rfl hl.1 rfl (lv_room (Nat.le_of_ble_eq_true rfl)) dL_law_384 ⟨show 15 + 4 * t + 0 ≤ 601024 by omega, show 7473 + 189 * t + 0 ≤ 7293000 by omega⟩) hS (fun q h => RMo.ownB hM q h) (fun v H1 h => FrM.out hM (h.2.2)) (fun v H locs hpost hS => ?_)
  obtain ⟨rfl, hM, hF⟩ := hpost
  obtain ⟨hR, hz, hO⟩ := after_M hR hSep hz hO hF
  refine W.eq (g2 := F0 m 387 ls [.int (nI r), .int (nI r)]) rfl ?_
  refine lv_icmp_eq (tgt := 742) hx hb dL_law_387 (by decide) (fun _ => ?_) (fun h9 => absurd rfl h9)
  refine W.widen (k := 15 + 4 * (t + 1)) (n := 7473 + 189 * (t + 1)) (by omega) (by omega) ?_
  exact KK _ _ _ (LI_mk hR hM hTie hSep hz hO) hS hl
set_option maxHeartbeats 1000000 in
theorem law_7 (hC : LC p l s m meth c D κ a bq L xs) (ht : 6 * t + 7 ≤ L) (hI : LI D κ a H) (hS : va_S (fun q => a ≤ q) s.heap H locs) (hl : lv_has ls 9 (lvL a bq t)) (KK : GO p l e s m below meth c D κ a bq t Q) : WL p l e s m below meth c bq H locs (15 + 4 * t) (7473 + 189 * t) Q (F0 m 392 ls []) := by
  obtain ⟨⟨hx, hb, hml, hown, hT⟩, ⟨hX, hbl, hE, hsa, hL⟩, hlt⟩ := hC
  have hK := hE.1.1
  have hAb : ∀ q : Nat, (fun q : Nat => a ≤ q) q → a ≤ q := fun _ h => h
  have hbA : ¬ (fun q : Nat => a ≤ q) bq := fun h => by have h : a ≤ bq := h; omega
  obtain ⟨sd, nT, nS, th, bT, bS, td, fd, ta, tr, kd, sp, ca, cr, od, aw, rk, mk, ms, ma, mr, mt, ov, hR, hM, hTie, hSep, hz, hO⟩ := hI
  have hn : nT ≤ 26 := hM.2.1.1
  have hs : nS ≤ 40 := hM.2.1.2.1
  have hok := hM.2.2.1
  obtain ⟨r, ⟨h0, h1, h2, h3, h4⟩, q0, q1, q2, q3, q4⟩ := ag_perm hTie hn hs hok (xs (6 * t + 1 + 1)) (xs (6 * t + 1 + 2))
  refine lv_aload_n hx hb dL_law_392 rfl (lv_at hl 1 rfl) ?_
  refine lv_aload_n hx hb dL_law_393 rfl (lv_at hl 0 rfl) ?_
  refine lv_iload hx hb dL_law_394 (lv_at hl 4 rfl) ?_
  refine lv_iconst (v := nI 1) hx hb dL_law_396 (by decide) ?_
  refine x_iadd (v := nI (6 * t + 1 + 1)) hx hb dL_law_397 (nI_add _ _) ?_
  refine x_sld (j := 6 * t + 1 + 1) hx hb hX hbl hbA hS (by omega) (by omega) dL_law_398 ?_
  refine lv_aload_n hx hb dL_law_399 rfl (lv_at hl 0 rfl) ?_
  refine lv_iload hx hb dL_law_400 (lv_at hl 4 rfl) ?_
  refine lv_iconst (v := nI 2) hx hb dL_law_402 (by decide) ?_
  refine x_iadd (v := nI (6 * t + 1 + 2)) hx hb dL_law_403 (nI_add _ _) ?_
  refine x_sld (j := 6 * t + 1 + 2) hx hb hX hbl hbA hS (by omega) (by omega) dL_law_404 ?_
  refine x_callW (va_runV (As := [.int (xs (6 * t + 1 + 1)), .int (xs (6 * t + 1 + 2))]) (rest := []) ⟨hx, hb, hml, hown, hT⟩ (c_P_permuted l D κ a H hR (xs (6 * t + 1 + 1)) (xs (6 * t + 1 + 2)) r h0 h1 h2 h3 h4) (cwV 2 hT (TT_V kL61 kiP_permuted ksP_permuted knP kcP_permuted) rfl rfl rfl (by decide +kernel) ⟨Nat.le_of_ble_eq_true rfl, Nat.le_of_ble_eq_true rfl⟩) (pcV hE.1 hS hAb (RC.recv hK hR)) rfl rfl hl.1 rfl (lv_room (Nat.le_of_ble_eq_true rfl)) dL_law_405 ⟨show 15 + 4 * t + 0 ≤ 601024 by omega, show 7473 + 189 * t + 0 ≤ 7293000 by omega⟩) hS (fun q h => RC.ownB hR q h) (fun v H1 h => FrC.out hR (h.2.2)) (fun v H locs hpost hS => ?_)
  obtain ⟨rfl, hR, hF⟩ := hpost
  obtain ⟨hM, hz, hO⟩ := after_P hM hSep hz hO hF
  refine W.eq (g2 := F0 m 408 ls [.long r]) rfl ?_
  refine lv_aload_n hx hb dL_law_408 rfl (lv_at hl 2 rfl) ?_
  refine lv_aload_n hx hb dL_law_409 rfl (lv_at hl 0 rfl) ?_
  refine lv_iload hx hb dL_law_410 (lv_at hl 4 rfl) ?_
  refine lv_iconst (v := nI 1) hx hb dL_law_412 (by decide) ?_
  refine x_iadd (v := nI (6 * t + 1 + 1)) hx hb dL_law_413 (nI_add _ _) ?_
  refine x_sld (j := 6 * t + 1 + 1) hx hb hX hbl hbA hS (by omega) (by omega) dL_law_414 ?_
  refine lv_aload_n hx hb dL_law_415 rfl (lv_at hl 0 rfl) ?_
  refine lv_iload hx hb dL_law_416 (lv_at hl 4 rfl) ?_
  refine lv_iconst (v := nI 2) hx hb dL_law_418 (by decide) ?_
  refine x_iadd (v := nI (6 * t + 1 + 2)) hx hb dL_law_419 (nI_add _ _) ?_
  refine x_sld (j := 6 * t + 1 + 2) hx hb hX hbl hbA hS (by omega) (by omega) dL_law_420 ?_
  refine x_callW (va_runV (As := [.int (xs (6 * t + 1 + 1)), .int (xs (6 * t + 1 + 2))]) (rest := [.long r]) ⟨hx, hb, hml, hown, hT⟩ (c_M_permuted l D κ a H hM (xs (6 * t + 1 + 1)) (xs (6 * t + 1 + 2)) r q0 q1 q2 q3 q4) (cwV 2 hT (TT_V kL64 kiM_permuted ksM_permuted knM kcM_permuted) rfl rfl rfl (by decide +kernel) ⟨Nat.le_of_ble_eq_true rfl, Nat.le_of_ble_eq_true rfl⟩) (pcV hE.1 hS hAb (RMo.recv hK hM)) rfl rfl hl.1 rfl (lv_room (Nat.le_of_ble_eq_true rfl)) dL_law_421 ⟨show 15 + 4 * t + 0 ≤ 601024 by omega, show 7473 + 189 * t + 0 ≤ 7293000 by omega⟩) hS (fun q h => RMo.ownB hM q h) (fun v H1 h => FrM.out hM (h.2.2)) (fun v H locs hpost hS => ?_)
  obtain ⟨rfl, hM, hF⟩ := hpost
  obtain ⟨hR, hz, hO⟩ := after_M hR hSep hz hO hF
  refine W.eq (g2 := F0 m 424 ls [.long r, .long r]) rfl ?_
  refine x_leq (tgt := 742) hx hb dL_law_424 dL_law_425 (by decide) (fun _ => ?_) (fun h9 => absurd rfl h9)
  refine W.widen (k := 15 + 4 * (t + 1)) (n := 7473 + 189 * (t + 1)) (by omega) (by omega) ?_
  exact KK _ _ _ (LI_mk hR hM hTie hSep hz hO) hS hl
theorem Sep.taster {a nT nS sz : Nat} {bT bS : Nat → Nat} (h : Sep a a nT nS bT bS) (hz : a + 15 ≤ sz) : Sep a a (nT + 1) nS (u1 bT nT sz) bS := ⟨rfl, fun i hi => by
  unfold u1
  split
  · exact hz
  · exact h.2.1 i (by omega), h.2.2⟩
theorem Sep.test {a nT nS sz : Nat} {bT bS : Nat → Nat} (h : Sep a a nT nS bT bS) (hz : a + 15 ≤ sz) : Sep a a nT (nS + 1) bT (u1 bS nS sz) := ⟨rfl, h.2.1, fun i hi => by
  unfold u1
  split
  · exact hz
  · exact h.2.2 i (by omega)⟩
set_option maxHeartbeats 1000000 in
theorem law_0 (hC : LC p l s m meth c D κ a bq L xs) (ht : 6 * t + 7 ≤ L) (hI : LI D κ a H) (hS : va_S (fun q => a ≤ q) s.heap H locs) (hl : lv_has ls 9 (lvL a bq t)) (KK : GO p l e s m below meth c D κ a bq t Q) : WL p l e s m below meth c bq H locs (15 + 4 * t) (7473 + 189 * t) Q (F0 m 120 ls []) := by
  obtain ⟨⟨hx, hb, hml, hown, hT⟩, ⟨hX, hbl, hE, hsa, hL⟩, hlt⟩ := hC
  have hK := hE.1.1
  have hAb : ∀ q : Nat, (fun q : Nat => a ≤ q) q → a ≤ q := fun _ h => h
  have hbA : ¬ (fun q : Nat => a ≤ q) bq := fun h => by have h : a ≤ bq := h; omega
  obtain ⟨sd, nT, nS, th, bT, bS, td, fd, ta, tr, kd, sp, ca, cr, od, aw, rk, mk, ms, ma, mr, mt, ov, hR, hM, hTie, hSep, hz, hO⟩ := hI
  have hn : nT ≤ 26 := hM.2.1.1
  have hs : nS ≤ 40 := hM.2.1.2.1
  have hok := hM.2.2.1
  refine lv_aload_n hx hb dL_law_120 rfl (lv_at hl 1 rfl) ?_
  refine x_callW (va_runV (As := []) (rest := []) ⟨hx, hb, hml, hown, hT⟩ (c_P_taster l D κ a H hR) (cwV 0 hT (TT_V kL27 kiP_taster ksP_taster knP kcP_taster) rfl rfl rfl (by decide +kernel) ⟨Nat.le_of_ble_eq_true rfl, Nat.le_of_ble_eq_true rfl⟩) (pcV hE.1 hS hAb (RC.recv hK hR)) rfl rfl hl.1 rfl (lv_room (Nat.le_of_ble_eq_true rfl)) dL_law_121 ⟨show 15 + 4 * t + 3 ≤ 601024 by omega, show 7473 + 189 * t + 36 ≤ 7293000 by omega⟩) hS (fun q h => RC.ownB hR q h) (fun v H1 h => FrC.out hR (h.2.2)) (fun v H locs hpost hS => ?_)
  obtain ⟨hp1, hp2, hF⟩ := hpost
  obtain ⟨hM, hz1, hO⟩ := after_P hM hSep hz hO hF
  by_cases h26 : nT < 26
  · obtain ⟨rfl, hR⟩ := hp2 h26
    have hSep1 := Sep.taster hSep hz
    refine W.eq (g2 := F0 m 124 ls [.int (nI nT)]) rfl ?_
    refine lv_aload_n hx hb dL_law_124 rfl (lv_at hl 2 rfl) ?_
    refine x_callW (va_runV (As := []) (rest := [.int (nI nT)]) ⟨hx, hb, hml, hown, hT⟩ (c_M_taster l D κ a H hM) (cwV 0 hT (TT_V kL31 kiM_taster ksM_taster knM kcM_taster) rfl rfl rfl (by decide +kernel) ⟨Nat.le_of_ble_eq_true rfl, Nat.le_of_ble_eq_true rfl⟩) (pcV hE.1 hS hAb (RMo.recv hK hM)) rfl rfl hl.1 rfl (lv_room (Nat.le_of_ble_eq_true rfl)) dL_law_125 ⟨show 15 + 4 * t + 3 + 0 ≤ 601024 by omega, show 7473 + 189 * t + 36 + 0 ≤ 7293000 by omega⟩) hS (fun q h => RMo.ownB hM q h) (fun v H1 h => FrM.out hM (h.2.2)) (fun v H locs hpost hS => ?_)
    obtain ⟨hm1, hm2, hF⟩ := hpost
    obtain ⟨rfl, hM⟩ := hm2 h26
    obtain ⟨hR, hz, hO⟩ := after_M hR hSep1 hz1 hO hF
    refine W.eq (g2 := F0 m 128 ls [.int (nI nT), .int (nI nT)]) rfl ?_
    refine lv_icmp_eq (tgt := 742) hx hb dL_law_128 (by decide) (fun _ => ?_) (fun h9 => absurd rfl h9)
    refine W.widen (k := 15 + 4 * (t + 1)) (n := 7473 + 189 * (t + 1)) (by omega) (by omega) ?_
    exact KK _ _ _ (LI_mk hR hM (tie_taster hTie h26 hs) hSep1 hz hO) hS hl
  · obtain ⟨rfl, hR⟩ := hp1 (by omega)
    have hSep1 := hSep
    refine W.eq (g2 := F0 m 124 ls [.int (-2)]) rfl ?_
    refine lv_aload_n hx hb dL_law_124 rfl (lv_at hl 2 rfl) ?_
    refine x_callW (va_runV (As := []) (rest := [.int (-2)]) ⟨hx, hb, hml, hown, hT⟩ (c_M_taster l D κ a H hM) (cwV 0 hT (TT_V kL31 kiM_taster ksM_taster knM kcM_taster) rfl rfl rfl (by decide +kernel) ⟨Nat.le_of_ble_eq_true rfl, Nat.le_of_ble_eq_true rfl⟩) (pcV hE.1 hS hAb (RMo.recv hK hM)) rfl rfl hl.1 rfl (lv_room (Nat.le_of_ble_eq_true rfl)) dL_law_125 ⟨show 15 + 4 * t + 3 + 0 ≤ 601024 by omega, show 7473 + 189 * t + 36 + 0 ≤ 7293000 by omega⟩) hS (fun q h => RMo.ownB hM q h) (fun v H1 h => FrM.out hM (h.2.2)) (fun v H locs hpost hS => ?_)
    obtain ⟨hm1, hm2, hF⟩ := hpost
    obtain ⟨rfl, hM⟩ := hm1 (by omega)
    obtain ⟨hR, hz, hO⟩ := after_M hR hSep1 hz1 hO hF
    refine W.eq (g2 := F0 m 128 ls [.int (-2), .int (-2)]) rfl ?_
    refine lv_icmp_eq (tgt := 742) hx hb dL_law_128 (by decide) (fun _ => ?_) (fun h9 => absurd rfl h9)
    refine W.widen (k := 15 + 4 * (t + 1)) (n := 7473 + 189 * (t + 1)) (by omega) (by omega) ?_
    exact KK _ _ _ (LI_mk hR hM hTie hSep1 hz hO) hS hl
set_option maxHeartbeats 1000000 in
theorem law_1 (hC : LC p l s m meth c D κ a bq L xs) (ht : 6 * t + 7 ≤ L) (hI : LI D κ a H) (hS : va_S (fun q => a ≤ q) s.heap H locs) (hl : lv_has ls 9 (lvL a bq t)) (KK : GO p l e s m below meth c D κ a bq t Q) : WL p l e s m below meth c bq H locs (15 + 4 * t) (7473 + 189 * t) Q (F0 m 133 ls []) := by
  obtain ⟨⟨hx, hb, hml, hown, hT⟩, ⟨hX, hbl, hE, hsa, hL⟩, hlt⟩ := hC
  have hK := hE.1.1
  have hAb : ∀ q : Nat, (fun q : Nat => a ≤ q) q → a ≤ q := fun _ h => h
  have hbA : ¬ (fun q : Nat => a ≤ q) bq := fun h => by have h : a ≤ bq := h; omega
  obtain ⟨sd, nT, nS, th, bT, bS, td, fd, ta, tr, kd, sp, ca, cr, od, aw, rk, mk, ms, ma, mr, mt, ov, hR, hM, hTie, hSep, hz, hO⟩ := hI
  have hn : nT ≤ 26 := hM.2.1.1
  have hs : nS ≤ 40 := hM.2.1.2.1
  have hok := hM.2.2.1
  refine lv_aload_n hx hb dL_law_133 rfl (lv_at hl 1 rfl) ?_
  refine lv_aload_n hx hb dL_law_134 rfl (lv_at hl 0 rfl) ?_
  refine lv_iload hx hb dL_law_135 (lv_at hl 4 rfl) ?_
  refine lv_iconst (v := nI 1) hx hb dL_law_137 (by decide) ?_
  refine x_iadd (v := nI (6 * t + 1 + 1)) hx hb dL_law_138 (nI_add _ _) ?_
  refine x_sld (j := 6 * t + 1 + 1) hx hb hX hbl hbA hS (by omega) (by omega) dL_law_139 ?_
  refine lv_aload_n hx hb dL_law_140 rfl (lv_at hl 0 rfl) ?_
  refine lv_iload hx hb dL_law_141 (lv_at hl 4 rfl) ?_
  refine lv_iconst (v := nI 2) hx hb dL_law_143 (by decide) ?_
  refine x_iadd (v := nI (6 * t + 1 + 2)) hx hb dL_law_144 (nI_add _ _) ?_
  refine x_sld (j := 6 * t + 1 + 2) hx hb hX hbl hbA hS (by omega) (by omega) dL_law_145 ?_
  refine x_callW (va_runV (As := [.int (xs (6 * t + 1 + 1)), .int (xs (6 * t + 1 + 2))]) (rest := []) ⟨hx, hb, hml, hown, hT⟩ (c_P_test l D κ a H hR (xs (6 * t + 1 + 1)) (xs (6 * t + 1 + 2))) (cwV 2 hT (TT_V kL32 kiP_test ksP_test knP kcP_test) rfl rfl rfl (by decide +kernel) ⟨Nat.le_of_ble_eq_true rfl, Nat.le_of_ble_eq_true rfl⟩) (pcV hE.1 hS hAb (RC.recv hK hR)) rfl rfl hl.1 rfl (lv_room (Nat.le_of_ble_eq_true rfl)) dL_law_146 ⟨show 15 + 4 * t + 4 ≤ 601024 by omega, show 7473 + 189 * t + 189 ≤ 7293000 by omega⟩) hS (fun q h => RC.ownB hR q h) (fun v H1 h => FrC.out hR (h.2.2.2)) (fun v H locs hpost hS => ?_)
  obtain ⟨hp1, hp2, hp3, hF⟩ := hpost
  obtain ⟨hM, hz1, hO⟩ := after_P hM hSep hz hO hF
  by_cases hk : okK (xs (6 * t + 1 + 1)) (xs (6 * t + 1 + 2)) = true
  · by_cases h40 : nS < 40
    · obtain ⟨k, n, hkn, ex, ey⟩ := okK_nat hk
      obtain ⟨rfl, hR⟩ := hp3 k n hkn ex ey h40
      have hSep1 := Sep.test hSep hz
      refine W.eq (g2 := F0 m 149 ls [.int (nI nS)]) rfl ?_
      refine lv_aload_n hx hb dL_law_149 rfl (lv_at hl 2 rfl) ?_
      refine lv_aload_n hx hb dL_law_150 rfl (lv_at hl 0 rfl) ?_
      refine lv_iload hx hb dL_law_151 (lv_at hl 4 rfl) ?_
      refine lv_iconst (v := nI 1) hx hb dL_law_153 (by decide) ?_
      refine x_iadd (v := nI (6 * t + 1 + 1)) hx hb dL_law_154 (nI_add _ _) ?_
      refine x_sld (j := 6 * t + 1 + 1) hx hb hX hbl hbA hS (by omega) (by omega) dL_law_155 ?_
      refine lv_aload_n hx hb dL_law_156 rfl (lv_at hl 0 rfl) ?_
      refine lv_iload hx hb dL_law_157 (lv_at hl 4 rfl) ?_
      refine lv_iconst (v := nI 2) hx hb dL_law_159 (by decide) ?_
      refine x_iadd (v := nI (6 * t + 1 + 2)) hx hb dL_law_160 (nI_add _ _) ?_
      refine x_sld (j := 6 * t + 1 + 2) hx hb hX hbl hbA hS (by omega) (by omega) dL_law_161 ?_
      refine x_callW (va_runV (As := [.int (xs (6 * t + 1 + 1)), .int (xs (6 * t + 1 + 2))]) (rest := [.int (nI nS)]) ⟨hx, hb, hml, hown, hT⟩ (c_M_test l D κ a H hM (xs (6 * t + 1 + 1)) (xs (6 * t + 1 + 2))) (cwV 2 hT (TT_V kL36 kiM_test ksM_test knM kcM_test) rfl rfl rfl (by decide +kernel) ⟨Nat.le_of_ble_eq_true rfl, Nat.le_of_ble_eq_true rfl⟩) (pcV hE.1 hS hAb (RMo.recv hK hM)) rfl rfl hl.1 rfl (lv_room (Nat.le_of_ble_eq_true rfl)) dL_law_162 ⟨show 15 + 4 * t + 4 + 0 ≤ 601024 by omega, show 7473 + 189 * t + 189 + 0 ≤ 7293000 by omega⟩) hS (fun q h => RMo.ownB hM q h) (fun v H1 h => FrM.out hM (h.2.2.2)) (fun v H locs hpost hS => ?_)
      obtain ⟨hm1, hm2, hm3, hF⟩ := hpost
      obtain ⟨rfl, hM⟩ := hm3 k n hkn ex ey h40
      obtain ⟨hR, hz, hO⟩ := after_M hR hSep1 hz1 hO hF
      refine W.eq (g2 := F0 m 165 ls [.int (nI nS), .int (nI nS)]) rfl ?_
      refine lv_icmp_eq (tgt := 742) hx hb dL_law_165 (by decide) (fun _ => ?_) (fun h9 => absurd rfl h9)
      refine W.widen (k := 15 + 4 * (t + 1)) (n := 7473 + 189 * (t + 1)) (by omega) (by omega) ?_
      exact KK _ _ _ (LI_mk hR hM (tie_test hTie h40 hn k n) hSep1 hz hO) hS hl
    · obtain ⟨rfl, hR⟩ := hp2 hk (by omega)
      have hSep1 := hSep
      refine W.eq (g2 := F0 m 149 ls [.int (-2)]) rfl ?_
      refine lv_aload_n hx hb dL_law_149 rfl (lv_at hl 2 rfl) ?_
      refine lv_aload_n hx hb dL_law_150 rfl (lv_at hl 0 rfl) ?_
      refine lv_iload hx hb dL_law_151 (lv_at hl 4 rfl) ?_
      refine lv_iconst (v := nI 1) hx hb dL_law_153 (by decide) ?_
      refine x_iadd (v := nI (6 * t + 1 + 1)) hx hb dL_law_154 (nI_add _ _) ?_
      refine x_sld (j := 6 * t + 1 + 1) hx hb hX hbl hbA hS (by omega) (by omega) dL_law_155 ?_
      refine lv_aload_n hx hb dL_law_156 rfl (lv_at hl 0 rfl) ?_
      refine lv_iload hx hb dL_law_157 (lv_at hl 4 rfl) ?_
      refine lv_iconst (v := nI 2) hx hb dL_law_159 (by decide) ?_
      refine x_iadd (v := nI (6 * t + 1 + 2)) hx hb dL_law_160 (nI_add _ _) ?_
      refine x_sld (j := 6 * t + 1 + 2) hx hb hX hbl hbA hS (by omega) (by omega) dL_law_161 ?_
      refine x_callW (va_runV (As := [.int (xs (6 * t + 1 + 1)), .int (xs (6 * t + 1 + 2))]) (rest := [.int (-2)]) ⟨hx, hb, hml, hown, hT⟩ (c_M_test l D κ a H hM (xs (6 * t + 1 + 1)) (xs (6 * t + 1 + 2))) (cwV 2 hT (TT_V kL36 kiM_test ksM_test knM kcM_test) rfl rfl rfl (by decide +kernel) ⟨Nat.le_of_ble_eq_true rfl, Nat.le_of_ble_eq_true rfl⟩) (pcV hE.1 hS hAb (RMo.recv hK hM)) rfl rfl hl.1 rfl (lv_room (Nat.le_of_ble_eq_true rfl)) dL_law_162 ⟨show 15 + 4 * t + 4 + 0 ≤ 601024 by omega, show 7473 + 189 * t + 189 + 0 ≤ 7293000 by omega⟩) hS (fun q h => RMo.ownB hM q h) (fun v H1 h => FrM.out hM (h.2.2.2)) (fun v H locs hpost hS => ?_)
      obtain ⟨hm1, hm2, hm3, hF⟩ := hpost
      obtain ⟨rfl, hM⟩ := hm2 hk (by omega)
      obtain ⟨hR, hz, hO⟩ := after_M hR hSep1 hz1 hO hF
      refine W.eq (g2 := F0 m 165 ls [.int (-2), .int (-2)]) rfl ?_
      refine lv_icmp_eq (tgt := 742) hx hb dL_law_165 (by decide) (fun _ => ?_) (fun h9 => absurd rfl h9)
      refine W.widen (k := 15 + 4 * (t + 1)) (n := 7473 + 189 * (t + 1)) (by omega) (by omega) ?_
      exact KK _ _ _ (LI_mk hR hM hTie hSep1 hz hO) hS hl
  · have hk : okK (xs (6 * t + 1 + 1)) (xs (6 * t + 1 + 2)) = false := by cases h9 : okK (xs (6 * t + 1 + 1)) (xs (6 * t + 1 + 2)) with | true => exact absurd h9 hk | false => rfl
    obtain ⟨rfl, hR⟩ := hp1 hk
    have hSep1 := hSep
    refine W.eq (g2 := F0 m 149 ls [.int (-1)]) rfl ?_
    refine lv_aload_n hx hb dL_law_149 rfl (lv_at hl 2 rfl) ?_
    refine lv_aload_n hx hb dL_law_150 rfl (lv_at hl 0 rfl) ?_
    refine lv_iload hx hb dL_law_151 (lv_at hl 4 rfl) ?_
    refine lv_iconst (v := nI 1) hx hb dL_law_153 (by decide) ?_
    refine x_iadd (v := nI (6 * t + 1 + 1)) hx hb dL_law_154 (nI_add _ _) ?_
    refine x_sld (j := 6 * t + 1 + 1) hx hb hX hbl hbA hS (by omega) (by omega) dL_law_155 ?_
    refine lv_aload_n hx hb dL_law_156 rfl (lv_at hl 0 rfl) ?_
    refine lv_iload hx hb dL_law_157 (lv_at hl 4 rfl) ?_
    refine lv_iconst (v := nI 2) hx hb dL_law_159 (by decide) ?_
    refine x_iadd (v := nI (6 * t + 1 + 2)) hx hb dL_law_160 (nI_add _ _) ?_
    refine x_sld (j := 6 * t + 1 + 2) hx hb hX hbl hbA hS (by omega) (by omega) dL_law_161 ?_
    refine x_callW (va_runV (As := [.int (xs (6 * t + 1 + 1)), .int (xs (6 * t + 1 + 2))]) (rest := [.int (-1)]) ⟨hx, hb, hml, hown, hT⟩ (c_M_test l D κ a H hM (xs (6 * t + 1 + 1)) (xs (6 * t + 1 + 2))) (cwV 2 hT (TT_V kL36 kiM_test ksM_test knM kcM_test) rfl rfl rfl (by decide +kernel) ⟨Nat.le_of_ble_eq_true rfl, Nat.le_of_ble_eq_true rfl⟩) (pcV hE.1 hS hAb (RMo.recv hK hM)) rfl rfl hl.1 rfl (lv_room (Nat.le_of_ble_eq_true rfl)) dL_law_162 ⟨show 15 + 4 * t + 4 + 0 ≤ 601024 by omega, show 7473 + 189 * t + 189 + 0 ≤ 7293000 by omega⟩) hS (fun q h => RMo.ownB hM q h) (fun v H1 h => FrM.out hM (h.2.2.2)) (fun v H locs hpost hS => ?_)
    obtain ⟨hm1, hm2, hm3, hF⟩ := hpost
    obtain ⟨rfl, hM⟩ := hm1 hk
    obtain ⟨hR, hz, hO⟩ := after_M hR hSep1 hz1 hO hF
    refine W.eq (g2 := F0 m 165 ls [.int (-1), .int (-1)]) rfl ?_
    refine lv_icmp_eq (tgt := 742) hx hb dL_law_165 (by decide) (fun _ => ?_) (fun h9 => absurd rfl h9)
    refine W.widen (k := 15 + 4 * (t + 1)) (n := 7473 + 189 * (t + 1)) (by omega) (by omega) ?_
    exact KK _ _ _ (LI_mk hR hM hTie hSep1 hz hO) hS hl
set_option maxHeartbeats 1000000 in
theorem law_8 (hC : LC p l s m meth c D κ a bq L xs) (ht : 6 * t + 7 ≤ L) (hI : LI D κ a H) (hS : va_S (fun q => a ≤ q) s.heap H locs) (hl : lv_has ls 9 (lvL a bq t)) (KK : GO p l e s m below meth c D κ a bq t Q) : WL p l e s m below meth c bq H locs (15 + 4 * t) (7473 + 189 * t) Q (F0 m 430 ls []) := by
  obtain ⟨⟨hx, hb, hml, hown, hT⟩, ⟨hX, hbl, hE, hsa, hL⟩, hlt⟩ := hC
  have hK := hE.1.1
  have hAb : ∀ q : Nat, (fun q : Nat => a ≤ q) q → a ≤ q := fun _ h => h
  have hbA : ¬ (fun q : Nat => a ≤ q) bq := fun h => by have h : a ≤ bq := h; omega
  obtain ⟨sd, nT, nS, th, bT, bS, td, fd, ta, tr, kd, sp, ca, cr, od, aw, rk, mk, ms, ma, mr, mt, ov, hR, hM, hTie, hSep, hz, hO⟩ := hI
  have hn : nT ≤ 26 := hM.2.1.1
  have hs : nS ≤ 40 := hM.2.1.2.1
  have hok := hM.2.2.1
  obtain ⟨r, ⟨h0, h1⟩, q0, q1⟩ := ag_thr hTie hn hM.2.2.2.2.2 (xs (6 * t + 1 + 1))
  refine lv_aload_n hx hb dL_law_430 rfl (lv_at hl 1 rfl) ?_
  refine lv_aload_n hx hb dL_law_431 rfl (lv_at hl 0 rfl) ?_
  refine lv_iload hx hb dL_law_432 (lv_at hl 4 rfl) ?_
  refine lv_iconst (v := nI 1) hx hb dL_law_434 (by decide) ?_
  refine x_iadd (v := nI (6 * t + 1 + 1)) hx hb dL_law_435 (nI_add _ _) ?_
  refine x_sld (j := 6 * t + 1 + 1) hx hb hX hbl hbA hS (by omega) (by omega) dL_law_436 ?_
  refine x_callP (v := .double r) (va_runV (As := [.int (xs (6 * t + 1 + 1))]) (rest := []) ⟨hx, hb, hml, hown, hT⟩ (c_P_threshold l D κ a H hR (xs (6 * t + 1 + 1)) r h0 h1) (cwV 1 hT (TT_V kL65 kiP_threshold ksP_threshold knP kcP_threshold) rfl rfl rfl (by decide +kernel) ⟨Nat.le_of_ble_eq_true rfl, Nat.le_of_ble_eq_true rfl⟩) (pcV hE.1 hS hAb (RC.recv hK hR)) rfl rfl hl.1 rfl (lv_room (Nat.le_of_ble_eq_true rfl)) dL_law_437 ⟨show 15 + 4 * t + 0 ≤ 601024 by omega, show 7473 + 189 * t + 0 ≤ 7293000 by omega⟩) ?_
  refine lv_dstore (lv' := (5, .double r) :: lvL a bq t) hx hb dL_law_440 hl (by decide) rfl (fun ls hl => ?_)
  refine lv_aload_n hx hb dL_law_442 rfl (lv_at hl 3 rfl) ?_
  refine lv_aload_n hx hb dL_law_443 rfl (lv_at hl 1 rfl) ?_
  refine lv_iload hx hb dL_law_444 (lv_at hl 5 rfl) ?_
  refine lv_iconst (v := nI 1) hx hb dL_law_446 (by decide) ?_
  refine x_iadd (v := nI (6 * t + 1 + 1)) hx hb dL_law_447 (nI_add _ _) ?_
  refine x_sld (j := 6 * t + 1 + 1) hx hb hX hbl hbA hS (by omega) (by omega) dL_law_448 ?_
  refine x_callW (va_runV (As := [.int (xs (6 * t + 1 + 1))]) (rest := []) ⟨hx, hb, hml, hown, hT⟩ (c_M_threshold l D κ a H hM (xs (6 * t + 1 + 1)) r q0 q1) (cwV 1 hT (TT_V kL69 kiM_threshold ksM_threshold knM kcM_threshold) rfl rfl rfl (by decide +kernel) ⟨Nat.le_of_ble_eq_true rfl, Nat.le_of_ble_eq_true rfl⟩) (pcV hE.1 hS hAb (RMo.recv hK hM)) rfl rfl hl.1 rfl (lv_room (Nat.le_of_ble_eq_true rfl)) dL_law_449 ⟨show 15 + 4 * t + 0 ≤ 601024 by omega, show 7473 + 189 * t + 0 ≤ 7293000 by omega⟩) hS (fun q h => RMo.ownB hM q h) (fun v H1 h => FrM.out hM (h.2.2)) (fun v H locs hpost hS => ?_)
  obtain ⟨rfl, hM, hF⟩ := hpost
  obtain ⟨hR, hz, hO⟩ := after_M hR hSep hz hO hF
  refine W.eq (g2 := F0 m 452 ls [.double r]) rfl ?_
  refine lv_dstore (lv' := (7, .double r) :: (5, .double r) :: lvL a bq t) hx hb dL_law_452 hl (by decide) rfl (fun ls hl => ?_)
  refine lv_dload hx hb dL_law_454 (lv_at hl 1 rfl) ?_
  refine lv_dload hx hb dL_law_456 (lv_at hl 0 rfl) ?_
  refine lv_dcmp hx hb dL_law_458 ?_
  refine lv_if_eq (tgt := 480) hx hb dL_law_459 (by decide) (fun hc => ?_) (fun hc => ?_)
  · skip
    refine lv_goto (tgt := 742) hx hb dL_law_480 (by decide) ?_
    refine W.widen (k := 15 + 4 * (t + 1)) (n := 7473 + 189 * (t + 1)) (by omega) (by omega) ?_
    exact KK _ _ _ (LI_mk hR hM hTie hSep hz hO) hS (lv_sub hl [2, 3, 4, 5, 6] rfl)
  · skip
    refine lv_dload hx hb dL_law_462 (lv_at hl 1 rfl) ?_
    refine lv_dload hx hb dL_law_464 (lv_at hl 1 rfl) ?_
    refine lv_dcmp hx hb dL_law_466 ?_
    refine lv_if_eq (tgt := 478) hx hb dL_law_467 (by decide) (fun h9 => absurd h9 hc) (fun _ => ?_)
    refine lv_dload hx hb dL_law_470 (lv_at hl 0 rfl) ?_
    refine lv_dload hx hb dL_law_472 (lv_at hl 0 rfl) ?_
    refine lv_dcmp hx hb dL_law_474 ?_
    refine lv_if_ne (tgt := 480) hx hb dL_law_475 (by decide) (fun _ => ?_) (fun h9 => absurd h9 hc)
    refine lv_goto (tgt := 742) hx hb dL_law_480 (by decide) ?_
    refine W.widen (k := 15 + 4 * (t + 1)) (n := 7473 + 189 * (t + 1)) (by omega) (by omega) ?_
    exact KK _ _ _ (LI_mk hR hM hTie hSep hz hO) hS (lv_sub hl [2, 3, 4, 5, 6] rfl)
set_option maxHeartbeats 1000000 in
theorem law_9 (hC : LC p l s m meth c D κ a bq L xs) (ht : 6 * t + 7 ≤ L) (hI : LI D κ a H) (hS : va_S (fun q => a ≤ q) s.heap H locs) (hl : lv_has ls 9 (lvL a bq t)) (KK : GO p l e s m below meth c D κ a bq t Q) : WL p l e s m below meth c bq H locs (15 + 4 * t) (7473 + 189 * t) Q (F0 m 483 ls []) := by
  obtain ⟨⟨hx, hb, hml, hown, hT⟩, ⟨hX, hbl, hE, hsa, hL⟩, hlt⟩ := hC
  have hK := hE.1.1
  have hAb : ∀ q : Nat, (fun q : Nat => a ≤ q) q → a ≤ q := fun _ h => h
  have hbA : ¬ (fun q : Nat => a ≤ q) bq := fun h => by have h : a ≤ bq := h; omega
  obtain ⟨sd, nT, nS, th, bT, bS, td, fd, ta, tr, kd, sp, ca, cr, od, aw, rk, mk, ms, ma, mr, mt, ov, hR, hM, hTie, hSep, hz, hO⟩ := hI
  have hn : nT ≤ 26 := hM.2.1.1
  have hs : nS ≤ 40 := hM.2.1.2.1
  have hok := hM.2.2.1
  refine lv_aload_n hx hb dL_law_483 rfl (lv_at hl 1 rfl) ?_
  refine lv_aload_n hx hb dL_law_484 rfl (lv_at hl 0 rfl) ?_
  refine lv_iload hx hb dL_law_485 (lv_at hl 4 rfl) ?_
  refine lv_iconst (v := nI 1) hx hb dL_law_487 (by decide) ?_
  refine x_iadd (v := nI (6 * t + 1 + 1)) hx hb dL_law_488 (nI_add _ _) ?_
  refine x_sld (j := 6 * t + 1 + 1) hx hb hX hbl hbA hS (by omega) (by omega) dL_law_489 ?_
  refine lv_aload_n hx hb dL_law_490 rfl (lv_at hl 0 rfl) ?_
  refine lv_iload hx hb dL_law_491 (lv_at hl 4 rfl) ?_
  refine lv_iconst (v := nI 2) hx hb dL_law_493 (by decide) ?_
  refine x_iadd (v := nI (6 * t + 1 + 2)) hx hb dL_law_494 (nI_add _ _) ?_
  refine x_sld (j := 6 * t + 1 + 2) hx hb hX hbl hbA hS (by omega) (by omega) dL_law_495 ?_
  refine lv_aload_n hx hb dL_law_496 rfl (lv_at hl 0 rfl) ?_
  refine lv_iload hx hb dL_law_497 (lv_at hl 4 rfl) ?_
  refine lv_iconst (v := nI 3) hx hb dL_law_499 (by decide) ?_
  refine x_iadd (v := nI (6 * t + 1 + 3)) hx hb dL_law_500 (nI_add _ _) ?_
  refine x_sld (j := 6 * t + 1 + 3) hx hb hX hbl hbA hS (by omega) (by omega) dL_law_501 ?_
  refine lv_if_eq (tgt := 509) hx hb dL_law_502 (by decide) (fun hc => ?_) (fun hc => ?_)
  · skip
    refine lv_iconst (v := nI 0) hx hb dL_law_509 (by decide) ?_
    obtain ⟨r, td2, fd2, mt2, ⟨h0, h1⟩, ⟨q0, q1⟩, hTie⟩ := ag_level hTie hn (xs (6 * t + 1 + 1)) (xs (6 * t + 1 + 2)) 0 (by decide)
    refine x_callW (va_runV (As := [.int (xs (6 * t + 1 + 1)), .int (xs (6 * t + 1 + 2)), .int (nI 0)]) (rest := []) ⟨hx, hb, hml, hown, hT⟩ (c_P_level l D κ a H hR (xs (6 * t + 1 + 1)) (xs (6 * t + 1 + 2)) 0 (by decide) r td2 fd2 h0 h1) (cwV 3 hT (TT_V kL70 kiP_level ksP_level knP kcP_level) rfl rfl rfl (by decide +kernel) ⟨Nat.le_of_ble_eq_true rfl, Nat.le_of_ble_eq_true rfl⟩) (pcV hE.1 hS hAb (RC.recv hK hR)) rfl rfl hl.1 rfl (lv_room (Nat.le_of_ble_eq_true rfl)) dL_law_510 ⟨show 15 + 4 * t + 0 ≤ 601024 by omega, show 7473 + 189 * t + 0 ≤ 7293000 by omega⟩) hS (fun q h => RC.ownB hR q h) (fun v H1 h => FrC.out hR (h.2.2)) (fun v H locs hpost hS => ?_)
    obtain ⟨rfl, hR, hF⟩ := hpost
    obtain ⟨hM, hz, hO⟩ := after_P hM hSep hz hO hF
    refine W.eq (g2 := F0 m 513 ls [.int (nI r)]) rfl ?_
    refine lv_aload_n hx hb dL_law_513 rfl (lv_at hl 2 rfl) ?_
    refine lv_aload_n hx hb dL_law_514 rfl (lv_at hl 0 rfl) ?_
    refine lv_iload hx hb dL_law_515 (lv_at hl 4 rfl) ?_
    refine lv_iconst (v := nI 1) hx hb dL_law_517 (by decide) ?_
    refine x_iadd (v := nI (6 * t + 1 + 1)) hx hb dL_law_518 (nI_add _ _) ?_
    refine x_sld (j := 6 * t + 1 + 1) hx hb hX hbl hbA hS (by omega) (by omega) dL_law_519 ?_
    refine lv_aload_n hx hb dL_law_520 rfl (lv_at hl 0 rfl) ?_
    refine lv_iload hx hb dL_law_521 (lv_at hl 4 rfl) ?_
    refine lv_iconst (v := nI 2) hx hb dL_law_523 (by decide) ?_
    refine x_iadd (v := nI (6 * t + 1 + 2)) hx hb dL_law_524 (nI_add _ _) ?_
    refine x_sld (j := 6 * t + 1 + 2) hx hb hX hbl hbA hS (by omega) (by omega) dL_law_525 ?_
    refine lv_aload_n hx hb dL_law_526 rfl (lv_at hl 0 rfl) ?_
    refine lv_iload hx hb dL_law_527 (lv_at hl 4 rfl) ?_
    refine lv_iconst (v := nI 3) hx hb dL_law_529 (by decide) ?_
    refine x_iadd (v := nI (6 * t + 1 + 3)) hx hb dL_law_530 (nI_add _ _) ?_
    refine x_sld (j := 6 * t + 1 + 3) hx hb hX hbl hbA hS (by omega) (by omega) dL_law_531 ?_
    refine lv_if_eq (tgt := 539) hx hb dL_law_532 (by decide) (fun _ => ?_) (fun h9 => absurd hc h9)
    refine lv_iconst (v := nI 0) hx hb dL_law_539 (by decide) ?_
    refine x_callW (va_runV (As := [.int (xs (6 * t + 1 + 1)), .int (xs (6 * t + 1 + 2)), .int (nI 0)]) (rest := [.int (nI r)]) ⟨hx, hb, hml, hown, hT⟩ (c_M_level l D κ a H hM (xs (6 * t + 1 + 1)) (xs (6 * t + 1 + 2)) 0 (by decide) r mt2 q0 q1) (cwV 3 hT (TT_V kL74 kiM_level ksM_level knM kcM_level) rfl rfl rfl (by decide +kernel) ⟨Nat.le_of_ble_eq_true rfl, Nat.le_of_ble_eq_true rfl⟩) (pcV hE.1 hS hAb (RMo.recv hK hM)) rfl rfl hl.1 rfl (lv_room (Nat.le_of_ble_eq_true rfl)) dL_law_540 ⟨show 15 + 4 * t + 0 ≤ 601024 by omega, show 7473 + 189 * t + 0 ≤ 7293000 by omega⟩) hS (fun q h => RMo.ownB hM q h) (fun v H1 h => FrM.out hM (h.2.2)) (fun v H locs hpost hS => ?_)
    obtain ⟨rfl, hM, hF⟩ := hpost
    obtain ⟨hR, hz, hO⟩ := after_M hR hSep hz hO hF
    refine W.eq (g2 := F0 m 543 ls [.int (nI r), .int (nI r)]) rfl ?_
    refine lv_icmp_eq (tgt := 742) hx hb dL_law_543 (by decide) (fun _ => ?_) (fun h9 => absurd rfl h9)
    refine W.widen (k := 15 + 4 * (t + 1)) (n := 7473 + 189 * (t + 1)) (by omega) (by omega) ?_
    exact KK _ _ _ (LI_mk hR hM hTie hSep hz hO) hS hl
  · skip
    refine lv_iconst (v := nI 1) hx hb dL_law_505 (by decide) ?_
    refine lv_goto (tgt := 510) hx hb dL_law_506 (by decide) ?_
    obtain ⟨r, td2, fd2, mt2, ⟨h0, h1⟩, ⟨q0, q1⟩, hTie⟩ := ag_level hTie hn (xs (6 * t + 1 + 1)) (xs (6 * t + 1 + 2)) 1 (by decide)
    refine x_callW (va_runV (As := [.int (xs (6 * t + 1 + 1)), .int (xs (6 * t + 1 + 2)), .int (nI 1)]) (rest := []) ⟨hx, hb, hml, hown, hT⟩ (c_P_level l D κ a H hR (xs (6 * t + 1 + 1)) (xs (6 * t + 1 + 2)) 1 (by decide) r td2 fd2 h0 h1) (cwV 3 hT (TT_V kL70 kiP_level ksP_level knP kcP_level) rfl rfl rfl (by decide +kernel) ⟨Nat.le_of_ble_eq_true rfl, Nat.le_of_ble_eq_true rfl⟩) (pcV hE.1 hS hAb (RC.recv hK hR)) rfl rfl hl.1 rfl (lv_room (Nat.le_of_ble_eq_true rfl)) dL_law_510 ⟨show 15 + 4 * t + 0 ≤ 601024 by omega, show 7473 + 189 * t + 0 ≤ 7293000 by omega⟩) hS (fun q h => RC.ownB hR q h) (fun v H1 h => FrC.out hR (h.2.2)) (fun v H locs hpost hS => ?_)
    obtain ⟨rfl, hR, hF⟩ := hpost
    obtain ⟨hM, hz, hO⟩ := after_P hM hSep hz hO hF
    refine W.eq (g2 := F0 m 513 ls [.int (nI r)]) rfl ?_
    refine lv_aload_n hx hb dL_law_513 rfl (lv_at hl 2 rfl) ?_
    refine lv_aload_n hx hb dL_law_514 rfl (lv_at hl 0 rfl) ?_
    refine lv_iload hx hb dL_law_515 (lv_at hl 4 rfl) ?_
    refine lv_iconst (v := nI 1) hx hb dL_law_517 (by decide) ?_
    refine x_iadd (v := nI (6 * t + 1 + 1)) hx hb dL_law_518 (nI_add _ _) ?_
    refine x_sld (j := 6 * t + 1 + 1) hx hb hX hbl hbA hS (by omega) (by omega) dL_law_519 ?_
    refine lv_aload_n hx hb dL_law_520 rfl (lv_at hl 0 rfl) ?_
    refine lv_iload hx hb dL_law_521 (lv_at hl 4 rfl) ?_
    refine lv_iconst (v := nI 2) hx hb dL_law_523 (by decide) ?_
    refine x_iadd (v := nI (6 * t + 1 + 2)) hx hb dL_law_524 (nI_add _ _) ?_
    refine x_sld (j := 6 * t + 1 + 2) hx hb hX hbl hbA hS (by omega) (by omega) dL_law_525 ?_
    refine lv_aload_n hx hb dL_law_526 rfl (lv_at hl 0 rfl) ?_
    refine lv_iload hx hb dL_law_527 (lv_at hl 4 rfl) ?_
    refine lv_iconst (v := nI 3) hx hb dL_law_529 (by decide) ?_
    refine x_iadd (v := nI (6 * t + 1 + 3)) hx hb dL_law_530 (nI_add _ _) ?_
    refine x_sld (j := 6 * t + 1 + 3) hx hb hX hbl hbA hS (by omega) (by omega) dL_law_531 ?_
    refine lv_if_eq (tgt := 539) hx hb dL_law_532 (by decide) (fun h9 => absurd h9 hc) (fun _ => ?_)
    refine lv_iconst (v := nI 1) hx hb dL_law_535 (by decide) ?_
    refine lv_goto (tgt := 540) hx hb dL_law_536 (by decide) ?_
    refine x_callW (va_runV (As := [.int (xs (6 * t + 1 + 1)), .int (xs (6 * t + 1 + 2)), .int (nI 1)]) (rest := [.int (nI r)]) ⟨hx, hb, hml, hown, hT⟩ (c_M_level l D κ a H hM (xs (6 * t + 1 + 1)) (xs (6 * t + 1 + 2)) 1 (by decide) r mt2 q0 q1) (cwV 3 hT (TT_V kL74 kiM_level ksM_level knM kcM_level) rfl rfl rfl (by decide +kernel) ⟨Nat.le_of_ble_eq_true rfl, Nat.le_of_ble_eq_true rfl⟩) (pcV hE.1 hS hAb (RMo.recv hK hM)) rfl rfl hl.1 rfl (lv_room (Nat.le_of_ble_eq_true rfl)) dL_law_540 ⟨show 15 + 4 * t + 0 ≤ 601024 by omega, show 7473 + 189 * t + 0 ≤ 7293000 by omega⟩) hS (fun q h => RMo.ownB hM q h) (fun v H1 h => FrM.out hM (h.2.2)) (fun v H locs hpost hS => ?_)
    obtain ⟨rfl, hM, hF⟩ := hpost
    obtain ⟨hR, hz, hO⟩ := after_M hR hSep hz hO hF
    refine W.eq (g2 := F0 m 543 ls [.int (nI r), .int (nI r)]) rfl ?_
    refine lv_icmp_eq (tgt := 742) hx hb dL_law_543 (by decide) (fun _ => ?_) (fun h9 => absurd rfl h9)
    refine W.widen (k := 15 + 4 * (t + 1)) (n := 7473 + 189 * (t + 1)) (by omega) (by omega) ?_
    exact KK _ _ _ (LI_mk hR hM hTie hSep hz hO) hS hl
set_option maxHeartbeats 1000000 in
theorem law_11 (hC : LC p l s m meth c D κ a bq L xs) (ht : 6 * t + 7 ≤ L) (hI : LI D κ a H) (hS : va_S (fun q => a ≤ q) s.heap H locs) (hl : lv_has ls 9 (lvL a bq t)) (KK : GO p l e s m below meth c D κ a bq t Q) : WL p l e s m below meth c bq H locs (15 + 4 * t) (7473 + 189 * t) Q (F0 m 573 ls []) := by
  obtain ⟨⟨hx, hb, hml, hown, hT⟩, ⟨hX, hbl, hE, hsa, hL⟩, hlt⟩ := hC
  have hK := hE.1.1
  have hAb : ∀ q : Nat, (fun q : Nat => a ≤ q) q → a ≤ q := fun _ h => h
  have hbA : ¬ (fun q : Nat => a ≤ q) bq := fun h => by have h : a ≤ bq := h; omega
  obtain ⟨sd, nT, nS, th, bT, bS, td, fd, ta, tr, kd, sp, ca, cr, od, aw, rk, mk, ms, ma, mr, mt, ov, hR, hM, hTie, hSep, hz, hO⟩ := hI
  have hn : nT ≤ 26 := hM.2.1.1
  have hs : nS ≤ 40 := hM.2.1.2.1
  have hok := hM.2.2.1
  obtain ⟨r, h0, h1⟩ := ag_size (xs (6 * t + 1 + 1)) (((xs (6 * t + 1 + 2))).toInt64 <<< ((nI 32).toInt64 &&& 63) ||| ((xs (6 * t + 1 + 3))).toInt64 &&& 4294967295) (((xs (6 * t + 1 + 4))).toInt64 <<< ((nI 32).toInt64 &&& 63) ||| ((xs (6 * t + 1 + 5))).toInt64 &&& 4294967295)
  refine lv_aload_n hx hb dL_law_573 rfl (lv_at hl 1 rfl) ?_
  refine lv_aload_n hx hb dL_law_574 rfl (lv_at hl 0 rfl) ?_
  refine lv_iload hx hb dL_law_575 (lv_at hl 4 rfl) ?_
  refine lv_iconst (v := nI 1) hx hb dL_law_577 (by decide) ?_
  refine x_iadd (v := nI (6 * t + 1 + 1)) hx hb dL_law_578 (nI_add _ _) ?_
  refine x_sld (j := 6 * t + 1 + 1) hx hb hX hbl hbA hS (by omega) (by omega) dL_law_579 ?_
  refine lv_aload_n hx hb dL_law_580 rfl (lv_at hl 0 rfl) ?_
  refine lv_iload hx hb dL_law_581 (lv_at hl 4 rfl) ?_
  refine lv_iconst (v := nI 2) hx hb dL_law_583 (by decide) ?_
  refine x_iadd (v := nI (6 * t + 1 + 2)) hx hb dL_law_584 (nI_add _ _) ?_
  refine x_sld (j := 6 * t + 1 + 2) hx hb hX hbl hbA hS (by omega) (by omega) dL_law_585 ?_
  refine lv_i2l (v := ((xs (6 * t + 1 + 2))).toInt64) hx hb dL_law_586 rfl ?_
  refine lv_bipush (v := nI 32) hx hb dL_law_587 (by decide) ?_
  refine lv_lshl (v := ((((xs (6 * t + 1 + 2))).toInt64)) <<< (((nI 32)).toInt64 &&& 63)) hx hb dL_law_589 rfl ?_
  refine lv_aload_n hx hb dL_law_590 rfl (lv_at hl 0 rfl) ?_
  refine lv_iload hx hb dL_law_591 (lv_at hl 4 rfl) ?_
  refine lv_iconst (v := nI 3) hx hb dL_law_593 (by decide) ?_
  refine x_iadd (v := nI (6 * t + 1 + 3)) hx hb dL_law_594 (nI_add _ _) ?_
  refine x_sld (j := 6 * t + 1 + 3) hx hb hX hbl hbA hS (by omega) (by omega) dL_law_595 ?_
  refine lv_i2l (v := ((xs (6 * t + 1 + 3))).toInt64) hx hb dL_law_596 rfl ?_
  refine lv_ldc2 (v := 4294967295) hx hb hown (hT _ kL80) dL_law_597 ?_
  refine lv_land hx hb dL_law_600 ?_
  refine lv_lor hx hb dL_law_601 ?_
  refine lv_aload_n hx hb dL_law_602 rfl (lv_at hl 0 rfl) ?_
  refine lv_iload hx hb dL_law_603 (lv_at hl 4 rfl) ?_
  refine lv_iconst (v := nI 4) hx hb dL_law_605 (by decide) ?_
  refine x_iadd (v := nI (6 * t + 1 + 4)) hx hb dL_law_606 (nI_add _ _) ?_
  refine x_sld (j := 6 * t + 1 + 4) hx hb hX hbl hbA hS (by omega) (by omega) dL_law_607 ?_
  refine lv_i2l (v := ((xs (6 * t + 1 + 4))).toInt64) hx hb dL_law_608 rfl ?_
  refine lv_bipush (v := nI 32) hx hb dL_law_609 (by decide) ?_
  refine lv_lshl (v := ((((xs (6 * t + 1 + 4))).toInt64)) <<< (((nI 32)).toInt64 &&& 63)) hx hb dL_law_611 rfl ?_
  refine lv_aload_n hx hb dL_law_612 rfl (lv_at hl 0 rfl) ?_
  refine lv_iload hx hb dL_law_613 (lv_at hl 4 rfl) ?_
  refine lv_iconst (v := nI 5) hx hb dL_law_615 (by decide) ?_
  refine x_iadd (v := nI (6 * t + 1 + 5)) hx hb dL_law_616 (nI_add _ _) ?_
  refine x_sld (j := 6 * t + 1 + 5) hx hb hX hbl hbA hS (by omega) (by omega) dL_law_617 ?_
  refine lv_i2l (v := ((xs (6 * t + 1 + 5))).toInt64) hx hb dL_law_618 rfl ?_
  refine lv_ldc2 (v := 4294967295) hx hb hown (hT _ kL80) dL_law_619 ?_
  refine lv_land hx hb dL_law_622 ?_
  refine lv_lor hx hb dL_law_623 ?_
  refine x_callP (v := .int r) (va_runV (As := [.int (xs (6 * t + 1 + 1)), .long (((((((xs (6 * t + 1 + 2))).toInt64)) <<< (((nI 32)).toInt64 &&& 63))) ||| ((((((xs (6 * t + 1 + 3))).toInt64)) &&& (4294967295)))), .long (((((((xs (6 * t + 1 + 4))).toInt64)) <<< (((nI 32)).toInt64 &&& 63))) ||| ((((((xs (6 * t + 1 + 5))).toInt64)) &&& (4294967295))))]) (rest := []) ⟨hx, hb, hml, hown, hT⟩ (c_P_size l D κ a H a (xs (6 * t + 1 + 1)) (((xs (6 * t + 1 + 2))).toInt64 <<< ((nI 32).toInt64 &&& 63) ||| ((xs (6 * t + 1 + 3))).toInt64 &&& 4294967295) (((xs (6 * t + 1 + 4))).toInt64 <<< ((nI 32).toInt64 &&& 63) ||| ((xs (6 * t + 1 + 5))).toInt64 &&& 4294967295) r h0 h1) (cwV 3 hT (TT_V kL82 kiP_size ksP_size knP kcP_size) rfl rfl rfl (by decide +kernel) ⟨Nat.le_of_ble_eq_true rfl, Nat.le_of_ble_eq_true rfl⟩) (pcV hE.1 hS hAb (RC.recv hK hR)) rfl rfl hl.1 rfl (lv_room (Nat.le_of_ble_eq_true rfl)) dL_law_624 ⟨show 15 + 4 * t + 0 ≤ 601024 by omega, show 7473 + 189 * t + 0 ≤ 7293000 by omega⟩) ?_
  refine lv_aload_n hx hb dL_law_627 rfl (lv_at hl 2 rfl) ?_
  refine lv_aload_n hx hb dL_law_628 rfl (lv_at hl 0 rfl) ?_
  refine lv_iload hx hb dL_law_629 (lv_at hl 4 rfl) ?_
  refine lv_iconst (v := nI 1) hx hb dL_law_631 (by decide) ?_
  refine x_iadd (v := nI (6 * t + 1 + 1)) hx hb dL_law_632 (nI_add _ _) ?_
  refine x_sld (j := 6 * t + 1 + 1) hx hb hX hbl hbA hS (by omega) (by omega) dL_law_633 ?_
  refine lv_aload_n hx hb dL_law_634 rfl (lv_at hl 0 rfl) ?_
  refine lv_iload hx hb dL_law_635 (lv_at hl 4 rfl) ?_
  refine lv_iconst (v := nI 2) hx hb dL_law_637 (by decide) ?_
  refine x_iadd (v := nI (6 * t + 1 + 2)) hx hb dL_law_638 (nI_add _ _) ?_
  refine x_sld (j := 6 * t + 1 + 2) hx hb hX hbl hbA hS (by omega) (by omega) dL_law_639 ?_
  refine lv_i2l (v := ((xs (6 * t + 1 + 2))).toInt64) hx hb dL_law_640 rfl ?_
  refine lv_bipush (v := nI 32) hx hb dL_law_641 (by decide) ?_
  refine lv_lshl (v := ((((xs (6 * t + 1 + 2))).toInt64)) <<< (((nI 32)).toInt64 &&& 63)) hx hb dL_law_643 rfl ?_
  refine lv_aload_n hx hb dL_law_644 rfl (lv_at hl 0 rfl) ?_
  refine lv_iload hx hb dL_law_645 (lv_at hl 4 rfl) ?_
  refine lv_iconst (v := nI 3) hx hb dL_law_647 (by decide) ?_
  refine x_iadd (v := nI (6 * t + 1 + 3)) hx hb dL_law_648 (nI_add _ _) ?_
  refine x_sld (j := 6 * t + 1 + 3) hx hb hX hbl hbA hS (by omega) (by omega) dL_law_649 ?_
  refine lv_i2l (v := ((xs (6 * t + 1 + 3))).toInt64) hx hb dL_law_650 rfl ?_
  refine lv_ldc2 (v := 4294967295) hx hb hown (hT _ kL80) dL_law_651 ?_
  refine lv_land hx hb dL_law_654 ?_
  refine lv_lor hx hb dL_law_655 ?_
  refine lv_aload_n hx hb dL_law_656 rfl (lv_at hl 0 rfl) ?_
  refine lv_iload hx hb dL_law_657 (lv_at hl 4 rfl) ?_
  refine lv_iconst (v := nI 4) hx hb dL_law_659 (by decide) ?_
  refine x_iadd (v := nI (6 * t + 1 + 4)) hx hb dL_law_660 (nI_add _ _) ?_
  refine x_sld (j := 6 * t + 1 + 4) hx hb hX hbl hbA hS (by omega) (by omega) dL_law_661 ?_
  refine lv_i2l (v := ((xs (6 * t + 1 + 4))).toInt64) hx hb dL_law_662 rfl ?_
  refine lv_bipush (v := nI 32) hx hb dL_law_663 (by decide) ?_
  refine lv_lshl (v := ((((xs (6 * t + 1 + 4))).toInt64)) <<< (((nI 32)).toInt64 &&& 63)) hx hb dL_law_665 rfl ?_
  refine lv_aload_n hx hb dL_law_666 rfl (lv_at hl 0 rfl) ?_
  refine lv_iload hx hb dL_law_667 (lv_at hl 4 rfl) ?_
  refine lv_iconst (v := nI 5) hx hb dL_law_669 (by decide) ?_
  refine x_iadd (v := nI (6 * t + 1 + 5)) hx hb dL_law_670 (nI_add _ _) ?_
  refine x_sld (j := 6 * t + 1 + 5) hx hb hX hbl hbA hS (by omega) (by omega) dL_law_671 ?_
  refine lv_i2l (v := ((xs (6 * t + 1 + 5))).toInt64) hx hb dL_law_672 rfl ?_
  refine lv_ldc2 (v := 4294967295) hx hb hown (hT _ kL80) dL_law_673 ?_
  refine lv_land hx hb dL_law_676 ?_
  refine lv_lor hx hb dL_law_677 ?_
  refine x_callW (va_runV (As := [.int (xs (6 * t + 1 + 1)), .long (((((((xs (6 * t + 1 + 2))).toInt64)) <<< (((nI 32)).toInt64 &&& 63))) ||| ((((((xs (6 * t + 1 + 3))).toInt64)) &&& (4294967295)))), .long (((((((xs (6 * t + 1 + 4))).toInt64)) <<< (((nI 32)).toInt64 &&& 63))) ||| ((((((xs (6 * t + 1 + 5))).toInt64)) &&& (4294967295))))]) (rest := [.int r]) ⟨hx, hb, hml, hown, hT⟩ (c_M_size l D κ a H hM (xs (6 * t + 1 + 1)) (((xs (6 * t + 1 + 2))).toInt64 <<< ((nI 32).toInt64 &&& 63) ||| ((xs (6 * t + 1 + 3))).toInt64 &&& 4294967295) (((xs (6 * t + 1 + 4))).toInt64 <<< ((nI 32).toInt64 &&& 63) ||| ((xs (6 * t + 1 + 5))).toInt64 &&& 4294967295) r h0 h1) (cwV 3 hT (TT_V kL86 kiM_size ksM_size knM kcM_size) rfl rfl rfl (by decide +kernel) ⟨Nat.le_of_ble_eq_true rfl, Nat.le_of_ble_eq_true rfl⟩) (pcV hE.1 hS hAb (RMo.recv hK hM)) rfl rfl hl.1 rfl (lv_room (Nat.le_of_ble_eq_true rfl)) dL_law_678 ⟨show 15 + 4 * t + 0 ≤ 601024 by omega, show 7473 + 189 * t + 0 ≤ 7293000 by omega⟩) hS (fun q h => RMo.ownB hM q h) (fun v H1 h => FrM.out hM (h.2.2)) (fun v H locs hpost hS => ?_)
  obtain ⟨rfl, hM, hF⟩ := hpost
  obtain ⟨hR, hz, hO⟩ := after_M hR hSep hz hO hF
  refine W.eq (g2 := F0 m 681 ls [.int r, .int r]) rfl ?_
  refine lv_icmp_eq (tgt := 742) hx hb dL_law_681 (by decide) (fun _ => ?_) (fun h9 => absurd rfl h9)
  refine W.widen (k := 15 + 4 * (t + 1)) (n := 7473 + 189 * (t + 1)) (by omega) (by omega) ?_
  exact KK _ _ _ (LI_mk hR hM hTie hSep hz hO) hS hl
set_option maxHeartbeats 1000000 in
theorem law_12 (hC : LC p l s m meth c D κ a bq L xs) (ht : 6 * t + 7 ≤ L) (hI : LI D κ a H) (hS : va_S (fun q => a ≤ q) s.heap H locs) (hl : lv_has ls 9 (lvL a bq t)) (KK : GO p l e s m below meth c D κ a bq t Q) : WL p l e s m below meth c bq H locs (15 + 4 * t) (7473 + 189 * t) Q (F0 m 686 ls []) := by
  obtain ⟨⟨hx, hb, hml, hown, hT⟩, ⟨hX, hbl, hE, hsa, hL⟩, hlt⟩ := hC
  have hK := hE.1.1
  have hAb : ∀ q : Nat, (fun q : Nat => a ≤ q) q → a ≤ q := fun _ h => h
  have hbA : ¬ (fun q : Nat => a ≤ q) bq := fun h => by have h : a ≤ bq := h; omega
  obtain ⟨sd, nT, nS, th, bT, bS, td, fd, ta, tr, kd, sp, ca, cr, od, aw, rk, mk, ms, ma, mr, mt, ov, hR, hM, hTie, hSep, hz, hO⟩ := hI
  have hn : nT ≤ 26 := hM.2.1.1
  have hs : nS ≤ 40 := hM.2.1.2.1
  have hok := hM.2.2.1
  refine lv_aload_n hx hb dL_law_686 rfl (lv_at hl 1 rfl) ?_
  refine lv_aload_n hx hb dL_law_687 rfl (lv_at hl 0 rfl) ?_
  refine lv_iload hx hb dL_law_688 (lv_at hl 4 rfl) ?_
  refine lv_iconst (v := nI 1) hx hb dL_law_690 (by decide) ?_
  refine x_iadd (v := nI (6 * t + 1 + 1)) hx hb dL_law_691 (nI_add _ _) ?_
  refine x_sld (j := 6 * t + 1 + 1) hx hb hX hbl hbA hS (by omega) (by omega) dL_law_692 ?_
  refine lv_aload_n hx hb dL_law_693 rfl (lv_at hl 3 rfl) ?_
  obtain ⟨⟨fT9, fS9, mx9, sw9, hP9, -⟩, -⟩ := id hR
  have hPr := (hP9.sub (ws' := [(a, .inr (2, [.long sd, .ref (a + 1), .ref (a + 2), .int (nI nT), .int (nI nS), .ref (a + 3), .ref (a + 4)]))]) [0] rfl).app hO
  have hws : ∀ w ∈ wL_row, ∀ (a' : Array Value) (U : State), s.WarmedH U.vm → w.before a' U = true := fun w hw a' U hW => word_at hW (TT_code kwL_row w hw).2 (hT w (TT_code kwL_row w hw).1)
  refine x_callW (run_SW (As := [.ref a, .int (xs (6 * t + 1 + 1)), .ref (a + 14)]) (rest := []) (hh := [(0, 9, 12, 13)]) hx hb hml hown (c_L_row l hlt D κ a H (xs (6 * t + 1 + 1)) hPr (by omega) (by omega)) rfl rfl (Nat.le_of_ble_eq_true rfl) (Nat.le_of_ble_eq_true rfl) hws (List.mem_cons_self) (fun a' U hW => word_at hW (TT_good knL) (hT _ knL)) (hT _ kL87) (hT _ ktL_row) ⟨by decide, by decide⟩ (fun sig h => by cases h; rfl) (pcXS hE hS hAb) rfl hl.1 rfl (lv_room (Nat.le_of_ble_eq_true rfl)) dL_law_694 ⟨show 15 + 4 * t + 1 ≤ 601024 by omega, show 7473 + 189 * t + 6 ≤ 7293000 by omega⟩) hS (fun q h => le14s hz h) (fun v H1 h => ⟨h.2.2.1, fun q h1 h2 => h.2.2.2 q h1 (fun h3 => h2 (le14 h3))⟩) (fun v H2 locs hpost hS => ?_)
  obtain ⟨hbad, hgood, hsz2, hkp⟩ := hpost
  have hR := RC.keep (H1 := H2) hR hSep hsz2 (fun q h1 h2 => hkp q h1 (by omega))
  have hM := RMo.keep (H1 := H2) hM hsz2 (fun q h1 h2 => hkp q (by omega) (by omega))
  rcases row_cases (xs (6 * t + 1 + 1)) with hb9 | ⟨k, hk1, hk2, ek⟩
  · obtain ⟨rfl, hk9⟩ := hbad hb9
    have hz2 : a + 15 ≤ H2.size := Nat.le_trans hz hsz2
    have hO2 := out_kept (H1 := H2) hO (hk9 (a + 14) (by omega))
    refine W.eq (g2 := F0 m 697 ls [.int (nI 1)]) rfl ?_
    refine lv_istore (lv' := (5, .int (nI 1)) :: lvL a bq t) hx hb dL_law_697 hl (by decide) rfl (fun ls hl => ?_)
    refine lv_aload_n hx hb dL_law_699 rfl (lv_at hl 3 rfl) ?_
    refine lv_aload_n hx hb dL_law_700 rfl (lv_at hl 1 rfl) ?_
    refine lv_iload hx hb dL_law_701 (lv_at hl 5 rfl) ?_
    refine lv_iconst (v := nI 1) hx hb dL_law_703 (by decide) ?_
    refine x_iadd (v := nI (6 * t + 1 + 1)) hx hb dL_law_704 (nI_add _ _) ?_
    refine x_sld (j := 6 * t + 1 + 1) hx hb hX hbl hbA hS (by omega) (by omega) dL_law_705 ?_
    refine x_callW (va_runV (As := [.int (xs (6 * t + 1 + 1))]) (rest := []) ⟨hx, hb, hml, hown, hT⟩ (c_M_row l D κ a H2 hM (xs (6 * t + 1 + 1))) (cwV 1 hT (TT_V kL90 kiM_row ksM_row knM kcM_row) rfl rfl rfl (by decide +kernel) ⟨Nat.le_of_ble_eq_true rfl, Nat.le_of_ble_eq_true rfl⟩) (pcV hE.1 hS hAb (RMo.recv hK hM)) rfl rfl hl.1 rfl (lv_room (Nat.le_of_ble_eq_true rfl)) dL_law_706 ⟨show 15 + 4 * t + 1 + 0 ≤ 601024 by omega, show 7473 + 189 * t + 6 + 0 ≤ 7293000 by omega⟩) hS (fun q h => RMo.ownB hM q h) (fun v H1 h => FrM.out hM (h.2.2)) (fun v H locs hpost hS => ?_)
    obtain ⟨hm1, hm2, hF⟩ := hpost
    obtain ⟨rfl, hM⟩ := hm1 hb9
    obtain ⟨hR, hz, hO⟩ := after_M hR hSep hz2 hO2 hF
    refine W.eq (g2 := F0 m 709 ls [.int (nI 0)]) rfl ?_
    refine lv_istore (lv' := (6, .int (nI 0)) :: (5, .int (nI 1)) :: lvL a bq t) hx hb dL_law_709 hl (by decide) rfl (fun ls hl => ?_)
    obtain ⟨⟨F8, wy8, nx8, hP8⟩, -⟩ := id hM
    refine lv_aload_n hx hb dL_law_711 rfl (lv_at hl 4 rfl) ?_
    refine x_callP (v := .int (nI 1)) (va_runV (As := []) (rest := []) ⟨hx, hb, hml, hown, hT⟩ (c_M_thrown l D κ a H (hP8.sub [0] rfl)) (cwV 0 hT (TT_V kL91 kiM_thrown ksM_thrown knM kcM_thrown) rfl rfl rfl (by decide +kernel) ⟨Nat.le_of_ble_eq_true rfl, Nat.le_of_ble_eq_true rfl⟩) (pcV hE.1 hS hAb (RMo.recv hK hM)) rfl rfl hl.1 rfl (lv_room (Nat.le_of_ble_eq_true rfl)) dL_law_712 ⟨show 15 + 4 * t + 1 + 0 ≤ 601024 by omega, show 7473 + 189 * t + 6 + 0 ≤ 7293000 by omega⟩) ?_
    refine lv_iload hx hb dL_law_715 (lv_at hl 1 rfl) ?_
    refine lv_icmp_eq (tgt := 722) hx hb dL_law_717 (by decide) (fun _ => ?_) (fun h9 => absurd rfl h9)
    refine lv_iload hx hb dL_law_722 (lv_at hl 1 rfl) ?_
    refine x_zne (a := 1) (tgt := 739) hx hb dL_law_724 (by decide) (by decide) (fun _ => ?_) (fun h9 => absurd h9 (by decide))
    refine lv_goto (tgt := 742) hx hb dL_law_739 (by decide) ?_
    refine W.widen (k := 15 + 4 * (t + 1)) (n := 7473 + 189 * (t + 1)) (by omega) (by omega) ?_
    exact KK _ _ _ (LI_mk hR hM hTie hSep hz hO) hS (lv_sub hl [2, 3, 4, 5, 6] rfl)
  · obtain ⟨rfl, ov2, eo, hO2⟩ := hgood k hk1 hk2 ek
    have hz2 : a + 15 ≤ H2.size := Nat.le_trans hz hsz2
    refine W.eq (g2 := F0 m 697 ls [.int (nI 0)]) rfl ?_
    refine lv_istore (lv' := (5, .int (nI 0)) :: lvL a bq t) hx hb dL_law_697 hl (by decide) rfl (fun ls hl => ?_)
    refine lv_aload_n hx hb dL_law_699 rfl (lv_at hl 3 rfl) ?_
    refine lv_aload_n hx hb dL_law_700 rfl (lv_at hl 1 rfl) ?_
    refine lv_iload hx hb dL_law_701 (lv_at hl 5 rfl) ?_
    refine lv_iconst (v := nI 1) hx hb dL_law_703 (by decide) ?_
    refine x_iadd (v := nI (6 * t + 1 + 1)) hx hb dL_law_704 (nI_add _ _) ?_
    refine x_sld (j := 6 * t + 1 + 1) hx hb hX hbl hbA hS (by omega) (by omega) dL_law_705 ?_
    refine x_callW (va_runV (As := [.int (xs (6 * t + 1 + 1))]) (rest := []) ⟨hx, hb, hml, hown, hT⟩ (c_M_row l D κ a H2 hM (xs (6 * t + 1 + 1))) (cwV 1 hT (TT_V kL90 kiM_row ksM_row knM kcM_row) rfl rfl rfl (by decide +kernel) ⟨Nat.le_of_ble_eq_true rfl, Nat.le_of_ble_eq_true rfl⟩) (pcV hE.1 hS hAb (RMo.recv hK hM)) rfl rfl hl.1 rfl (lv_room (Nat.le_of_ble_eq_true rfl)) dL_law_706 ⟨show 15 + 4 * t + 1 + 0 ≤ 601024 by omega, show 7473 + 189 * t + 6 + 0 ≤ 7293000 by omega⟩) hS (fun q h => RMo.ownB hM q h) (fun v H1 h => FrM.out hM (h.2.2)) (fun v H locs hpost hS => ?_)
    obtain ⟨hm1, hm2, hF⟩ := hpost
    obtain ⟨rfl, hM⟩ := hm2 k hk1 hk2 ek
    obtain ⟨hR, hz, hO⟩ := after_M hR hSep hz2 hO2 hF
    refine W.eq (g2 := F0 m 709 ls [.int (nI (rwM k (k + 1) 0))]) rfl ?_
    refine lv_istore (lv' := (6, .int (nI (rwM k (k + 1) 0))) :: (5, .int (nI 0)) :: lvL a bq t) hx hb dL_law_709 hl (by decide) rfl (fun ls hl => ?_)
    obtain ⟨⟨F8, wy8, nx8, hP8⟩, -⟩ := id hM
    refine lv_aload_n hx hb dL_law_711 rfl (lv_at hl 4 rfl) ?_
    refine x_callP (v := .int (nI 0)) (va_runV (As := []) (rest := []) ⟨hx, hb, hml, hown, hT⟩ (c_M_thrown l D κ a H (hP8.sub [0] rfl)) (cwV 0 hT (TT_V kL91 kiM_thrown ksM_thrown knM kcM_thrown) rfl rfl rfl (by decide +kernel) ⟨Nat.le_of_ble_eq_true rfl, Nat.le_of_ble_eq_true rfl⟩) (pcV hE.1 hS hAb (RMo.recv hK hM)) rfl rfl hl.1 rfl (lv_room (Nat.le_of_ble_eq_true rfl)) dL_law_712 ⟨show 15 + 4 * t + 1 + 0 ≤ 601024 by omega, show 7473 + 189 * t + 6 + 0 ≤ 7293000 by omega⟩) ?_
    refine lv_iload hx hb dL_law_715 (lv_at hl 1 rfl) ?_
    refine lv_icmp_eq (tgt := 722) hx hb dL_law_717 (by decide) (fun _ => ?_) (fun h9 => absurd rfl h9)
    refine lv_iload hx hb dL_law_722 (lv_at hl 1 rfl) ?_
    refine x_zne (a := 0) (tgt := 739) hx hb dL_law_724 (by decide) (by decide) (fun h9 => absurd rfl h9) (fun _ => ?_)
    refine lv_aload_n hx hb dL_law_727 rfl (lv_at hl 5 rfl) ?_
    refine lv_iconst (v := nI 0) hx hb dL_law_728 (by decide) ?_
    refine x_lald (j := 0) hx hb hK hO 0 2 rfl rfl (by omega) (by decide) eo dL_law_729 ?_
    refine lv_iload hx hb dL_law_730 (lv_at hl 0 rfl) ?_
    refine lv_i2l (v := lN (rwF k (k + 1) 0)) hx hb dL_law_732 (by rw [← rw_eq k (k + 1) 0 rfl]; exact nI_l (by have := rwF_ub k (k + 1) 0 (by omega); omega)) ?_
    refine x_leq (tgt := 739) hx hb dL_law_733 dL_law_734 (by decide) (fun _ => ?_) (fun h9 => absurd rfl h9)
    refine lv_goto (tgt := 742) hx hb dL_law_739 (by decide) ?_
    refine W.widen (k := 15 + 4 * (t + 1)) (n := 7473 + 189 * (t + 1)) (by omega) (by omega) ?_
    exact KK _ _ _ (LI_mk hR hM hTie hSep hz hO) hS (lv_sub hl [2, 3, 4, 5, 6] rfl)
end LAW
