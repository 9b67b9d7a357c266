/-! the model: pure methods and reads -/
def facN : Nat → Nat
  | 0 => 1
  | k + 1 => facN k * (k + 1)
def frow (n pl : Nat) : Nat := facN (n - pl - 1)
theorem frow_ex {n pl mm : Nat} (h1 : 2 ≤ mm) (h2 : mm = 2 ∨ mm ≤ n - pl) (h3 : n - pl ≤ mm) (h4 : 1 ≤ n - pl) : facN (mm - 1) = frow n pl := by
  unfold frow
  rcases (show mm = n - pl ∨ (mm = 2 ∧ n - pl = 1) by omega) with e | ⟨e, e2⟩
  · rw [e]
  · rw [e, e2]
    rfl
theorem facN_ok : ∀ k, k < 6 → facN k = tFACT.getD k 0 := by decide
theorem facN_b : ∀ k, k < 6 → 0 < facN k ∧ facN k ≤ 120 := by decide
def itW : Nat → Int32 → Int32 → Int32 → Option Int32
  | 0, _, _, _ => none
  | f + 1, u, fd, sk => if sk < 0 then some fd else itW f u (fd + (1)) (sk - (if (u >>> ((fd + (1)) &&& 31)) &&& nI 1 = 0 then nI 1 else nI 0))
def itO (n : Nat) : Nat → Nat → Int32 → Nat → Int32 → Option Int32
  | 0, _, _, _, fd => some fd
  | f + 1, pl, u, lf, _ => (itW 16 u (-1) (nI (lf / frow n pl))).bind fun g => itO n f (pl + 1) (u ||| (nI 1 <<< (g &&& 31))) (lf % frow n pl) g
theorem it_ok2 : ∀ o, o < 2 → ∀ k, k < 2 → itO 2 (k + 1) 0 (nI 0) o (nI 0) = some (siI 2 (k + 1) 0 (nI 0) o (-1)) := by decide +kernel
theorem it_ok3 : ∀ o, o < 6 → ∀ k, k < 3 → itO 3 (k + 1) 0 (nI 0) o (nI 0) = some (siI 3 (k + 1) 0 (nI 0) o (-1)) := by decide +kernel
theorem it_ok4 : ∀ o, o < 24 → ∀ k, k < 4 → itO 4 (k + 1) 0 (nI 0) o (nI 0) = some (siI 4 (k + 1) 0 (nI 0) o (-1)) := by decide +kernel
theorem it_ok5 : ∀ o, o < 120 → ∀ k, k < 5 → itO 5 (k + 1) 0 (nI 0) o (nI 0) = some (siI 5 (k + 1) 0 (nI 0) o (-1)) := by decide +kernel
theorem it_ok {n o k : Nat} (h1 : 2 ≤ n) (h2 : n ≤ 5) (ho : o < tFACT.getD n 0) (hk : k < n) : itO n (k + 1) 0 (nI 0) o (nI 0) = some (siI n (k + 1) 0 (nI 0) o (-1)) := by
  rcases (show n = 2 ∨ n = 3 ∨ n = 4 ∨ n = 5 by omega) with rfl | rfl | rfl | rfl
  · exact it_ok2 o ho k hk
  · exact it_ok3 o ho k hk
  · exact it_ok4 o ho k hk
  · exact it_ok5 o ho k hk
theorem gcd_nx (d r : Nat) : Nat.gcd r (d % r) = Nat.gcd d r := by
  rw [Nat.gcd_comm r (d % r), ← Nat.gcd_rec, Nat.gcd_comm]
/-- how many of the first p have answered test t -/
def cnA (ma : Nat → Nat) (t : Nat) : Nat → Nat
  | 0 => 0
  | p + 1 => cnA ma t p + (if 0 < ma (26 * t + p) then 1 else 0)
theorem cnA_le (ma : Nat → Nat) (t : Nat) : ∀ p, cnA ma t p ≤ p
  | 0 => Nat.le_refl 0
  | p + 1 => by
    have := cnA_le ma t p
    unfold cnA
    split <;> omega
def fstN (kd : Nat) : Nat := if kd = 0 then 0 else if kd = 1 then 6 else 8
set_option maxHeartbeats 400000 in
set_option maxRecDepth 100000 in
theorem c_M_power (l : Launch) (D : va_G) (κ : Nat → ClassId) (base : Nat) (H0 : Heap) (b t : Nat) (h2 : t < 2 ^ 31) : Met l yM_power wM_power ({ frames := 0, cells := 0, slots := 0, locals := 0 }) (Pq D κ base [.long (lN b), .int (nI t)] H0) (q_P (some (.long (lN (b ^ t))))) 0 0 (fun _ => False) := by
  refine Met.ofW (cc := bM_power) (maxL := 6) (ret := (some FieldType.long)) (by decide) rfl ?_
  intro p e s m args below meth c s₁ B hml hv
  obtain ⟨rfl, hH, hE⟩ := hv
  subst hH
  have hx := B.exec
  have hb := B.bytes
  have hr := B.returns
  have hT : ∀ w ∈ TT, w.before _ s = true := fun w h => atoms_spec (ws := wM_power) B.pre w (List.mem_cons_of_mem _ h)
  have hown : s.vm.findClass "TasterPanelsModel" = some m.cls := findClass_of_methodNamed B.named
  have hlocks := B.notSynchronized
  have hK := hE.1
  have hS : va_S (fun q => base ≤ q) s.heap s.heap [] := va_S.rf
  have hAb : ∀ q : Nat, (fun q : Nat => base ≤ q) q → base ≤ q := fun _ h => h
  have hl := lv_entry ([.long (lN b), .int (nI t)]) (n := 6) (Nat.le_of_ble_eq_true rfl)
  rw [lg_entry_eq]
  generalize (lg_sl ([.long (lN b), .int (nI t)]) ++ List.replicate (6 - (lg_sl ([.long (lN b), .int (nI t)])).length) Slot.unset).toArray = ls at hl ⊢
  have hl : lv_has ls 6 [(0, .long (lN b)), (2, .int (nI t))] := hl
  have loop : ∀ (fu : Nat) (i : Nat), (i ≤ t) → t - i < fu → ∀ ls : Array Slot, lv_has ls 6 [(0, .long (lN b)), (2, .int (nI t)), (3, .long (lN (b ^ i))), (5, .int (nI i))] → W p l e (headSpec wM_power ({ frames := 0, cells := 0, slots := 0, locals := 0 })).room s m ([.long (lN b), .int (nI t)] : List Value).toArray below meth c s.heap [] 0 0 (MQ below (q_P (some (.long (lN (b ^ t))))) ([.long (lN b), .int (nI t)] : List Value).toArray s 0 0 (fun _ => False)) (F0 m 5 ls []) := by
    intro fu
    induction fu with
    | zero =>
      intro i hi hmu
      exact absurd hmu (Nat.not_lt_zero _)
    | succ fu ih =>
      intro i hi hmu ls hl
      refine lv_iload hx hb dM_power_5 (lv_at hl 3 rfl) ?_
      refine lv_iload_n hx hb dM_power_7 rfl (lv_at hl 1 rfl) ?_
      refine x_cge (a := i) (b := t) (tgt := 21) hx hb dM_power_8 (by decide) (by omega) (by omega) (fun h1 => ?_) (fun h1 => ?_)
      · have e1 : i = t := by omega
        subst e1
        refine lv_lload_n hx hb dM_power_21 rfl (lv_at hl 2 rfl) ?_
        exact W.lret (v := lN (b ^ i)) hx hb hr (fun t9 ht9 hW9 => ⟨rfl, ht9⟩) (fun q h => absurd h List.not_mem_nil) dM_power_22
      · refine lv_lload_n hx hb dM_power_11 rfl (lv_at hl 2 rfl) ?_
        refine lv_lload_n hx hb dM_power_12 rfl (lv_at hl 0 rfl) ?_
        refine x_lmul (v := lN ((b ^ i) * b)) hx hb dM_power_13 (lN_mul _ _) ?_
        refine x_topl (y := lN (b ^ (i + 1))) (by rw [Nat.pow_succ]) ?_
        refine lv_lstore_n (lv' := [(3, .long (lN (b ^ (i + 1)))), (0, .long (lN b)), (2, .int (nI t)), (5, .int (nI i))]) hx hb dM_power_14 rfl hl (by decide) rfl (fun ls hl => ?_)
        refine lv_iinc (v := nI (i + 1)) (lv' := [(5, .int (nI (i + 1))), (3, .long (lN (b ^ (i + 1)))), (0, .long (lN b)), (2, .int (nI t))]) hx hb dM_power_15 hl (k := 3) rfl (nI_add _ _) (by decide) rfl (fun ls hl => ?_)
        refine lv_goto (tgt := 5) hx hb dM_power_18 (by decide) ?_
        exact ih (i + 1) (by omega) (by omega) ls (lv_sub hl [2, 3, 1, 0] rfl)
  refine lv_lconst (v := lN 1) hx hb dM_power_0 (by decide) ?_
  refine lv_lstore_n (lv' := [(3, .long (lN 1)), (0, .long (lN b)), (2, .int (nI t))]) hx hb dM_power_1 rfl hl (by decide) rfl (fun ls hl => ?_)
  refine lv_iconst (v := nI 0) hx hb dM_power_2 (by decide) ?_
  refine lv_istore (lv' := [(5, .int (nI 0)), (3, .long (lN 1)), (0, .long (lN b)), (2, .int (nI t))]) hx hb dM_power_3 hl (by decide) rfl (fun ls hl => ?_)
  exact loop (t + 1) 0 (Nat.zero_le _) (by omega) ls (lv_sub hl [2, 3, 1, 0] rfl)
set_option maxHeartbeats 400000 in
set_option maxRecDepth 100000 in
theorem c_M_reduced (l : Launch) (D : va_G) (κ : Nat → ClassId) (base : Nat) (H0 : Heap) (a b q : Nat) (ha : a < 2 ^ 63) (hb0 : b < 2 ^ 63) (hb1 : 0 < b) (hq : q < 2) : Met l yM_reduced wM_reduced ({ frames := 0, cells := 0, slots := 0, locals := 0 }) (Pq D κ base [.long (lN a), .long (lN b), .int (nI q)] H0) (q_P (some (.long (lN ((if q = 0 then a else b) / Nat.gcd b a))))) 0 0 (fun _ => False) := by
  refine Met.ofW (cc := bM_reduced) (maxL := 11) (ret := (some FieldType.long)) (by decide) rfl ?_
  intro p e s m args below meth c s₁ B hml hv
  obtain ⟨rfl, hH, hE⟩ := hv
  subst hH
  have hx := B.exec
  have hb := B.bytes
  have hr := B.returns
  have hT : ∀ w ∈ TT, w.before _ s = true := fun w h => atoms_spec (ws := wM_reduced) B.pre w (List.mem_cons_of_mem _ h)
  have hown : s.vm.findClass "TasterPanelsModel" = some m.cls := findClass_of_methodNamed B.named
  have hlocks := B.notSynchronized
  have hK := hE.1
  have hS : va_S (fun q => base ≤ q) s.heap s.heap [] := va_S.rf
  have hAb : ∀ q : Nat, (fun q : Nat => base ≤ q) q → base ≤ q := fun _ h => h
  have hl := lv_entry ([.long (lN a), .long (lN b), .int (nI q)]) (n := 11) (Nat.le_of_ble_eq_true rfl)
  rw [lg_entry_eq]
  generalize (lg_sl ([.long (lN a), .long (lN b), .int (nI q)]) ++ List.replicate (11 - (lg_sl ([.long (lN a), .long (lN b), .int (nI q)])).length) Slot.unset).toArray = ls at hl ⊢
  have hl : lv_has ls 11 [(0, .long (lN a)), (2, .long (lN b)), (4, .int (nI q))] := hl
  have loop : ∀ (fu : Nat) (d r : Nat), (d < 2 ^ 63) → (r < 2 ^ 63) → (0 < d) → (Nat.gcd d r = Nat.gcd b a) → r < fu → ∀ ls : Array Slot, lv_has ls 11 [(0, .long (lN a)), (2, .long (lN b)), (4, .int (nI q)), (5, .long (lN d)), (7, .long (lN r))] → W p l e (headSpec wM_reduced ({ frames := 0, cells := 0, slots := 0, locals := 0 })).room s m ([.long (lN a), .long (lN b), .int (nI q)] : List Value).toArray below meth c s.heap [] 0 0 (MQ below (q_P (some (.long (lN ((if q = 0 then a else b) / Nat.gcd b a))))) ([.long (lN a), .long (lN b), .int (nI q)] : List Value).toArray s 0 0 (fun _ => False)) (F0 m 6 ls []) := by
    intro fu
    induction fu with
    | zero =>
      intro d r hd hr1 hd0 heq hmu
      exact absurd hmu (Nat.not_lt_zero _)
    | succ fu ih =>
      intro d r hd hr1 hd0 heq hmu ls hl
      refine lv_lload hx hb dM_reduced_6 (lv_at hl 4 rfl) ?_
      refine lv_lconst (v := lN 0) hx hb dM_reduced_8 (by decide) ?_
      refine x_lle (tgt := 31) hx hb dM_reduced_9 dM_reduced_10 (by decide) (fun g1 => ?_) (fun g1 => ?_)
      · have e1 : r = 0 := by have := (pk_lLE hr1 (by decide : 0 < 2 ^ 63)).mp g1; omega
        have e2 : d = Nat.gcd b a := by rw [← heq, e1, Nat.gcd_zero_right]
        refine lv_iload hx hb dM_reduced_31 (lv_at hl 2 rfl) ?_
        refine x_zne (a := q) (tgt := 43) hx hb dM_reduced_33 (by decide) (by omega) (fun g2 => ?_) (fun g2 => ?_)
        · refine lv_lload_n hx hb dM_reduced_43 rfl (lv_at hl 1 rfl) ?_
          refine lv_lload hx hb dM_reduced_44 (lv_at hl 3 rfl) ?_
          refine x_ldiv (v := lN (b / d)) hx hb dM_reduced_46 (lN_ne0 (hd0) (hd)) (pk_lDiv (by assumption) (hd0) (hd)) ?_
          refine x_topl (y := lN ((if q = 0 then a else b) / Nat.gcd b a)) (by rw [if_neg g2, e2]) ?_
          exact W.lret (v := lN ((if q = 0 then a else b) / Nat.gcd b a)) hx hb hr (fun t9 ht9 hW9 => ⟨rfl, ht9⟩) (fun q h => absurd h List.not_mem_nil) dM_reduced_47
        · refine lv_lload_n hx hb dM_reduced_36 rfl (lv_at hl 0 rfl) ?_
          refine lv_lload hx hb dM_reduced_37 (lv_at hl 3 rfl) ?_
          refine x_ldiv (v := lN (a / d)) hx hb dM_reduced_39 (lN_ne0 (hd0) (hd)) (pk_lDiv (by assumption) (hd0) (hd)) ?_
          refine lv_goto (tgt := 47) hx hb dM_reduced_40 (by decide) ?_
          refine x_topl (y := lN ((if q = 0 then a else b) / Nat.gcd b a)) (by rw [if_pos g2, e2]) ?_
          exact W.lret (v := lN ((if q = 0 then a else b) / Nat.gcd b a)) hx hb hr (fun t9 ht9 hW9 => ⟨rfl, ht9⟩) (fun q h => absurd h List.not_mem_nil) dM_reduced_47
      · have hr0 : 0 < r := Nat.pos_of_ne_zero (fun q => g1 (by rw [q]; exact Int64.le_refl _))
        refine lv_lload hx hb dM_reduced_13 (lv_at hl 3 rfl) ?_
        refine lv_lload hx hb dM_reduced_15 (lv_at hl 4 rfl) ?_
        refine x_lrem (v := lN (d % r)) hx hb dM_reduced_17 (lN_ne0 (hr0) (hr1)) (pk_lRem (hd) (hr0) (hr1)) ?_
        refine lv_lstore (lv' := [(9, .long (lN (d % r))), (0, .long (lN a)), (2, .long (lN b)), (4, .int (nI q)), (5, .long (lN d)), (7, .long (lN r))]) hx hb dM_reduced_18 hl (by decide) rfl (fun ls hl => ?_)
        refine lv_lload hx hb dM_reduced_20 (lv_at hl 5 rfl) ?_
        refine lv_lstore (lv' := [(5, .long (lN r)), (9, .long (lN (d % r))), (0, .long (lN a)), (2, .long (lN b)), (4, .int (nI q)), (7, .long (lN r))]) hx hb dM_reduced_22 hl (by decide) rfl (fun ls hl => ?_)
        refine lv_lload hx hb dM_reduced_24 (lv_at hl 1 rfl) ?_
        refine lv_lstore (lv' := [(7, .long (lN (d % r))), (5, .long (lN r)), (9, .long (lN (d % r))), (0, .long (lN a)), (2, .long (lN b)), (4, .int (nI q))]) hx hb dM_reduced_26 hl (by decide) rfl (fun ls hl => ?_)
        refine lv_goto (tgt := 6) hx hb dM_reduced_28 (by decide) ?_
        exact ih r (d % r) hr1 (Nat.lt_trans (Nat.mod_lt _ hr0) hr1) hr0 ((gcd_nx d r).trans heq) (Nat.lt_of_lt_of_le (Nat.mod_lt _ hr0) (Nat.le_of_lt_succ hmu)) ls (lv_sub hl [3, 4, 5, 1, 0] rfl)
  refine lv_lload_n hx hb dM_reduced_0 rfl (lv_at hl 1 rfl) ?_
  refine lv_lstore (lv' := [(5, .long (lN b)), (0, .long (lN a)), (2, .long (lN b)), (4, .int (nI q))]) hx hb dM_reduced_1 hl (by decide) rfl (fun ls hl => ?_)
  refine lv_lload_n hx hb dM_reduced_3 rfl (lv_at hl 1 rfl) ?_
  refine lv_lstore (lv' := [(7, .long (lN a)), (5, .long (lN b)), (0, .long (lN a)), (2, .long (lN b)), (4, .int (nI q))]) hx hb dM_reduced_4 hl (by decide) rfl (fun ls hl => ?_)
  exact loop (a + 1) b a hb0 ha hb1 rfl (by omega) ls (lv_sub hl [2, 3, 4, 1, 0] rfl)
set_option maxHeartbeats 400000 in
set_option maxRecDepth 100000 in
theorem c_M_strength (l : Launch) (D : va_G) (κ : Nat → ClassId) (base : Nat) (H0 : Heap) (k : Nat) (hk : k < 16) : Met l yM_strength wM_strength ({ frames := 0, cells := 0, slots := 0, locals := 0 }) (Pq D κ base [.int (nI k)] H0) (q_P (some (.double (strv k)))) 0 0 (fun _ => False) := by
  refine Met.ofW (cc := bM_strength) (maxL := 1) (ret := (some FieldType.double)) (by decide) rfl ?_
  intro p e s m args below meth c s₁ B hml hv
  obtain ⟨rfl, hH, hE⟩ := hv
  subst hH
  have hx := B.exec
  have hb := B.bytes
  have hr := B.returns
  have hT : ∀ w ∈ TT, w.before _ s = true := fun w h => atoms_spec (ws := wM_strength) B.pre w (List.mem_cons_of_mem _ h)
  have hown : s.vm.findClass "TasterPanelsModel" = some m.cls := findClass_of_methodNamed B.named
  have hlocks := B.notSynchronized
  have hK := hE.1
  have hS : va_S (fun q => base ≤ q) s.heap s.heap [] := va_S.rf
  have hAb : ∀ q : Nat, (fun q : Nat => base ≤ q) q → base ≤ q := fun _ h => h
  have hl := lv_entry ([.int (nI k)]) (n := 1) (Nat.le_of_ble_eq_true rfl)
  rw [lg_entry_eq]
  generalize (lg_sl ([.int (nI k)]) ++ List.replicate (1 - (lg_sl ([.int (nI k)])).length) Slot.unset).toArray = ls at hl ⊢
  have hl : lv_has ls 1 [(0, .int (nI k))] := hl
  refine lv_iconst (v := nI 1) hx hb dM_strength_0 (by decide) ?_
  refine lv_iload_n hx hb dM_strength_1 rfl (lv_at hl 0 rfl) ?_
  refine x_ishl (v := (nI 1) <<< ((nI k) &&& 31)) hx hb dM_strength_2 (rfl) ?_
  refine lv_i2d hx hb dM_strength_3 ?_
  refine lv_ldc2d (v := 4620693217682128896) hx hb hown (hT _ kM123) dM_strength_4 ?_
  refine lv_ddiv hx hb dM_strength_7 (strv_ok k hk) ?_
  exact W.dret (v := FP.ddiv (FP.i2d ((nI 1) <<< ((nI k) &&& 31))) 4620693217682128896) hx hb hr (fun t9 ht9 hW9 => ⟨rfl, ht9⟩) (fun q h => absurd h List.not_mem_nil) dM_strength_8
set_option maxHeartbeats 400000 in
set_option maxRecDepth 100000 in
theorem c_M_item (l : Launch) (D : va_G) (κ : Nat → ClassId) (base : Nat) (H0 : Heap) (n o k : Nat) (hn : n ≤ 5) (ho : o < 2 ^ 31) (hk : k < n) (r : Int32) (hr0 : itO n (k + 1) 0 (nI 0) o (nI 0) = some r) : Met l yM_item wM_item ({ frames := 0, cells := 0, slots := 0, locals := 0 }) (Pq D κ base [.int (nI n), .int (nI o), .int (nI k)] H0) (q_P (some (.int r))) 0 0 (fun _ => False) := by
  refine Met.ofW (cc := bM_item) (maxL := 9) (ret := (some FieldType.int)) (by decide) rfl ?_
  intro p e s m args below meth c s₁ B hml hv
  obtain ⟨rfl, hH, hE⟩ := hv
  subst hH
  have hx := B.exec
  have hb := B.bytes
  have hr := B.returns
  have hT : ∀ w ∈ TT, w.before _ s = true := fun w h => atoms_spec (ws := wM_item) B.pre w (List.mem_cons_of_mem _ h)
  have hown : s.vm.findClass "TasterPanelsModel" = some m.cls := findClass_of_methodNamed B.named
  have hlocks := B.notSynchronized
  have hK := hE.1
  have hS : va_S (fun q => base ≤ q) s.heap s.heap [] := va_S.rf
  have hAb : ∀ q : Nat, (fun q : Nat => base ≤ q) q → base ≤ q := fun _ h => h
  have hl := lv_entry ([.int (nI n), .int (nI o), .int (nI k)]) (n := 9) (Nat.le_of_ble_eq_true rfl)
  rw [lg_entry_eq]
  generalize (lg_sl ([.int (nI n), .int (nI o), .int (nI k)]) ++ List.replicate (9 - (lg_sl ([.int (nI n), .int (nI o), .int (nI k)])).length) Slot.unset).toArray = ls at hl ⊢
  have hl : lv_has ls 9 [(0, .int (nI n)), (1, .int (nI o)), (2, .int (nI k))] := hl
  have loop : ∀ (fu : Nat) (pl : Nat) (u : Int32) (lf : Nat) (fd : Int32), (pl ≤ k + 1) → (lf < 2 ^ 31) → (itO n (k + 1 - pl) pl u lf fd = some r) → k + 1 - pl < fu → ∀ ls : Array Slot, lv_has ls 9 [(0, .int (nI n)), (1, .int (nI o)), (2, .int (nI k)), (3, .int u), (4, .int (nI lf)), (5, .int fd), (6, .int (nI pl))] → W p l e (headSpec wM_item ({ frames := 0, cells := 0, slots := 0, locals := 0 })).room s m ([.int (nI n), .int (nI o), .int (nI k)] : List Value).toArray below meth c s.heap [] 0 0 (MQ below (q_P (some (.int r))) ([.int (nI n), .int (nI o), .int (nI k)] : List Value).toArray s 0 0 (fun _ => False)) (F0 m 11 ls []) := by
    intro fu
    induction fu with
    | zero =>
      intro pl u lf fd hpl hlf heq hmu
      exact absurd hmu (Nat.not_lt_zero _)
    | succ fu ih =>
      intro pl u lf fd hpl hlf heq hmu ls hl
      refine lv_iload hx hb dM_item_11 (lv_at hl 6 rfl) ?_
      refine lv_iload_n hx hb dM_item_13 rfl (lv_at hl 2 rfl) ?_
      refine x_cgt (a := pl) (b := k) (tgt := 105) hx hb dM_item_14 (by decide) (by omega) (by omega) (fun g1 => ?_) (fun g1 => ?_)
      · refine lv_iload hx hb dM_item_105 (lv_at hl 5 rfl) ?_
        rw [show k + 1 - pl = 0 by omega] at heq
        refine x_topi (y := r) (Option.some.inj heq) ?_
        exact W.iret (v := r) hx hb hr (fun t9 ht9 hW9 => ⟨rfl, ht9⟩) (fun q h => absurd h List.not_mem_nil) dM_item_107
      · rw [show k + 1 - pl = (k + 1 - (pl + 1)) + 1 by omega, itO] at heq
        obtain ⟨f1, f2⟩ := facN_b (n - pl - 1) (by omega)
        have f3 : facN (n - pl - 1) = frow n pl := rfl
        obtain ⟨g, hg, heq2⟩ := Option.bind_eq_some_iff.mp heq
        have loopW : ∀ (fw : Nat) (fd sk : Int32), itW fw u fd sk = some g → ∀ ls : Array Slot, lv_has ls 9 [(0, .int (nI n)), (1, .int (nI o)), (2, .int (nI k)), (3, .int u), (4, .int (nI (lf % frow n pl))), (5, .int fd), (6, .int (nI pl)), (8, .int sk)] → W p l e (headSpec wM_item ({ frames := 0, cells := 0, slots := 0, locals := 0 })).room s m ([.int (nI n), .int (nI o), .int (nI k)] : List Value).toArray below meth c s.heap [] 0 0 (MQ below (q_P (some (.int r))) ([.int (nI n), .int (nI o), .int (nI k)] : List Value).toArray s 0 0 (fun _ => False)) (F0 m 62 ls []) := by
          intro fw
          induction fw with
          | zero =>
            intro fd sk hw
            cases hw
          | succ fw ihw =>
            intro fd sk hw ls hl
            refine lv_iload hx hb dM_item_62 (lv_at hl 7 rfl) ?_
            refine lv_if_lt (tgt := 92) hx hb dM_item_64 (by decide) (fun g5 => ?_) (fun g5 => ?_)
            · rw [itW, if_pos g5] at hw
              have e7 := Option.some.inj hw
              subst e7
              refine lv_iload_n hx hb dM_item_92 rfl (lv_at hl 3 rfl) ?_
              refine lv_iconst (v := nI 1) hx hb dM_item_93 (by decide) ?_
              refine lv_iload hx hb dM_item_94 (lv_at hl 5 rfl) ?_
              refine x_ishl (v := (nI 1) <<< (fd &&& 31)) hx hb dM_item_96 (rfl) ?_
              refine x_ior (v := u ||| ((nI 1) <<< (fd &&& 31))) hx hb dM_item_97 (rfl) ?_
              refine lv_istore_n (lv' := [(3, .int (u ||| ((nI 1) <<< (fd &&& 31)))), (0, .int (nI n)), (1, .int (nI o)), (2, .int (nI k)), (4, .int (nI (lf % frow n pl))), (5, .int fd), (6, .int (nI pl)), (8, .int sk)]) hx hb dM_item_98 rfl hl (by decide) rfl (fun ls hl => ?_)
              refine lv_iinc (v := nI (pl + 1)) (lv' := [(6, .int (nI (pl + 1))), (3, .int (u ||| ((nI 1) <<< (fd &&& 31)))), (0, .int (nI n)), (1, .int (nI o)), (2, .int (nI k)), (4, .int (nI (lf % frow n pl))), (5, .int fd), (8, .int sk)]) hx hb dM_item_99 hl (k := 6) rfl (nI_add _ _) (by decide) rfl (fun ls hl => ?_)
              refine lv_goto (tgt := 11) hx hb dM_item_102 (by decide) ?_
              exact ih (pl + 1) (u ||| (nI 1 <<< (fd &&& 31))) (lf % frow n pl) fd (by omega) (Nat.lt_of_le_of_lt (Nat.mod_le _ _) hlf) heq2 (by omega) ls (lv_sub hl [2, 3, 4, 1, 5, 6, 0] rfl)
            · rw [itW, if_neg g5] at hw
              refine lv_iinc (v := fd + (1)) (lv' := [(5, .int (fd + (1))), (0, .int (nI n)), (1, .int (nI o)), (2, .int (nI k)), (3, .int u), (4, .int (nI (lf % frow n pl))), (6, .int (nI pl)), (8, .int sk)]) hx hb dM_item_67 hl (k := 5) rfl (rfl) (by decide) rfl (fun ls hl => ?_)
              refine lv_iload hx hb dM_item_70 (lv_at hl 7 rfl) ?_
              refine lv_iload_n hx hb dM_item_72 rfl (lv_at hl 4 rfl) ?_
              refine lv_iload hx hb dM_item_73 (lv_at hl 0 rfl) ?_
              refine x_ishr (v := u >>> ((fd + (1)) &&& 31)) hx hb dM_item_75 (rfl) ?_
              refine lv_iconst (v := nI 1) hx hb dM_item_76 (by decide) ?_
              refine x_iand (v := (u >>> ((fd + (1)) &&& 31)) &&& (nI 1)) hx hb dM_item_77 (rfl) ?_
              refine lv_if_ne (tgt := 85) hx hb dM_item_78 (by decide) (fun g6 => ?_) (fun g6 => ?_)
              · rw [if_neg g6] at hw
                refine lv_iconst (v := nI 0) hx hb dM_item_85 (by decide) ?_
                refine x_isub (v := sk - (nI 0)) hx hb dM_item_86 (rfl) ?_
                refine lv_istore (lv' := [(8, .int (sk - (nI 0))), (5, .int (fd + (1))), (0, .int (nI n)), (1, .int (nI o)), (2, .int (nI k)), (3, .int u), (4, .int (nI (lf % frow n pl))), (6, .int (nI pl))]) hx hb dM_item_87 hl (by decide) rfl (fun ls hl => ?_)
                refine lv_goto (tgt := 62) hx hb dM_item_89 (by decide) ?_
                exact ihw _ _ hw ls (lv_sub hl [2, 3, 4, 5, 6, 1, 7, 0] rfl)
              · rw [if_pos g6] at hw
                refine lv_iconst (v := nI 1) hx hb dM_item_81 (by decide) ?_
                refine lv_goto (tgt := 86) hx hb dM_item_82 (by decide) ?_
                refine x_isub (v := sk - (nI 1)) hx hb dM_item_86 (rfl) ?_
                refine lv_istore (lv' := [(8, .int (sk - (nI 1))), (5, .int (fd + (1))), (0, .int (nI n)), (1, .int (nI o)), (2, .int (nI k)), (3, .int u), (4, .int (nI (lf % frow n pl))), (6, .int (nI pl))]) hx hb dM_item_87 hl (by decide) rfl (fun ls hl => ?_)
                refine lv_goto (tgt := 62) hx hb dM_item_89 (by decide) ?_
                exact ihw _ _ hw ls (lv_sub hl [2, 3, 4, 5, 6, 1, 7, 0] rfl)
        have loopR : ∀ (fu : Nat) (mm : Nat), (2 ≤ mm) → (mm = 2 ∨ mm ≤ n - pl) → n - pl + 2 - mm < fu → ∀ ls : Array Slot, lv_has ls 9 [(0, .int (nI n)), (1, .int (nI o)), (2, .int (nI k)), (3, .int u), (4, .int (nI lf)), (6, .int (nI pl)), (7, .int (nI (facN (mm - 1)))), (8, .int (nI mm))] → W p l e (headSpec wM_item ({ frames := 0, cells := 0, slots := 0, locals := 0 })).room s m ([.int (nI n), .int (nI o), .int (nI k)] : List Value).toArray below meth c s.heap [] 0 0 (MQ below (q_P (some (.int r))) ([.int (nI n), .int (nI o), .int (nI k)] : List Value).toArray s 0 0 (fun _ => False)) (F0 m 23 ls []) := by
          intro fu
          induction fu with
          | zero =>
            intro mm hm1 hm2 hmu
            exact absurd hmu (Nat.not_lt_zero _)
          | succ fu ihR =>
            intro mm hm1 hm2 hmu ls hl
            refine lv_iload hx hb dM_item_23 (lv_at hl 7 rfl) ?_
            refine lv_iload_n hx hb dM_item_25 rfl (lv_at hl 0 rfl) ?_
            refine lv_iload hx hb dM_item_26 (lv_at hl 5 rfl) ?_
            refine x_isub (v := nI (n - pl)) hx hb dM_item_28 (pk_sub (by omega)) ?_
            refine x_cge (a := mm) (b := n - pl) (tgt := 45) hx hb dM_item_29 (by decide) (by omega) (by omega) (fun g4 => ?_) (fun g4 => ?_)
            · have e8 : facN (mm - 1) = frow n pl := frow_ex hm1 hm2 g4 (by omega)
              rw [e8] at hl
              rw [f3] at f1 f2
              refine lv_iload hx hb dM_item_45 (lv_at hl 4 rfl) ?_
              refine lv_iload hx hb dM_item_47 (lv_at hl 6 rfl) ?_
              refine x_idiv (v := nI (lf / (frow n pl))) hx hb dM_item_49 (nI_ne0 (by omega) (by omega)) (pk_div (by omega) (by omega) (by omega)) ?_
              refine lv_istore (lv' := [(8, .int (nI (lf / (frow n pl)))), (0, .int (nI n)), (1, .int (nI o)), (2, .int (nI k)), (3, .int u), (4, .int (nI lf)), (6, .int (nI pl)), (7, .int (nI (frow n pl)))]) hx hb dM_item_50 hl (by decide) rfl (fun ls hl => ?_)
              refine lv_iload hx hb dM_item_52 (lv_at hl 5 rfl) ?_
              refine lv_iload hx hb dM_item_54 (lv_at hl 7 rfl) ?_
              refine x_irem (v := nI (lf % (frow n pl))) hx hb dM_item_56 (nI_ne0 (by omega) (by omega)) (pk_rem (by omega) (by omega) (by omega)) ?_
              refine lv_istore (lv' := [(4, .int (nI (lf % (frow n pl)))), (8, .int (nI (lf / (frow n pl)))), (0, .int (nI n)), (1, .int (nI o)), (2, .int (nI k)), (3, .int u), (6, .int (nI pl)), (7, .int (nI (frow n pl)))]) hx hb dM_item_57 hl (by decide) rfl (fun ls hl => ?_)
              refine lv_iconst (v := -1) hx hb dM_item_59 (by decide) ?_
              refine lv_istore (lv' := [(5, .int (-1)), (4, .int (nI (lf % (frow n pl)))), (8, .int (nI (lf / (frow n pl)))), (0, .int (nI n)), (1, .int (nI o)), (2, .int (nI k)), (3, .int u), (6, .int (nI pl)), (7, .int (nI (frow n pl)))]) hx hb dM_item_60 hl (by decide) rfl (fun ls hl => ?_)
              exact loopW 16 _ _ hg ls (lv_sub hl [3, 4, 5, 6, 1, 0, 7, 2] rfl)
            · obtain ⟨f4, f5⟩ := facN_b (mm - 1) (by omega)
              refine lv_iload hx hb dM_item_32 (lv_at hl 6 rfl) ?_
              refine lv_iload hx hb dM_item_34 (lv_at hl 7 rfl) ?_
              refine x_imul (v := nI ((facN (mm - 1)) * mm)) hx hb dM_item_36 (pk_mul _ _) ?_
              refine x_topn (b := facN (mm + 1 - 1)) (by rw [show mm + 1 - 1 = (mm - 1) + 1 by omega, facN, show mm - 1 + 1 = mm by omega]) ?_
              refine lv_istore (lv' := [(7, .int (nI (facN (mm + 1 - 1)))), (0, .int (nI n)), (1, .int (nI o)), (2, .int (nI k)), (3, .int u), (4, .int (nI lf)), (6, .int (nI pl)), (8, .int (nI mm))]) hx hb dM_item_37 hl (by decide) rfl (fun ls hl => ?_)
              refine lv_iinc (v := nI (mm + 1)) (lv' := [(8, .int (nI (mm + 1))), (7, .int (nI (facN (mm + 1 - 1)))), (0, .int (nI n)), (1, .int (nI o)), (2, .int (nI k)), (3, .int u), (4, .int (nI lf)), (6, .int (nI pl))]) hx hb dM_item_39 hl (k := 7) rfl (nI_add _ _) (by decide) rfl (fun ls hl => ?_)
              refine lv_goto (tgt := 23) hx hb dM_item_42 (by decide) ?_
              exact ihR (mm + 1) (by omega) (by omega) (by omega) ls (lv_sub hl [2, 3, 4, 5, 6, 7, 1, 0] rfl)
        refine lv_iconst (v := nI 1) hx hb dM_item_17 (by decide) ?_
        refine x_topn (b := facN (2 - 1)) (rfl) ?_
        refine lv_istore (lv' := [(7, .int (nI (facN (2 - 1)))), (0, .int (nI n)), (1, .int (nI o)), (2, .int (nI k)), (3, .int u), (4, .int (nI lf)), (5, .int fd), (6, .int (nI pl))]) hx hb dM_item_18 hl (by decide) rfl (fun ls hl => ?_)
        refine lv_iconst (v := nI 2) hx hb dM_item_20 (by decide) ?_
        refine lv_istore (lv' := [(8, .int (nI 2)), (7, .int (nI (facN (2 - 1)))), (0, .int (nI n)), (1, .int (nI o)), (2, .int (nI k)), (3, .int u), (4, .int (nI lf)), (5, .int fd), (6, .int (nI pl))]) hx hb dM_item_21 hl (by decide) rfl (fun ls hl => ?_)
        exact loopR (n - pl + 1) 2 (by omega) (Or.inl rfl) (by omega) ls (lv_sub hl [2, 3, 4, 5, 6, 8, 1, 0] rfl)
  refine lv_iconst (v := nI 0) hx hb dM_item_0 (by decide) ?_
  refine lv_istore_n (lv' := [(3, .int (nI 0)), (0, .int (nI n)), (1, .int (nI o)), (2, .int (nI k))]) hx hb dM_item_1 rfl hl (by decide) rfl (fun ls hl => ?_)
  refine lv_iload_n hx hb dM_item_2 rfl (lv_at hl 2 rfl) ?_
  refine lv_istore (lv' := [(4, .int (nI o)), (3, .int (nI 0)), (0, .int (nI n)), (1, .int (nI o)), (2, .int (nI k))]) hx hb dM_item_3 hl (by decide) rfl (fun ls hl => ?_)
  refine lv_iconst (v := nI 0) hx hb dM_item_5 (by decide) ?_
  refine lv_istore (lv' := [(5, .int (nI 0)), (4, .int (nI o)), (3, .int (nI 0)), (0, .int (nI n)), (1, .int (nI o)), (2, .int (nI k))]) hx hb dM_item_6 hl (by decide) rfl (fun ls hl => ?_)
  refine lv_iconst (v := nI 0) hx hb dM_item_8 (by decide) ?_
  refine lv_istore (lv' := [(6, .int (nI 0)), (5, .int (nI 0)), (4, .int (nI o)), (3, .int (nI 0)), (0, .int (nI n)), (1, .int (nI o)), (2, .int (nI k))]) hx hb dM_item_9 hl (by decide) rfl (fun ls hl => ?_)
  exact loop (k + 2) 0 (nI 0) o (nI 0) (by omega) ho hr0 (by omega) ls (lv_sub hl [4, 5, 6, 3, 2, 1, 0] rfl)
set_option maxHeartbeats 400000 in
set_option maxRecDepth 100000 in
theorem c_M_isTest (l : Launch) (D : va_G) (κ : Nat → ClassId) (base : Nat) (H0 : Heap) {b : Nat} {nT : Nat} {nS : Nat} {th : Nat} {sd : Int64} (hP : va_P D vwCl [(b, .inr (3, [.long sd, .int (nI nT), .int (nI nS), .ref (b + 1), .ref (b + 2), .ref (b + 3), .ref (b + 4), .ref (b + 5), .ref (b + 6), .ref (b + 7), .ref (b + 8), .int (nI th)]))] H0) (hn : nS < 2 ^ 31) (x : Int32) (r : Nat) (q0 : (x < 0 ∨ nI nS ≤ x) → r = 0) (q1 : ∀ j, j < nS → x = nI j → r = 1) : Met l yM_isTest wM_isTest ({ frames := 0, cells := 0, slots := 0, locals := 0 }) (Pq D κ base [.ref b, .int x] H0) (q_P (some (.int (nI r)))) 0 0 (fun _ => False) := by
  refine Met.ofW (cc := bM_isTest) (maxL := 2) (ret := (some FieldType.boolean)) (by decide) rfl ?_
  intro p e s m args below meth c s₁ B hml hv
  obtain ⟨rfl, hH, hE⟩ := hv
  subst hH
  have hx := B.exec
  have hb := B.bytes
  have hr := B.returns
  have hT : ∀ w ∈ TT, w.before _ s = true := fun w h => atoms_spec (ws := wM_isTest) B.pre w (List.mem_cons_of_mem _ h)
  have hown : s.vm.findClass "TasterPanelsModel" = some m.cls := findClass_of_methodNamed B.named
  have hlocks := B.notSynchronized
  have hK := hE.1
  have hS : va_S (fun q => base ≤ q) s.heap s.heap [] := va_S.rf
  have hAb : ∀ q : Nat, (fun q : Nat => base ≤ q) q → base ≤ q := fun _ h => h
  have hl := lv_entry ([.ref b, .int x]) (n := 2) (Nat.le_of_ble_eq_true rfl)
  rw [lg_entry_eq]
  generalize (lg_sl ([.ref b, .int x]) ++ List.replicate (2 - (lg_sl ([.ref b, .int x])).length) Slot.unset).toArray = ls at hl ⊢
  have hl : lv_has ls 2 [(0, .ref b), (1, .int x)] := hl
  rcases pk_ix x hn with e1 | e1 | ⟨j, hj, rfl⟩
  · refine lv_iload_n hx hb dM_isTest_0 rfl (lv_at hl 1 rfl) ?_
    refine lv_if_lt (tgt := 16) hx hb dM_isTest_1 (by decide) (fun h1 => ?_) (fun h1 => absurd e1 h1)
    refine lv_iconst (v := nI 0) hx hb dM_isTest_16 (by decide) ?_
    exact W.zret (v := nI 0) hx hb hr (by decide) (fun t9 ht9 hW9 => ⟨congrArg (fun z => Outcome.returned (some (Value.int (nI z)))) ((q0 (Or.inl e1)).symm), ht9⟩) (fun q h => absurd h List.not_mem_nil) dM_isTest_17
  · refine lv_iload_n hx hb dM_isTest_0 rfl (lv_at hl 1 rfl) ?_
    refine lv_if_lt (tgt := 16) hx hb dM_isTest_1 (by decide) (fun h2 => absurd (Int32.lt_of_le_of_lt e1 h2) (nI_pos hn)) (fun h2 => ?_)
    refine lv_iload_n hx hb dM_isTest_4 rfl (lv_at hl 1 rfl) ?_
    refine lv_aload_n hx hb dM_isTest_5 rfl (lv_at hl 0 rfl) ?_
    refine va_get (D := D) (ci := 3) (v := .int (nI nS)) (C := RM) (T := FM) (N := 12) hx hb hT inM hown hK hP 0 rfl rfl 2 (by decide) (hT _ kM46) (fun _ h9 => h9) rfl dM_isTest_6 ?_
    refine lv_icmp_ge (tgt := 16) hx hb dM_isTest_9 (by decide) (fun h3 => ?_) (fun h3 => absurd e1 h3)
    refine lv_iconst (v := nI 0) hx hb dM_isTest_16 (by decide) ?_
    exact W.zret (v := nI 0) hx hb hr (by decide) (fun t9 ht9 hW9 => ⟨congrArg (fun z => Outcome.returned (some (Value.int (nI z)))) ((q0 (Or.inr e1)).symm), ht9⟩) (fun q h => absurd h List.not_mem_nil) dM_isTest_17
  · refine lv_iload_n hx hb dM_isTest_0 rfl (lv_at hl 1 rfl) ?_
    refine x_zlt (a := j) (tgt := 16) hx hb dM_isTest_1 (by decide) (by omega) ?_
    refine lv_iload_n hx hb dM_isTest_4 rfl (lv_at hl 1 rfl) ?_
    refine lv_aload_n hx hb dM_isTest_5 rfl (lv_at hl 0 rfl) ?_
    refine va_get (D := D) (ci := 3) (v := .int (nI nS)) (C := RM) (T := FM) (N := 12) hx hb hT inM hown hK hP 0 rfl rfl 2 (by decide) (hT _ kM46) (fun _ h9 => h9) rfl dM_isTest_6 ?_
    refine x_cge (a := j) (b := nS) (tgt := 16) hx hb dM_isTest_9 (by decide) (by omega) (by omega) (fun h5 => absurd h5 (by omega)) (fun h5 => ?_)
    refine lv_iconst (v := nI 1) hx hb dM_isTest_12 (by decide) ?_
    refine lv_goto (tgt := 17) hx hb dM_isTest_13 (by decide) ?_
    exact W.zret (v := nI 1) hx hb hr (by decide) (fun t9 ht9 hW9 => ⟨congrArg (fun z => Outcome.returned (some (Value.int (nI z)))) ((q1 j hj rfl).symm), ht9⟩) (fun q h => absurd h List.not_mem_nil) dM_isTest_17
set_option maxHeartbeats 400000 in
set_option maxRecDepth 100000 in
theorem c_M_isTaster (l : Launch) (D : va_G) (κ : Nat → ClassId) (base : Nat) (H0 : Heap) {b : Nat} {nT : Nat} {nS : Nat} {th : Nat} {sd : Int64} (hP : va_P D vwCl [(b, .inr (3, [.long sd, .int (nI nT), .int (nI nS), .ref (b + 1), .ref (b + 2), .ref (b + 3), .ref (b + 4), .ref (b + 5), .ref (b + 6), .ref (b + 7), .ref (b + 8), .int (nI th)]))] H0) (hn : nT < 2 ^ 31) (x : Int32) (r : Nat) (q0 : (x < 0 ∨ nI nT ≤ x) → r = 0) (q1 : ∀ j, j < nT → x = nI j → r = 1) : Met l yM_isTaster wM_isTaster ({ frames := 0, cells := 0, slots := 0, locals := 0 }) (Pq D κ base [.ref b, .int x] H0) (q_P (some (.int (nI r)))) 0 0 (fun _ => False) := by
  refine Met.ofW (cc := bM_isTaster) (maxL := 2) (ret := (some FieldType.boolean)) (by decide) rfl ?_
  intro p e s m args below meth c s₁ B hml hv
  obtain ⟨rfl, hH, hE⟩ := hv
  subst hH
  have hx := B.exec
  have hb := B.bytes
  have hr := B.returns
  have hT : ∀ w ∈ TT, w.before _ s = true := fun w h => atoms_spec (ws := wM_isTaster) B.pre w (List.mem_cons_of_mem _ h)
  have hown : s.vm.findClass "TasterPanelsModel" = some m.cls := findClass_of_methodNamed B.named
  have hlocks := B.notSynchronized
  have hK := hE.1
  have hS : va_S (fun q => base ≤ q) s.heap s.heap [] := va_S.rf
  have hAb : ∀ q : Nat, (fun q : Nat => base ≤ q) q → base ≤ q := fun _ h => h
  have hl := lv_entry ([.ref b, .int x]) (n := 2) (Nat.le_of_ble_eq_true rfl)
  rw [lg_entry_eq]
  generalize (lg_sl ([.ref b, .int x]) ++ List.replicate (2 - (lg_sl ([.ref b, .int x])).length) Slot.unset).toArray = ls at hl ⊢
  have hl : lv_has ls 2 [(0, .ref b), (1, .int x)] := hl
  rcases pk_ix x hn with e1 | e1 | ⟨j, hj, rfl⟩
  · refine lv_iload_n hx hb dM_isTaster_0 rfl (lv_at hl 1 rfl) ?_
    refine lv_if_lt (tgt := 16) hx hb dM_isTaster_1 (by decide) (fun h1 => ?_) (fun h1 => absurd e1 h1)
    refine lv_iconst (v := nI 0) hx hb dM_isTaster_16 (by decide) ?_
    exact W.zret (v := nI 0) hx hb hr (by decide) (fun t9 ht9 hW9 => ⟨congrArg (fun z => Outcome.returned (some (Value.int (nI z)))) ((q0 (Or.inl e1)).symm), ht9⟩) (fun q h => absurd h List.not_mem_nil) dM_isTaster_17
  · refine lv_iload_n hx hb dM_isTaster_0 rfl (lv_at hl 1 rfl) ?_
    refine lv_if_lt (tgt := 16) hx hb dM_isTaster_1 (by decide) (fun h2 => absurd (Int32.lt_of_le_of_lt e1 h2) (nI_pos hn)) (fun h2 => ?_)
    refine lv_iload_n hx hb dM_isTaster_4 rfl (lv_at hl 1 rfl) ?_
    refine lv_aload_n hx hb dM_isTaster_5 rfl (lv_at hl 0 rfl) ?_
    refine va_get (D := D) (ci := 3) (v := .int (nI nT)) (C := RM) (T := FM) (N := 12) hx hb hT inM hown hK hP 0 rfl rfl 1 (by decide) (hT _ kM43) (fun _ h9 => h9) rfl dM_isTaster_6 ?_
    refine lv_icmp_ge (tgt := 16) hx hb dM_isTaster_9 (by decide) (fun h3 => ?_) (fun h3 => absurd e1 h3)
    refine lv_iconst (v := nI 0) hx hb dM_isTaster_16 (by decide) ?_
    exact W.zret (v := nI 0) hx hb hr (by decide) (fun t9 ht9 hW9 => ⟨congrArg (fun z => Outcome.returned (some (Value.int (nI z)))) ((q0 (Or.inr e1)).symm), ht9⟩) (fun q h => absurd h List.not_mem_nil) dM_isTaster_17
  · refine lv_iload_n hx hb dM_isTaster_0 rfl (lv_at hl 1 rfl) ?_
    refine x_zlt (a := j) (tgt := 16) hx hb dM_isTaster_1 (by decide) (by omega) ?_
    refine lv_iload_n hx hb dM_isTaster_4 rfl (lv_at hl 1 rfl) ?_
    refine lv_aload_n hx hb dM_isTaster_5 rfl (lv_at hl 0 rfl) ?_
    refine va_get (D := D) (ci := 3) (v := .int (nI nT)) (C := RM) (T := FM) (N := 12) hx hb hT inM hown hK hP 0 rfl rfl 1 (by decide) (hT _ kM43) (fun _ h9 => h9) rfl dM_isTaster_6 ?_
    refine x_cge (a := j) (b := nT) (tgt := 16) hx hb dM_isTaster_9 (by decide) (by omega) (by omega) (fun h5 => absurd h5 (by omega)) (fun h5 => ?_)
    refine lv_iconst (v := nI 1) hx hb dM_isTaster_12 (by decide) ?_
    refine lv_goto (tgt := 17) hx hb dM_isTaster_13 (by decide) ?_
    exact W.zret (v := nI 1) hx hb hr (by decide) (fun t9 ht9 hW9 => ⟨congrArg (fun z => Outcome.returned (some (Value.int (nI z)))) ((q1 j hj rfl).symm), ht9⟩) (fun q h => absurd h List.not_mem_nil) dM_isTaster_17
set_option maxHeartbeats 400000 in
set_option maxRecDepth 100000 in
theorem c_M_orders (l : Launch) (D : va_G) (κ : Nat → ClassId) (base : Nat) (H0 : Heap) {b : Nat} {nT : Nat} {nS : Nat} {th : Nat} {sd : Int64} {mk : Nat → Nat} {ms : Nat → Nat} (hP : va_P D vwCl [(b, .inr (3, [.long sd, .int (nI nT), .int (nI nS), .ref (b + 1), .ref (b + 2), .ref (b + 3), .ref (b + 4), .ref (b + 5), .ref (b + 6), .ref (b + 7), .ref (b + 8), .int (nI th)])), ((b + 1), .inl (κ 0, 40, .inl (fun j => nI (mk j)))), ((b + 2), .inl (κ 0, 40, .inl (fun j => nI (ms j))))] H0) (t : Nat) (ht : t < 40) (hok : okN (mk t) (ms t)) : Met l yM_orders wM_orders ({ frames := 0, cells := 0, slots := 0, locals := 0 }) (Pq D κ base [.ref b, .int (nI t)] H0) (q_P (some (.int (nI (cntO (mk t) (ms t)))))) 0 0 (fun _ => False) := by
  refine Met.ofW (cc := bM_orders) (maxL := 4) (ret := (some FieldType.int)) (by decide) rfl ?_
  intro p e s m args below meth c s₁ B hml hv
  obtain ⟨rfl, hH, hE⟩ := hv
  subst hH
  have hx := B.exec
  have hb := B.bytes
  have hr := B.returns
  have hT : ∀ w ∈ TT, w.before _ s = true := fun w h => atoms_spec (ws := wM_orders) B.pre w (List.mem_cons_of_mem _ h)
  have hown : s.vm.findClass "TasterPanelsModel" = some m.cls := findClass_of_methodNamed B.named
  have hlocks := B.notSynchronized
  have hK := hE.1
  have hS : va_S (fun q => base ≤ q) s.heap s.heap [] := va_S.rf
  have hAb : ∀ q : Nat, (fun q : Nat => base ≤ q) q → base ≤ q := fun _ h => h
  have hl := lv_entry ([.ref b, .int (nI t)]) (n := 4) (Nat.le_of_ble_eq_true rfl)
  rw [lg_entry_eq]
  generalize (lg_sl ([.ref b, .int (nI t)]) ++ List.replicate (4 - (lg_sl ([.ref b, .int (nI t)])).length) Slot.unset).toArray = ls at hl ⊢
  have hl : lv_has ls 4 [(0, .ref b), (1, .int (nI t))] := hl
  have hsp := hok.lt
  have loop : ∀ (fu : Nat) (k : Nat), (2 ≤ k) → (k ≤ ms t + 1) → 7 - k < fu → ∀ ls : Array Slot, lv_has ls 4 [(0, .ref b), (1, .int (nI t)), (2, .int (nI (facN (k - 1)))), (3, .int (nI k))] → W p l e (headSpec wM_orders ({ frames := 0, cells := 0, slots := 0, locals := 0 })).room s m ([.ref b, .int (nI t)] : List Value).toArray below meth c s.heap [] 0 0 (MQ below (q_P (some (.int (nI (cntO (mk t) (ms t)))))) ([.ref b, .int (nI t)] : List Value).toArray s 0 0 (fun _ => False)) (F0 m 4 ls []) := by
    intro fu
    induction fu with
    | zero =>
      intro k hk1 hk2 hmu
      exact absurd hmu (Nat.not_lt_zero _)
    | succ fu ih =>
      intro k hk1 hk2 hmu ls hl
      refine lv_iload_n hx hb dM_orders_4 rfl (lv_at hl 3 rfl) ?_
      refine lv_aload_n hx hb dM_orders_5 rfl (lv_at hl 0 rfl) ?_
      refine va_get (D := D) (ci := 3) (v := .ref (b + 2)) (C := RM) (T := FM) (N := 12) hx hb hT inM hown hK hP 0 rfl rfl 4 (by decide) (hT _ kM13) (fun _ h9 => h9) rfl dM_orders_6 ?_
      refine lv_iload_n hx hb dM_orders_9 rfl (lv_at hl 1 rfl) ?_
      refine x_iald hx hb hK hP 2 0 (j := t) (v := nI (ms t)) rfl rfl (by omega) (by decide) (rfl) dM_orders_10 ?_
      refine x_cgt (a := k) (b := ms t) (tgt := 24) hx hb dM_orders_11 (by decide) (by omega) (by omega) (fun g1 => ?_) (fun g1 => ?_)
      · have e1 : facN (k - 1) = facN (ms t) := by rw [show k - 1 = ms t by omega]
        have e2 := facN_ok (ms t) (by omega)
        refine lv_aload_n hx hb dM_orders_24 rfl (lv_at hl 0 rfl) ?_
        refine va_get (D := D) (ci := 3) (v := .ref (b + 1)) (C := RM) (T := FM) (N := 12) hx hb hT inM hown hK hP 0 rfl rfl 3 (by decide) (hT _ kM9) (fun _ h9 => h9) rfl dM_orders_25 ?_
        refine lv_iload_n hx hb dM_orders_28 rfl (lv_at hl 1 rfl) ?_
        refine x_iald hx hb hK hP 1 0 (j := t) (v := nI (mk t)) rfl rfl (by omega) (by decide) (rfl) dM_orders_29 ?_
        refine x_zne (a := mk t) (tgt := 38) hx hb dM_orders_30 (by decide) (by omega) (fun g2 => ?_) (fun g2 => ?_)
        · refine lv_aload_n hx hb dM_orders_38 rfl (lv_at hl 0 rfl) ?_
          refine va_get (D := D) (ci := 3) (v := .ref (b + 1)) (C := RM) (T := FM) (N := 12) hx hb hT inM hown hK hP 0 rfl rfl 3 (by decide) (hT _ kM9) (fun _ h9 => h9) rfl dM_orders_39 ?_
          refine lv_iload_n hx hb dM_orders_42 rfl (lv_at hl 1 rfl) ?_
          refine x_iald hx hb hK hP 1 0 (j := t) (v := nI (mk t)) rfl rfl (by omega) (by decide) (rfl) dM_orders_43 ?_
          refine lv_iconst (v := nI 1) hx hb dM_orders_44 (by decide) ?_
          refine x_cne (a := mk t) (b := 1) (tgt := 52) hx hb dM_orders_45 (by decide) (by omega) (by omega) (fun g3 => ?_) (fun g3 => ?_)
          · refine lv_aload_n hx hb dM_orders_52 rfl (lv_at hl 0 rfl) ?_
            refine va_get (D := D) (ci := 3) (v := .ref (b + 1)) (C := RM) (T := FM) (N := 12) hx hb hT inM hown hK hP 0 rfl rfl 3 (by decide) (hT _ kM9) (fun _ h9 => h9) rfl dM_orders_53 ?_
            refine lv_iload_n hx hb dM_orders_56 rfl (lv_at hl 1 rfl) ?_
            refine x_iald hx hb hK hP 1 0 (j := t) (v := nI (mk t)) rfl rfl (by omega) (by decide) (rfl) dM_orders_57 ?_
            refine lv_iconst (v := nI 2) hx hb dM_orders_58 (by decide) ?_
            refine x_cne (a := mk t) (b := 2) (tgt := 66) hx hb dM_orders_59 (by decide) (by omega) (by omega) (fun g4 => ?_) (fun g4 => ?_)
            · refine lv_iload_n hx hb dM_orders_66 rfl (lv_at hl 2 rfl) ?_
              refine x_topn (b := cntO (mk t) (ms t)) (by rw [cntO, if_neg g2, if_neg g3, if_neg g4, ← e2, e1]) ?_
              exact W.iret (v := nI (cntO (mk t) (ms t))) hx hb hr (fun t9 ht9 hW9 => ⟨rfl, ht9⟩) (fun q h => absurd h List.not_mem_nil) dM_orders_67
            · refine lv_iconst (v := nI 4) hx hb dM_orders_62 (by decide) ?_
              refine lv_goto (tgt := 67) hx hb dM_orders_63 (by decide) ?_
              refine x_topn (b := cntO (mk t) (ms t)) (by rw [cntO, if_neg g2, if_neg g3, if_pos g4]) ?_
              exact W.iret (v := nI (cntO (mk t) (ms t))) hx hb hr (fun t9 ht9 hW9 => ⟨rfl, ht9⟩) (fun q h => absurd h List.not_mem_nil) dM_orders_67
          · refine lv_iconst (v := nI 2) hx hb dM_orders_48 (by decide) ?_
            refine lv_goto (tgt := 67) hx hb dM_orders_49 (by decide) ?_
            refine x_topn (b := cntO (mk t) (ms t)) (by rw [cntO, if_neg g2, if_pos g3]) ?_
            exact W.iret (v := nI (cntO (mk t) (ms t))) hx hb hr (fun t9 ht9 hW9 => ⟨rfl, ht9⟩) (fun q h => absurd h List.not_mem_nil) dM_orders_67
        · refine lv_bipush (v := nI 6) hx hb dM_orders_33 (by decide) ?_
          refine lv_goto (tgt := 67) hx hb dM_orders_35 (by decide) ?_
          refine x_topn (b := cntO (mk t) (ms t)) (by rw [cntO, if_pos g2]) ?_
          exact W.iret (v := nI (cntO (mk t) (ms t))) hx hb hr (fun t9 ht9 hW9 => ⟨rfl, ht9⟩) (fun q h => absurd h List.not_mem_nil) dM_orders_67
      · obtain ⟨f4, f5⟩ := facN_b (k - 1) (by omega)
        refine lv_iload_n hx hb dM_orders_14 rfl (lv_at hl 2 rfl) ?_
        refine lv_iload_n hx hb dM_orders_15 rfl (lv_at hl 3 rfl) ?_
        refine x_imul (v := nI ((facN (k - 1)) * k)) hx hb dM_orders_16 (pk_mul _ _) ?_
        refine x_topn (b := facN (k + 1 - 1)) (by rw [show k + 1 - 1 = (k - 1) + 1 by omega, facN, show k - 1 + 1 = k by omega]) ?_
        refine lv_istore_n (lv' := [(2, .int (nI (facN (k + 1 - 1)))), (0, .ref b), (1, .int (nI t)), (3, .int (nI k))]) hx hb dM_orders_17 rfl hl (by decide) rfl (fun ls hl => ?_)
        refine lv_iinc (v := nI (k + 1)) (lv' := [(3, .int (nI (k + 1))), (2, .int (nI (facN (k + 1 - 1)))), (0, .ref b), (1, .int (nI t))]) hx hb dM_orders_18 hl (k := 3) rfl (nI_add _ _) (by decide) rfl (fun ls hl => ?_)
        refine lv_goto (tgt := 4) hx hb dM_orders_21 (by decide) ?_
        exact ih (k + 1) (by omega) (by omega) (by omega) ls (lv_sub hl [2, 3, 1, 0] rfl)
  refine lv_iconst (v := nI 1) hx hb dM_orders_0 (by decide) ?_
  refine x_topn (b := facN (2 - 1)) (rfl) ?_
  refine lv_istore_n (lv' := [(2, .int (nI (facN (2 - 1)))), (0, .ref b), (1, .int (nI t))]) hx hb dM_orders_1 rfl hl (by decide) rfl (fun ls hl => ?_)
  refine lv_iconst (v := nI 2) hx hb dM_orders_2 (by decide) ?_
  refine lv_istore_n (lv' := [(3, .int (nI 2)), (2, .int (nI (facN (2 - 1)))), (0, .ref b), (1, .int (nI t))]) hx hb dM_orders_3 rfl hl (by decide) rfl (fun ls hl => ?_)
  exact loop 6 2 (by omega) (by omega) (by omega) ls (lv_sub hl [2, 3, 1, 0] rfl)
set_option maxHeartbeats 400000 in
set_option maxRecDepth 100000 in
theorem c_M_served (l : Launch) (D : va_G) (κ : Nat → ClassId) (base : Nat) (H0 : Heap) {b : Nat} {nT : Nat} {nS : Nat} {th : Nat} {sd : Int64} {mk : Nat → Nat} {ms : Nat → Nat} (hP : va_P D vwCl [(b, .inr (3, [.long sd, .int (nI nT), .int (nI nS), .ref (b + 1), .ref (b + 2), .ref (b + 3), .ref (b + 4), .ref (b + 5), .ref (b + 6), .ref (b + 7), .ref (b + 8), .int (nI th)])), ((b + 1), .inl (κ 0, 40, .inl (fun j => nI (mk j)))), ((b + 2), .inl (κ 0, 40, .inl (fun j => nI (ms j))))] H0) (t : Nat) (ht : t < 40) (hok : okN (mk t) (ms t)) : Met l yM_served wM_served ({ frames := 0, cells := 0, slots := 0, locals := 0 }) (Pq D κ base [.ref b, .int (nI t)] H0) (q_P (some (.int (nI (srvN (mk t) (ms t)))))) 0 0 (fun _ => False) := by
  refine Met.ofW (cc := bM_served) (maxL := 2) (ret := (some FieldType.int)) (by decide) rfl ?_
  intro p e s m args below meth c s₁ B hml hv
  obtain ⟨rfl, hH, hE⟩ := hv
  subst hH
  have hx := B.exec
  have hb := B.bytes
  have hr := B.returns
  have hT : ∀ w ∈ TT, w.before _ s = true := fun w h => atoms_spec (ws := wM_served) B.pre w (List.mem_cons_of_mem _ h)
  have hown : s.vm.findClass "TasterPanelsModel" = some m.cls := findClass_of_methodNamed B.named
  have hlocks := B.notSynchronized
  have hK := hE.1
  have hS : va_S (fun q => base ≤ q) s.heap s.heap [] := va_S.rf
  have hAb : ∀ q : Nat, (fun q : Nat => base ≤ q) q → base ≤ q := fun _ h => h
  have hl := lv_entry ([.ref b, .int (nI t)]) (n := 2) (Nat.le_of_ble_eq_true rfl)
  rw [lg_entry_eq]
  generalize (lg_sl ([.ref b, .int (nI t)]) ++ List.replicate (2 - (lg_sl ([.ref b, .int (nI t)])).length) Slot.unset).toArray = ls at hl ⊢
  have hl : lv_has ls 2 [(0, .ref b), (1, .int (nI t))] := hl
  have hsp := hok.lt
  refine lv_aload_n hx hb dM_served_0 rfl (lv_at hl 0 rfl) ?_
  refine va_get (D := D) (ci := 3) (v := .ref (b + 1)) (C := RM) (T := FM) (N := 12) hx hb hT inM hown hK hP 0 rfl rfl 3 (by decide) (hT _ kM9) (fun _ h9 => h9) rfl dM_served_1 ?_
  refine lv_iload_n hx hb dM_served_4 rfl (lv_at hl 1 rfl) ?_
  refine x_iald hx hb hK hP 1 0 (j := t) (v := nI (mk t)) rfl rfl (by omega) (by decide) (rfl) dM_served_5 ?_
  refine lv_iconst (v := nI 1) hx hb dM_served_6 (by decide) ?_
  refine x_cne (a := mk t) (b := 1) (tgt := 14) hx hb dM_served_7 (by decide) (by omega) (by omega) (fun g1 => ?_) (fun g1 => ?_)
  · refine lv_aload_n hx hb dM_served_14 rfl (lv_at hl 0 rfl) ?_
    refine va_get (D := D) (ci := 3) (v := .ref (b + 1)) (C := RM) (T := FM) (N := 12) hx hb hT inM hown hK hP 0 rfl rfl 3 (by decide) (hT _ kM9) (fun _ h9 => h9) rfl dM_served_15 ?_
    refine lv_iload_n hx hb dM_served_18 rfl (lv_at hl 1 rfl) ?_
    refine x_iald hx hb hK hP 1 0 (j := t) (v := nI (mk t)) rfl rfl (by omega) (by decide) (rfl) dM_served_19 ?_
    refine lv_iconst (v := nI 3) hx hb dM_served_20 (by decide) ?_
    refine x_cne (a := mk t) (b := 3) (tgt := 33) hx hb dM_served_21 (by decide) (by omega) (by omega) (fun g2 => ?_) (fun g2 => ?_)
    · refine lv_iconst (v := nI 3) hx hb dM_served_33 (by decide) ?_
      refine x_topn (b := srvN (mk t) (ms t)) (by unfold srvN; rcases hok with h | h | h <;> split <;> omega) ?_
      exact W.iret (v := nI (srvN (mk t) (ms t))) hx hb hr (fun t9 ht9 hW9 => ⟨rfl, ht9⟩) (fun q h => absurd h List.not_mem_nil) dM_served_34
    · refine lv_aload_n hx hb dM_served_24 rfl (lv_at hl 0 rfl) ?_
      refine va_get (D := D) (ci := 3) (v := .ref (b + 2)) (C := RM) (T := FM) (N := 12) hx hb hT inM hown hK hP 0 rfl rfl 4 (by decide) (hT _ kM13) (fun _ h9 => h9) rfl dM_served_25 ?_
      refine lv_iload_n hx hb dM_served_28 rfl (lv_at hl 1 rfl) ?_
      refine x_iald hx hb hK hP 2 0 (j := t) (v := nI (ms t)) rfl rfl (by omega) (by decide) (rfl) dM_served_29 ?_
      refine lv_goto (tgt := 34) hx hb dM_served_30 (by decide) ?_
      refine x_topn (b := srvN (mk t) (ms t)) (by unfold srvN; rcases hok with h | h | h <;> split <;> omega) ?_
      exact W.iret (v := nI (srvN (mk t) (ms t))) hx hb hr (fun t9 ht9 hW9 => ⟨rfl, ht9⟩) (fun q h => absurd h List.not_mem_nil) dM_served_34
  · refine lv_iconst (v := nI 2) hx hb dM_served_10 (by decide) ?_
    refine lv_goto (tgt := 34) hx hb dM_served_11 (by decide) ?_
    refine x_topn (b := srvN (mk t) (ms t)) (by unfold srvN; rcases hok with h | h | h <;> split <;> omega) ?_
    exact W.iret (v := nI (srvN (mk t) (ms t))) hx hb hr (fun t9 ht9 hW9 => ⟨rfl, ht9⟩) (fun q h => absurd h List.not_mem_nil) dM_served_34
set_option maxHeartbeats 400000 in
set_option maxRecDepth 100000 in
theorem c_M_first (l : Launch) (D : va_G) (κ : Nat → ClassId) (base : Nat) (H0 : Heap) {b : Nat} {nT : Nat} {nS : Nat} {th : Nat} {sd : Int64} {mk : Nat → Nat} (hP : va_P D vwCl [(b, .inr (3, [.long sd, .int (nI nT), .int (nI nS), .ref (b + 1), .ref (b + 2), .ref (b + 3), .ref (b + 4), .ref (b + 5), .ref (b + 6), .ref (b + 7), .ref (b + 8), .int (nI th)])), ((b + 1), .inl (κ 0, 40, .inl (fun j => nI (mk j))))] H0) (t : Nat) (ht : t < 40) (hk4 : mk t < 4) : Met l yM_first wM_first ({ frames := 0, cells := 0, slots := 0, locals := 0 }) (Pq D κ base [.ref b, .int (nI t)] H0) (q_P (some (.int (nI (fstN (mk t)))))) 0 0 (fun _ => False) := by
  refine Met.ofW (cc := bM_first) (maxL := 2) (ret := (some FieldType.int)) (by decide) rfl ?_
  intro p e s m args below meth c s₁ B hml hv
  obtain ⟨rfl, hH, hE⟩ := hv
  subst hH
  have hx := B.exec
  have hb := B.bytes
  have hr := B.returns
  have hT : ∀ w ∈ TT, w.before _ s = true := fun w h => atoms_spec (ws := wM_first) B.pre w (List.mem_cons_of_mem _ h)
  have hown : s.vm.findClass "TasterPanelsModel" = some m.cls := findClass_of_methodNamed B.named
  have hlocks := B.notSynchronized
  have hK := hE.1
  have hS : va_S (fun q => base ≤ q) s.heap s.heap [] := va_S.rf
  have hAb : ∀ q : Nat, (fun q : Nat => base ≤ q) q → base ≤ q := fun _ h => h
  have hl := lv_entry ([.ref b, .int (nI t)]) (n := 2) (Nat.le_of_ble_eq_true rfl)
  rw [lg_entry_eq]
  generalize (lg_sl ([.ref b, .int (nI t)]) ++ List.replicate (2 - (lg_sl ([.ref b, .int (nI t)])).length) Slot.unset).toArray = ls at hl ⊢
  have hl : lv_has ls 2 [(0, .ref b), (1, .int (nI t))] := hl
  refine lv_aload_n hx hb dM_first_0 rfl (lv_at hl 0 rfl) ?_
  refine va_get (D := D) (ci := 3) (v := .ref (b + 1)) (C := RM) (T := FM) (N := 12) hx hb hT inM hown hK hP 0 rfl rfl 3 (by decide) (hT _ kM9) (fun _ h9 => h9) rfl dM_first_1 ?_
  refine lv_iload_n hx hb dM_first_4 rfl (lv_at hl 1 rfl) ?_
  refine x_iald hx hb hK hP 1 0 (j := t) (v := nI (mk t)) rfl rfl (by omega) (by decide) (rfl) dM_first_5 ?_
  refine x_zne (a := mk t) (tgt := 13) hx hb dM_first_6 (by decide) (by omega) (fun g1 => ?_) (fun g1 => ?_)
  · refine lv_aload_n hx hb dM_first_13 rfl (lv_at hl 0 rfl) ?_
    refine va_get (D := D) (ci := 3) (v := .ref (b + 1)) (C := RM) (T := FM) (N := 12) hx hb hT inM hown hK hP 0 rfl rfl 3 (by decide) (hT _ kM9) (fun _ h9 => h9) rfl dM_first_14 ?_
    refine lv_iload_n hx hb dM_first_17 rfl (lv_at hl 1 rfl) ?_
    refine x_iald hx hb hK hP 1 0 (j := t) (v := nI (mk t)) rfl rfl (by omega) (by decide) (rfl) dM_first_18 ?_
    refine lv_iconst (v := nI 1) hx hb dM_first_19 (by decide) ?_
    refine x_cne (a := mk t) (b := 1) (tgt := 28) hx hb dM_first_20 (by decide) (by omega) (by omega) (fun g2 => ?_) (fun g2 => ?_)
    · refine lv_bipush (v := nI 8) hx hb dM_first_28 (by decide) ?_
      refine x_topn (b := fstN (mk t)) (by rw [fstN, if_neg g1, if_neg g2]) ?_
      exact W.iret (v := nI (fstN (mk t))) hx hb hr (fun t9 ht9 hW9 => ⟨rfl, ht9⟩) (fun q h => absurd h List.not_mem_nil) dM_first_30
    · refine lv_bipush (v := nI 6) hx hb dM_first_23 (by decide) ?_
      refine lv_goto (tgt := 30) hx hb dM_first_25 (by decide) ?_
      refine x_topn (b := fstN (mk t)) (by rw [fstN, if_neg g1, if_pos g2]) ?_
      exact W.iret (v := nI (fstN (mk t))) hx hb hr (fun t9 ht9 hW9 => ⟨rfl, ht9⟩) (fun q h => absurd h List.not_mem_nil) dM_first_30
  · refine lv_iconst (v := nI 0) hx hb dM_first_9 (by decide) ?_
    refine lv_goto (tgt := 30) hx hb dM_first_10 (by decide) ?_
    refine x_topn (b := fstN (mk t)) (by rw [fstN, if_pos g1]) ?_
    exact W.iret (v := nI (fstN (mk t))) hx hb hr (fun t9 ht9 hW9 => ⟨rfl, ht9⟩) (fun q h => absurd h List.not_mem_nil) dM_first_30
set_option maxHeartbeats 400000 in
set_option maxRecDepth 100000 in
theorem c_M_answered (l : Launch) (D : va_G) (κ : Nat → ClassId) (base : Nat) (H0 : Heap) {b : Nat} {nT : Nat} {nS : Nat} {th : Nat} {sd : Int64} {ma : Nat → Nat} (hP : va_P D vwCl [(b, .inr (3, [.long sd, .int (nI nT), .int (nI nS), .ref (b + 1), .ref (b + 2), .ref (b + 3), .ref (b + 4), .ref (b + 5), .ref (b + 6), .ref (b + 7), .ref (b + 8), .int (nI th)])), ((b + 3), .inl (κ 0, 1040, .inl (fun x => nI (ma x))))] H0) (hn : nT ≤ 26) (hma : ∀ x, x < 1040 → ma x ≤ 5) (t : Nat) (ht : t < 40) : Met l yM_answered wM_answered ({ frames := 0, cells := 0, slots := 0, locals := 0 }) (Pq D κ base [.ref b, .int (nI t)] H0) (q_P (some (.int (nI (cnA ma t nT))))) 0 0 (fun _ => False) := by
  refine Met.ofW (cc := bM_answered) (maxL := 4) (ret := (some FieldType.int)) (by decide) rfl ?_
  intro p e s m args below meth c s₁ B hml hv
  obtain ⟨rfl, hH, hE⟩ := hv
  subst hH
  have hx := B.exec
  have hb := B.bytes
  have hr := B.returns
  have hT : ∀ w ∈ TT, w.before _ s = true := fun w h => atoms_spec (ws := wM_answered) B.pre w (List.mem_cons_of_mem _ h)
  have hown : s.vm.findClass "TasterPanelsModel" = some m.cls := findClass_of_methodNamed B.named
  have hlocks := B.notSynchronized
  have hK := hE.1
  have hS : va_S (fun q => base ≤ q) s.heap s.heap [] := va_S.rf
  have hAb : ∀ q : Nat, (fun q : Nat => base ≤ q) q → base ≤ q := fun _ h => h
  have hl := lv_entry ([.ref b, .int (nI t)]) (n := 4) (Nat.le_of_ble_eq_true rfl)
  rw [lg_entry_eq]
  generalize (lg_sl ([.ref b, .int (nI t)]) ++ List.replicate (4 - (lg_sl ([.ref b, .int (nI t)])).length) Slot.unset).toArray = ls at hl ⊢
  have hl : lv_has ls 4 [(0, .ref b), (1, .int (nI t))] := hl
  have loop : ∀ (fu : Nat) (pp : Nat), (pp ≤ nT) → nT - pp < fu → ∀ ls : Array Slot, lv_has ls 4 [(0, .ref b), (1, .int (nI t)), (2, .int (nI (cnA ma t pp))), (3, .int (nI pp))] → W p l e (headSpec wM_answered ({ frames := 0, cells := 0, slots := 0, locals := 0 })).room s m ([.ref b, .int (nI t)] : List Value).toArray below meth c s.heap [] 0 0 (MQ below (q_P (some (.int (nI (cnA ma t nT))))) ([.ref b, .int (nI t)] : List Value).toArray s 0 0 (fun _ => False)) (F0 m 4 ls []) := by
    intro fu
    induction fu with
    | zero =>
      intro pp hp hmu
      exact absurd hmu (Nat.not_lt_zero _)
    | succ fu ih =>
      intro pp hp hmu ls hl
      have hc := cnA_le ma t pp
      refine lv_iload_n hx hb dM_answered_4 rfl (lv_at hl 3 rfl) ?_
      refine lv_aload_n hx hb dM_answered_5 rfl (lv_at hl 0 rfl) ?_
      refine va_get (D := D) (ci := 3) (v := .int (nI nT)) (C := RM) (T := FM) (N := 12) hx hb hT inM hown hK hP 0 rfl rfl 1 (by decide) (hT _ kM43) (fun _ h9 => h9) rfl dM_answered_6 ?_
      refine x_cge (a := pp) (b := nT) (tgt := 40) hx hb dM_answered_9 (by decide) (by omega) (by omega) (fun g1 => ?_) (fun g1 => ?_)
      · have e1 : pp = nT := by omega
        subst e1
        refine lv_iload_n hx hb dM_answered_40 rfl (lv_at hl 2 rfl) ?_
        exact W.iret (v := nI (cnA ma t pp)) hx hb hr (fun t9 ht9 hW9 => ⟨rfl, ht9⟩) (fun q h => absurd h List.not_mem_nil) dM_answered_41
      · have hb9 := hma (26 * t + pp) (by omega)
        refine lv_iload_n hx hb dM_answered_12 rfl (lv_at hl 2 rfl) ?_
        refine lv_aload_n hx hb dM_answered_13 rfl (lv_at hl 0 rfl) ?_
        refine va_get (D := D) (ci := 3) (v := .ref (b + 3)) (C := RM) (T := FM) (N := 12) hx hb hT inM hown hK hP 0 rfl rfl 5 (by decide) (hT _ kM16) (fun _ h9 => h9) rfl dM_answered_14 ?_
        refine lv_bipush (v := nI 26) hx hb dM_answered_17 (by decide) ?_
        refine lv_iload_n hx hb dM_answered_19 rfl (lv_at hl 1 rfl) ?_
        refine x_imul (v := nI (26 * t)) hx hb dM_answered_20 (pk_mul _ _) ?_
        refine lv_iload_n hx hb dM_answered_21 rfl (lv_at hl 3 rfl) ?_
        refine x_iadd (v := nI ((26 * t) + pp)) hx hb dM_answered_22 (nI_add _ _) ?_
        refine x_iald hx hb hK hP 1 0 (j := (26 * t) + pp) (v := nI (ma ((26 * t) + pp))) rfl rfl (by omega) (by decide) (rfl) dM_answered_23 ?_
        refine x_zle (a := ma ((26 * t) + pp)) (tgt := 31) hx hb dM_answered_24 (by decide) (by omega) (fun g2 => ?_) (fun g2 => ?_)
        · refine lv_iconst (v := nI 0) hx hb dM_answered_31 (by decide) ?_
          refine x_iadd (v := nI ((cnA ma t pp) + 0)) hx hb dM_answered_32 (nI_add _ _) ?_
          refine x_topn (b := cnA ma t (pp + 1)) (by rw [cnA, if_neg (by omega)]) ?_
          refine lv_istore_n (lv' := [(2, .int (nI (cnA ma t (pp + 1)))), (0, .ref b), (1, .int (nI t)), (3, .int (nI pp))]) hx hb dM_answered_33 rfl hl (by decide) rfl (fun ls hl => ?_)
          refine lv_iinc (v := nI (pp + 1)) (lv' := [(3, .int (nI (pp + 1))), (2, .int (nI (cnA ma t (pp + 1)))), (0, .ref b), (1, .int (nI t))]) hx hb dM_answered_34 hl (k := 3) rfl (nI_add _ _) (by decide) rfl (fun ls hl => ?_)
          refine lv_goto (tgt := 4) hx hb dM_answered_37 (by decide) ?_
          exact ih (pp + 1) (by omega) (by omega) ls (lv_sub hl [2, 3, 1, 0] rfl)
        · refine lv_iconst (v := nI 1) hx hb dM_answered_27 (by decide) ?_
          refine lv_goto (tgt := 32) hx hb dM_answered_28 (by decide) ?_
          refine x_iadd (v := nI ((cnA ma t pp) + 1)) hx hb dM_answered_32 (nI_add _ _) ?_
          refine x_topn (b := cnA ma t (pp + 1)) (by rw [cnA, if_pos (by omega)]) ?_
          refine lv_istore_n (lv' := [(2, .int (nI (cnA ma t (pp + 1)))), (0, .ref b), (1, .int (nI t)), (3, .int (nI pp))]) hx hb dM_answered_33 rfl hl (by decide) rfl (fun ls hl => ?_)
          refine lv_iinc (v := nI (pp + 1)) (lv' := [(3, .int (nI (pp + 1))), (2, .int (nI (cnA ma t (pp + 1)))), (0, .ref b), (1, .int (nI t))]) hx hb dM_answered_34 hl (k := 3) rfl (nI_add _ _) (by decide) rfl (fun ls hl => ?_)
          refine lv_goto (tgt := 4) hx hb dM_answered_37 (by decide) ?_
          exact ih (pp + 1) (by omega) (by omega) ls (lv_sub hl [2, 3, 1, 0] rfl)
  refine lv_iconst (v := nI 0) hx hb dM_answered_0 (by decide) ?_
  refine lv_istore_n (lv' := [(2, .int (nI 0)), (0, .ref b), (1, .int (nI t))]) hx hb dM_answered_1 rfl hl (by decide) rfl (fun ls hl => ?_)
  refine lv_iconst (v := nI 0) hx hb dM_answered_2 (by decide) ?_
  refine lv_istore_n (lv' := [(3, .int (nI 0)), (2, .int (nI 0)), (0, .ref b), (1, .int (nI t))]) hx hb dM_answered_3 rfl hl (by decide) rfl (fun ls hl => ?_)
  exact loop (nT + 1) 0 (by omega) (by omega) ls (lv_sub hl [2, 3, 1, 0] rfl)
set_option maxHeartbeats 400000 in
set_option maxRecDepth 100000 in
theorem c_M_thrown (l : Launch) (D : va_G) (κ : Nat → ClassId) (base : Nat) (H0 : Heap) {b : Nat} {nT : Nat} {nS : Nat} {th : Nat} {sd : Int64} (hP : va_P D vwCl [(b, .inr (3, [.long sd, .int (nI nT), .int (nI nS), .ref (b + 1), .ref (b + 2), .ref (b + 3), .ref (b + 4), .ref (b + 5), .ref (b + 6), .ref (b + 7), .ref (b + 8), .int (nI th)]))] H0)  : Met l yM_thrown wM_thrown ({ frames := 0, cells := 0, slots := 0, locals := 0 }) (Pq D κ base [.ref b] H0) (q_P (some (.int (nI th)))) 0 0 (fun _ => False) := by
  refine Met.ofW (cc := bM_thrown) (maxL := 1) (ret := (some FieldType.int)) (by decide) rfl ?_
  intro p e s m args below meth c s₁ B hml hv
  obtain ⟨rfl, hH, hE⟩ := hv
  subst hH
  have hx := B.exec
  have hb := B.bytes
  have hr := B.returns
  have hT : ∀ w ∈ TT, w.before _ s = true := fun w h => atoms_spec (ws := wM_thrown) B.pre w (List.mem_cons_of_mem _ h)
  have hown : s.vm.findClass "TasterPanelsModel" = some m.cls := findClass_of_methodNamed B.named
  have hlocks := B.notSynchronized
  have hK := hE.1
  have hS : va_S (fun q => base ≤ q) s.heap s.heap [] := va_S.rf
  have hAb : ∀ q : Nat, (fun q : Nat => base ≤ q) q → base ≤ q := fun _ h => h
  have hl := lv_entry ([.ref b]) (n := 1) (Nat.le_of_ble_eq_true rfl)
  rw [lg_entry_eq]
  generalize (lg_sl ([.ref b]) ++ List.replicate (1 - (lg_sl ([.ref b])).length) Slot.unset).toArray = ls at hl ⊢
  have hl : lv_has ls 1 [(0, .ref b)] := hl
  refine lv_aload_n hx hb dM_thrown_0 rfl (lv_at hl 0 rfl) ?_
  refine va_get (D := D) (ci := 3) (v := .int (nI th)) (C := RM) (T := FM) (N := 12) hx hb hT inM hown hK hP 0 rfl rfl 11 (by decide) (hT _ kM39) (fun _ h9 => h9) rfl dM_thrown_1 ?_
  exact W.iret (v := nI th) hx hb hr (fun t9 ht9 hW9 => ⟨rfl, ht9⟩) (fun q h => absurd h List.not_mem_nil) dM_thrown_4
