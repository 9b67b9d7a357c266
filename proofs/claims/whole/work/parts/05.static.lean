/-! the class's pure static methods -/
theorem lN_ne0 {r : Nat} (h0 : 0 < r) (h : r < 2 ^ 63) : ¬ lN r = 0 := fun q => by
  have := (pk_lEQ h (by decide : 0 < 2 ^ 63)).mp q
  omega
theorem addm1 (y : Int32) : y + Int32.ofInt (-1) = y - 1 := by rw [Int32.sub_eq_add_neg]; rfl
theorem neg1_lt {r : Nat} (h : r < 2 ^ 31) : nI 0 - 1 < nI r := by
  rw [Int32.lt_iff_toInt_lt, nI_toInt h, show (nI 0 - 1).toInt = -1 by decide]
  omega
theorem out_of {x : Int32} (n : Nat) (hn : n < 2 ^ 31) (h : ∀ j : Nat, j ≤ n → ¬ x = nI j) : x.toInt < 0 ∨ (n : Int) < x.toInt := by
  by_cases h1 : x.toInt < 0
  · exact Or.inl h1
  · by_cases h2 : (n : Int) < x.toInt
    · exact Or.inr h2
    · exfalso
      refine h x.toInt.toNat (by omega) (Int32.toInt_inj.mp ?_)
      rw [nI_toInt (by omega)]
      omega
def pw_w (n pl : Nat) : Nat → Nat
  | 0 => 1
  | k + 1 => pw_w n pl k * (n - k) / (k + 1) * (pl - 1)
def pw_s (n pl : Nat) : Nat → Nat
  | 0 => 0
  | k + 1 => pw_s n pl k + pw_w n pl k
/-- of all pl ^ n ways to guess, those with at least r right, as the class reckons it -/
def pw_ways (r n pl : Nat) : Nat := pw_s n pl (n + 1 - r)
theorem pw_bd2 : ∀ n, n < 27 → ∀ k, k < 28 → pw_w n 2 k * 27 < 2 ^ 63 := by decide +kernel
theorem pw_bd3 : ∀ n, n < 27 → ∀ k, k < 28 → pw_w n 3 k * 27 < 2 ^ 63 := by decide +kernel
theorem pw_bd {n pl k : Nat} (hn : n < 27) (hp : pl = 2 ∨ pl = 3) (hk : k < 28) : pw_w n pl k * 27 < 2 ^ 63 := by
  rcases hp with rfl | rfl
  · exact pw_bd2 n hn k hk
  · exact pw_bd3 n hn k hk
theorem pw_bdx {n pl k x : Nat} (hn : n < 27) (hp : pl = 2 ∨ pl = 3) (hk : k < 28) (hx : x ≤ 27) : pw_w n pl k * x < 2 ^ 63 :=
  Nat.lt_of_le_of_lt (Nat.mul_le_mul_left _ hx) (pw_bd hn hp hk)
def cd : Nat → Nat → Nat → Nat
  | 0, d, _ => d
  | f + 1, d, r => if r = 0 then d else cd f r (d % r)
theorem cd_pos : ∀ (f d r : Nat), 0 < d → 0 < cd f d r
  | 0, _, _, h => h
  | f + 1, d, r, h => by
    unfold cd
    split
    · exact h
    · exact cd_pos f r (d % r) (by omega)
theorem cd_lt : ∀ (f d r B : Nat), d < B → r < B → cd f d r < B
  | 0, _, _, _, h, _ => h
  | f + 1, d, r, B, h, h2 => by
    unfold cd
    split
    · exact h
    · exact cd_lt f r (d % r) B h2 (Nat.lt_of_le_of_lt (Nat.mod_le _ _) h)
theorem cd_z (f d : Nat) : cd f d 0 = d := by cases f <;> simp [cd]
theorem cd_s (f d r : Nat) (h : 0 < r) : cd (f + 1) d r = cd f r (d % r) := by rw [cd, if_neg (by omega)]
/-- the class's reducedPart -/
def rdp (a b part : Nat) : Nat := (if part = 0 then a else b) / cd 100 b a
/-- a step's strength -/
def strv (k : Nat) : UInt64 := FP.ddiv (FP.i2d (nI 1 <<< (nI k &&& 31))) 4620693217682128896
theorem strv_ok : ∀ k, k < 16 → strv k &&& 0x7fffffffffffffff ≤ 0x7ff0000000000000 := by decide +kernel
/-- which kinds and numbers of samples make a test -/
def okK (k n : Int32) : Bool := decide ((k = 0 ∧ n = 3) ∨ ((k = 1 ∨ k = 2) ∧ n = 2) ∨ (k = 3 ∧ 2 ≤ n ∧ n ≤ 5))
def usI : Nat → Int32 → Int32 → Nat → Int32
  | 0, _, _, _ => -1
  | f + 1, u, lf, sm => if (u >>> (nI sm &&& 31)) &&& nI 1 = 0 then (if lf = 0 then nI sm else usI f u (lf + (-1)) (sm + 1)) else usI f u lf (sm + 1)
def siI (n : Nat) : Nat → Nat → Int32 → Nat → Int32 → Int32
  | 0, _, _, _, sm => sm
  | f + 1, j, u, rs, _ => siI n f (j + 1) (u ||| (nI 1 <<< (usI 5 u (nI (rs / tFACT.getD (n - 1 - j) 0)) 0 &&& 31))) (rs % tFACT.getD (n - 1 - j) 0) (usI 5 u (nI (rs / tFACT.getD (n - 1 - j) 0)) 0)
theorem fact_ok : ∀ i, i < 6 → 0 < tFACT.getD i 0 ∧ tFACT.getD i 0 < 200 := by decide
set_option maxHeartbeats 400000 in
set_option maxRecDepth 100000 in
theorem c_P_power (l : Launch) (D : va_G) (κ : Nat → ClassId) (base : Nat) (H0 : Heap) (b t : Nat) (h1 : b < 2 ^ 31) (h2 : t < 2 ^ 31) : Met l yP_power wP_power ({ frames := 0, cells := 0, slots := 0, locals := 0 }) (Pq D κ base [.int (nI b), .int (nI t)] H0) (q_P (some (.long (lN (b ^ t))))) 0 0 (fun _ => False) := by
  refine Met.ofW (cc := bP_power) (maxL := 5) (ret := (some FieldType.long)) (by decide) rfl ?_
  intro p e s m args below meth c s₁ B hml hv
  obtain ⟨rfl, hH, hE⟩ := hv
  subst hH
  have hx := B.exec
  have hb := B.bytes
  have hr := B.returns
  have hT : ∀ w ∈ TT, w.before _ s = true := fun w h => atoms_spec (ws := wP_power) B.pre w (List.mem_cons_of_mem _ h)
  have hown : s.vm.findClass "TasterPanels" = some m.cls := findClass_of_methodNamed B.named
  have hlocks := B.notSynchronized
  have hK := hE.1
  have hS : va_S (fun q => base ≤ q) s.heap s.heap [] := va_S.rf
  have hAb : ∀ q : Nat, (fun q : Nat => base ≤ q) q → base ≤ q := fun _ h => h
  have hl := lv_entry ([.int (nI b), .int (nI t)]) (n := 5) (Nat.le_of_ble_eq_true rfl)
  rw [lg_entry_eq]
  generalize (lg_sl ([.int (nI b), .int (nI t)]) ++ List.replicate (5 - (lg_sl ([.int (nI b), .int (nI t)])).length) Slot.unset).toArray = ls at hl ⊢
  have hl : lv_has ls 5 [(0, .int (nI b)), (1, .int (nI t))] := hl
  have loop : ∀ (fu : Nat) (i : Nat), (i ≤ t) → t - i < fu → ∀ ls : Array Slot, lv_has ls 5 [(0, .int (nI b)), (1, .int (nI t)), (2, .long (lN (b ^ i))), (4, .int (nI i))] → W p l e (headSpec wP_power ({ frames := 0, cells := 0, slots := 0, locals := 0 })).room s m ([.int (nI b), .int (nI t)] : List Value).toArray below meth c s.heap [] 0 0 (MQ below (q_P (some (.long (lN (b ^ t))))) ([.int (nI b), .int (nI t)] : List Value).toArray s 0 0 (fun _ => False)) (F0 m 5 ls []) := by
    intro fu
    induction fu with
    | zero =>
      intro i hi hmu
      exact absurd hmu (Nat.not_lt_zero _)
    | succ fu ih =>
      intro i hi hmu ls hl
      refine lv_iload hx hb dP_power_5 (lv_at hl 3 rfl) ?_
      refine lv_iload_n hx hb dP_power_7 rfl (lv_at hl 1 rfl) ?_
      refine x_cge (a := i) (b := t) (tgt := 22) hx hb dP_power_8 (by decide) (by omega) (by omega) (fun h1 => ?_) (fun h1 => ?_)
      · have e1 : i = t := by omega
        subst e1
        refine lv_lload_n hx hb dP_power_22 rfl (lv_at hl 2 rfl) ?_
        exact W.lret (v := lN (b ^ i)) hx hb hr (fun t9 ht9 hW9 => ⟨rfl, ht9⟩) (fun q h => absurd h List.not_mem_nil) dP_power_23
      · refine lv_lload_n hx hb dP_power_11 rfl (lv_at hl 2 rfl) ?_
        refine lv_iload_n hx hb dP_power_12 rfl (lv_at hl 0 rfl) ?_
        refine lv_i2l (v := lN b) hx hb dP_power_13 (nI_l (by omega)) ?_
        refine x_lmul (v := lN ((b ^ i) * b)) hx hb dP_power_14 (lN_mul _ _) ?_
        refine x_topl (y := lN (b ^ (i + 1))) (by rw [Nat.pow_succ]) ?_
        refine lv_lstore_n (lv' := [(2, .long (lN (b ^ (i + 1)))), (0, .int (nI b)), (1, .int (nI t)), (4, .int (nI i))]) hx hb dP_power_15 rfl hl (by decide) rfl (fun ls hl => ?_)
        refine lv_iinc (v := nI (i + 1)) (lv' := [(4, .int (nI (i + 1))), (2, .long (lN (b ^ (i + 1)))), (0, .int (nI b)), (1, .int (nI t))]) hx hb dP_power_16 hl (k := 3) rfl (nI_add _ _) (by decide) rfl (fun ls hl => ?_)
        refine lv_goto (tgt := 5) hx hb dP_power_19 (by decide) ?_
        exact ih (i + 1) (by omega) (by omega) ls (lv_sub hl [2, 3, 1, 0] rfl)
  refine lv_lconst (v := lN 1) hx hb dP_power_0 (by decide) ?_
  refine lv_lstore_n (lv' := [(2, .long (lN 1)), (0, .int (nI b)), (1, .int (nI t))]) hx hb dP_power_1 rfl hl (by decide) rfl (fun ls hl => ?_)
  refine lv_iconst (v := nI 0) hx hb dP_power_2 (by decide) ?_
  refine lv_istore (lv' := [(4, .int (nI 0)), (2, .long (lN 1)), (0, .int (nI b)), (1, .int (nI t))]) hx hb dP_power_3 hl (by decide) rfl (fun ls hl => ?_)
  exact loop (t + 1) 0 (Nat.zero_le _) (by omega) ls (lv_sub hl [2, 3, 1, 0] rfl)
set_option maxHeartbeats 400000 in
set_option maxRecDepth 100000 in
theorem c_P_isPart (l : Launch) (D : va_G) (κ : Nat → ClassId) (base : Nat) (H0 : Heap) (x : Int32) (r : Nat) (hr0 : r = if x = 0 ∨ x = 1 then 1 else 0) : Met l yP_isPart wP_isPart ({ frames := 0, cells := 0, slots := 0, locals := 0 }) (Pq D κ base [.int x] H0) (q_P (some (.int (nI r)))) 0 0 (fun _ => False) := by
  refine Met.ofW (cc := bP_isPart) (maxL := 1) (ret := (some FieldType.boolean)) (by decide) rfl ?_
  intro p e s m args below meth c s₁ B hml hv
  obtain ⟨rfl, hH, hE⟩ := hv
  subst hH
  have hx := B.exec
  have hb := B.bytes
  have hr := B.returns
  have hT : ∀ w ∈ TT, w.before _ s = true := fun w h => atoms_spec (ws := wP_isPart) B.pre w (List.mem_cons_of_mem _ h)
  have hown : s.vm.findClass "TasterPanels" = some m.cls := findClass_of_methodNamed B.named
  have hlocks := B.notSynchronized
  have hK := hE.1
  have hS : va_S (fun q => base ≤ q) s.heap s.heap [] := va_S.rf
  have hAb : ∀ q : Nat, (fun q : Nat => base ≤ q) q → base ≤ q := fun _ h => h
  have hl := lv_entry ([.int x]) (n := 1) (Nat.le_of_ble_eq_true rfl)
  rw [lg_entry_eq]
  generalize (lg_sl ([.int x]) ++ List.replicate (1 - (lg_sl ([.int x])).length) Slot.unset).toArray = ls at hl ⊢
  have hl : lv_has ls 1 [(0, .int x)] := hl
  refine lv_iload_n hx hb dP_isPart_0 rfl (lv_at hl 0 rfl) ?_
  refine lv_if_eq (tgt := 9) hx hb dP_isPart_1 (by decide) (fun h1 => ?_) (fun h1 => ?_)
  · refine lv_iconst (v := nI 1) hx hb dP_isPart_9 (by decide) ?_
    refine lv_goto (tgt := 14) hx hb dP_isPart_10 (by decide) ?_
    exact W.zret (v := nI 1) hx hb hr (by decide) (fun t9 ht9 hW9 => ⟨congrArg (fun z => Outcome.returned (some (Value.int (nI z)))) (by rw [hr0, if_pos (Or.inl h1)]), ht9⟩) (fun q h => absurd h List.not_mem_nil) dP_isPart_14
  · refine lv_iload_n hx hb dP_isPart_4 rfl (lv_at hl 0 rfl) ?_
    refine lv_iconst (v := nI 1) hx hb dP_isPart_5 (by decide) ?_
    refine lv_icmp_ne (tgt := 13) hx hb dP_isPart_6 (by decide) (fun h2 => ?_) (fun h2 => ?_)
    · refine lv_iconst (v := nI 0) hx hb dP_isPart_13 (by decide) ?_
      exact W.zret (v := nI 0) hx hb hr (by decide) (fun t9 ht9 hW9 => ⟨congrArg (fun z => Outcome.returned (some (Value.int (nI z)))) (by rw [hr0, if_neg (by intro q; rcases q with q | q; exact h1 q; exact h2 q)]), ht9⟩) (fun q h => absurd h List.not_mem_nil) dP_isPart_14
    · refine lv_iconst (v := nI 1) hx hb dP_isPart_9 (by decide) ?_
      refine lv_goto (tgt := 14) hx hb dP_isPart_10 (by decide) ?_
      exact W.zret (v := nI 1) hx hb hr (by decide) (fun t9 ht9 hW9 => ⟨congrArg (fun z => Outcome.returned (some (Value.int (nI z)))) (by rw [hr0, if_pos (Or.inr (show x = 1 from h2))]), ht9⟩) (fun q h => absurd h List.not_mem_nil) dP_isPart_14
set_option maxHeartbeats 400000 in
set_option maxRecDepth 100000 in
theorem c_P_commonDivisor (l : Launch) (D : va_G) (κ : Nat → ClassId) (base : Nat) (H0 : Heap) (a b : Nat) (ha : a < 2 ^ 63) (hb0 : b < 2 ^ 63) : Met l yP_commonDivisor wP_commonDivisor ({ frames := 0, cells := 0, slots := 0, locals := 0 }) (Pq D κ base [.long (lN a), .long (lN b)] H0) (q_P (some (.long (lN (cd 100 b a))))) 0 0 (fun _ => False) := by
  refine Met.ofW (cc := bP_commonDivisor) (maxL := 11) (ret := (some FieldType.long)) (by decide) rfl ?_
  intro p e s m args below meth c s₁ B hml hv
  obtain ⟨rfl, hH, hE⟩ := hv
  subst hH
  have hx := B.exec
  have hb := B.bytes
  have hr := B.returns
  have hT : ∀ w ∈ TT, w.before _ s = true := fun w h => atoms_spec (ws := wP_commonDivisor) B.pre w (List.mem_cons_of_mem _ h)
  have hown : s.vm.findClass "TasterPanels" = some m.cls := findClass_of_methodNamed B.named
  have hlocks := B.notSynchronized
  have hK := hE.1
  have hS : va_S (fun q => base ≤ q) s.heap s.heap [] := va_S.rf
  have hAb : ∀ q : Nat, (fun q : Nat => base ≤ q) q → base ≤ q := fun _ h => h
  have hl := lv_entry ([.long (lN a), .long (lN b)]) (n := 11) (Nat.le_of_ble_eq_true rfl)
  rw [lg_entry_eq]
  generalize (lg_sl ([.long (lN a), .long (lN b)]) ++ List.replicate (11 - (lg_sl ([.long (lN a), .long (lN b)])).length) Slot.unset).toArray = ls at hl ⊢
  have hl : lv_has ls 11 [(0, .long (lN a)), (2, .long (lN b))] := hl
  have loop : ∀ (fu : Nat) (j d r : Nat), (j ≤ 100) → (d < 2 ^ 63) → (r < 2 ^ 63) → (cd (100 - j) d r = cd 100 b a) → 100 - j < fu → ∀ ls : Array Slot, lv_has ls 11 [(0, .long (lN a)), (2, .long (lN b)), (4, .long (lN d)), (6, .long (lN r)), (8, .int (nI j))] → W p l e (headSpec wP_commonDivisor ({ frames := 0, cells := 0, slots := 0, locals := 0 })).room s m ([.long (lN a), .long (lN b)] : List Value).toArray below meth c s.heap [] 0 0 (MQ below (q_P (some (.long (lN (cd 100 b a))))) ([.long (lN a), .long (lN b)] : List Value).toArray s 0 0 (fun _ => False)) (F0 m 9 ls []) := by
    intro fu
    induction fu with
    | zero =>
      intro j d r hj hd hr1 heq hmu
      exact absurd hmu (Nat.not_lt_zero _)
    | succ fu ih =>
      intro j d r hj hd hr1 heq hmu ls hl
      refine lv_iload hx hb dP_commonDivisor_9 (lv_at hl 4 rfl) ?_
      refine lv_bipush (v := nI 100) hx hb dP_commonDivisor_11 (by decide) ?_
      refine x_cge (a := j) (b := 100) (tgt := 44) hx hb dP_commonDivisor_13 (by decide) (by omega) (by omega) (fun h1 => ?_) (fun h1 => ?_)
      · refine lv_lload hx hb dP_commonDivisor_44 (lv_at hl 2 rfl) ?_
        refine x_topl (y := lN (cd 100 b a)) (by rw [← heq, show 100 - j = 0 by omega]; rfl) ?_
        exact W.lret (v := lN (cd 100 b a)) hx hb hr (fun t9 ht9 hW9 => ⟨rfl, ht9⟩) (fun q h => absurd h List.not_mem_nil) dP_commonDivisor_46
      · refine lv_lload hx hb dP_commonDivisor_16 (lv_at hl 3 rfl) ?_
        refine lv_lconst (v := lN 0) hx hb dP_commonDivisor_18 (by decide) ?_
        refine x_leq (tgt := 44) hx hb dP_commonDivisor_19 dP_commonDivisor_20 (by decide) (fun h2 => ?_) (fun h2 => ?_)
        · refine lv_lload hx hb dP_commonDivisor_44 (lv_at hl 2 rfl) ?_
          refine x_topl (y := lN (cd 100 b a)) (by have e2 := (pk_lEQ hr1 (by decide : 0 < 2 ^ 63)).mp h2; rw [← heq, e2, cd_z]) ?_
          exact W.lret (v := lN (cd 100 b a)) hx hb hr (fun t9 ht9 hW9 => ⟨rfl, ht9⟩) (fun q h => absurd h List.not_mem_nil) dP_commonDivisor_46
        · have hr0 : 0 < r := Nat.pos_of_ne_zero (fun q => h2 (by rw [q]))
          refine lv_lload hx hb dP_commonDivisor_23 (lv_at hl 2 rfl) ?_
          refine lv_lload hx hb dP_commonDivisor_25 (lv_at hl 3 rfl) ?_
          refine x_lrem (v := lN (d % r)) hx hb dP_commonDivisor_27 (lN_ne0 (by omega) (by omega)) (pk_lRem (by omega) (by omega) (by omega)) ?_
          refine lv_lstore (lv' := [(9, .long (lN (d % r))), (0, .long (lN a)), (2, .long (lN b)), (4, .long (lN d)), (6, .long (lN r)), (8, .int (nI j))]) hx hb dP_commonDivisor_28 hl (by decide) rfl (fun ls hl => ?_)
          refine lv_lload hx hb dP_commonDivisor_30 (lv_at hl 4 rfl) ?_
          refine lv_lstore (lv' := [(4, .long (lN r)), (9, .long (lN (d % r))), (0, .long (lN a)), (2, .long (lN b)), (6, .long (lN r)), (8, .int (nI j))]) hx hb dP_commonDivisor_32 hl (by decide) rfl (fun ls hl => ?_)
          refine lv_lload hx hb dP_commonDivisor_34 (lv_at hl 1 rfl) ?_
          refine lv_lstore (lv' := [(6, .long (lN (d % r))), (4, .long (lN r)), (9, .long (lN (d % r))), (0, .long (lN a)), (2, .long (lN b)), (8, .int (nI j))]) hx hb dP_commonDivisor_36 hl (by decide) rfl (fun ls hl => ?_)
          refine lv_iinc (v := nI (j + 1)) (lv' := [(8, .int (nI (j + 1))), (6, .long (lN (d % r))), (4, .long (lN r)), (9, .long (lN (d % r))), (0, .long (lN a)), (2, .long (lN b))]) hx hb dP_commonDivisor_38 hl (k := 5) rfl (nI_add _ _) (by decide) rfl (fun ls hl => ?_)
          refine lv_goto (tgt := 9) hx hb dP_commonDivisor_41 (by decide) ?_
          exact ih (j + 1) r (d % r) (by omega) hr1 (Nat.lt_of_le_of_lt (Nat.mod_le _ _) hd) (by rw [← heq, show 100 - j = (100 - (j + 1)) + 1 by omega, cd_s _ _ _ hr0]) (by omega) ls (lv_sub hl [4, 5, 2, 1, 0] rfl)
  refine lv_lload_n hx hb dP_commonDivisor_0 rfl (lv_at hl 1 rfl) ?_
  refine lv_lstore (lv' := [(4, .long (lN b)), (0, .long (lN a)), (2, .long (lN b))]) hx hb dP_commonDivisor_1 hl (by decide) rfl (fun ls hl => ?_)
  refine lv_lload_n hx hb dP_commonDivisor_3 rfl (lv_at hl 1 rfl) ?_
  refine lv_lstore (lv' := [(6, .long (lN a)), (4, .long (lN b)), (0, .long (lN a)), (2, .long (lN b))]) hx hb dP_commonDivisor_4 hl (by decide) rfl (fun ls hl => ?_)
  refine lv_iconst (v := nI 0) hx hb dP_commonDivisor_6 (by decide) ?_
  refine lv_istore (lv' := [(8, .int (nI 0)), (6, .long (lN a)), (4, .long (lN b)), (0, .long (lN a)), (2, .long (lN b))]) hx hb dP_commonDivisor_7 hl (by decide) rfl (fun ls hl => ?_)
  exact loop 101 0 b a (Nat.zero_le _) hb0 ha rfl (by omega) ls (lv_sub hl [3, 4, 2, 1, 0] rfl)
set_option maxHeartbeats 400000 in
set_option maxRecDepth 100000 in
theorem c_P_reducedPart (l : Launch) (D : va_G) (κ : Nat → ClassId) (base : Nat) (H0 : Heap) (a b q : Nat) (ha : a < 2 ^ 63) (hb0 : b < 2 ^ 63) (hb1 : 0 < b) (hq : q < 2) : Met l yP_reducedPart wP_reducedPart ({ frames := 1, cells := 0, slots := 0, locals := 30 }) (Pq D κ base [.long (lN a), .long (lN b), .int (nI q)] H0) (q_P (some (.long (lN (rdp a b q))))) 0 0 (fun _ => False) := by
  refine Met.ofW (cc := bP_reducedPart) (maxL := 7) (ret := (some FieldType.long)) (by decide) rfl ?_
  intro p e s m args below meth c s₁ B hml hv
  obtain ⟨rfl, hH, hE⟩ := hv
  subst hH
  have hx := B.exec
  have hb := B.bytes
  have hr := B.returns
  have hT : ∀ w ∈ TT, w.before _ s = true := fun w h => atoms_spec (ws := wP_reducedPart) B.pre w (List.mem_cons_of_mem _ h)
  have hown : s.vm.findClass "TasterPanels" = some m.cls := findClass_of_methodNamed B.named
  have hlocks := B.notSynchronized
  have hK := hE.1
  have hS : va_S (fun q => base ≤ q) s.heap s.heap [] := va_S.rf
  have hAb : ∀ q : Nat, (fun q : Nat => base ≤ q) q → base ≤ q := fun _ h => h
  have hl := lv_entry ([.long (lN a), .long (lN b), .int (nI q)]) (n := 7) (Nat.le_of_ble_eq_true rfl)
  rw [lg_entry_eq]
  generalize (lg_sl ([.long (lN a), .long (lN b), .int (nI q)]) ++ List.replicate (7 - (lg_sl ([.long (lN a), .long (lN b), .int (nI q)])).length) Slot.unset).toArray = ls at hl ⊢
  have hl : lv_has ls 7 [(0, .long (lN a)), (2, .long (lN b)), (4, .int (nI q))] := hl
  have hc := cd_lt 100 b a (2 ^ 63) hb0 ha
  have hc0 := cd_pos 100 b a hb1
  refine lv_lload_n hx hb dP_reducedPart_0 rfl (lv_at hl 0 rfl) ?_
  refine lv_lload_n hx hb dP_reducedPart_1 rfl (lv_at hl 1 rfl) ?_
  refine x_callP (v := .long (lN (cd 100 b a))) (va_runS (As := [.long (lN a), .long (lN b)]) (rest := []) ⟨hx, hb, hml, hown, hT⟩ (c_P_commonDivisor l D κ base s.heap a b ha hb0) (va_cwS 2 hT (TT_S kP211 ktP_commonDivisor knP kcP_commonDivisor) rfl rfl rfl (by decide +kernel) ⟨Nat.le_of_ble_eq_true rfl, Nat.le_of_ble_eq_true rfl⟩) (pcS hE hS hAb) rfl rfl hl.1 rfl (lv_room (Nat.le_of_ble_eq_true rfl)) dP_reducedPart_2 ⟨Nat.le_of_ble_eq_true rfl, Nat.le_of_ble_eq_true rfl⟩) ?_
  refine lv_lstore (lv' := [(5, .long (lN (cd 100 b a))), (0, .long (lN a)), (2, .long (lN b)), (4, .int (nI q))]) hx hb dP_reducedPart_5 hl (by decide) rfl (fun ls hl => ?_)
  refine lv_iload hx hb dP_reducedPart_7 (lv_at hl 3 rfl) ?_
  refine x_zne (a := q) (tgt := 16) hx hb dP_reducedPart_9 (by decide) (by omega) (fun h1 => ?_) (fun h1 => ?_)
  · refine lv_lload_n hx hb dP_reducedPart_16 rfl (lv_at hl 2 rfl) ?_
    refine lv_lload hx hb dP_reducedPart_17 (lv_at hl 0 rfl) ?_
    refine x_ldiv (v := lN (b / (cd 100 b a))) hx hb dP_reducedPart_19 (lN_ne0 (hc0) (hc)) (pk_lDiv (by assumption) (hc0) (hc)) ?_
    refine x_topl (y := lN (rdp a b q)) (by rw [rdp, if_neg h1]) ?_
    exact W.lret (v := lN (rdp a b q)) hx hb hr (fun t9 ht9 hW9 => ⟨rfl, ht9⟩) (fun q h => absurd h List.not_mem_nil) dP_reducedPart_20
  · refine lv_lload_n hx hb dP_reducedPart_12 rfl (lv_at hl 1 rfl) ?_
    refine lv_goto (tgt := 17) hx hb dP_reducedPart_13 (by decide) ?_
    refine lv_lload hx hb dP_reducedPart_17 (lv_at hl 0 rfl) ?_
    refine x_ldiv (v := lN (a / (cd 100 b a))) hx hb dP_reducedPart_19 (lN_ne0 (hc0) (hc)) (pk_lDiv (by assumption) (hc0) (hc)) ?_
    refine x_topl (y := lN (rdp a b q)) (by rw [rdp, if_pos h1]) ?_
    exact W.lret (v := lN (rdp a b q)) hx hb hr (fun t9 ht9 hW9 => ⟨rfl, ht9⟩) (fun q h => absurd h List.not_mem_nil) dP_reducedPart_20
set_option maxHeartbeats 400000 in
set_option maxRecDepth 100000 in
theorem c_P_waysOfAtLeast (l : Launch) (D : va_G) (κ : Nat → ClassId) (base : Nat) (H0 : Heap) (r n pl : Nat) (hn : n < 27) (hr1 : r ≤ n + 1) (hp : pl = 2 ∨ pl = 3) : Met l yP_waysOfAtLeast wP_waysOfAtLeast ({ frames := 0, cells := 0, slots := 0, locals := 0 }) (Pq D κ base [.int (nI r), .int (nI n), .int (nI pl)] H0) (q_P (some (.long (lN (pw_ways r n pl))))) 0 0 (fun _ => False) := by
  refine Met.ofW (cc := bP_waysOfAtLeast) (maxL := 8) (ret := (some FieldType.long)) (by decide) rfl ?_
  intro p e s m args below meth c s₁ B hml hv
  obtain ⟨rfl, hH, hE⟩ := hv
  subst hH
  have hx := B.exec
  have hb := B.bytes
  have hr := B.returns
  have hT : ∀ w ∈ TT, w.before _ s = true := fun w h => atoms_spec (ws := wP_waysOfAtLeast) B.pre w (List.mem_cons_of_mem _ h)
  have hown : s.vm.findClass "TasterPanels" = some m.cls := findClass_of_methodNamed B.named
  have hlocks := B.notSynchronized
  have hK := hE.1
  have hS : va_S (fun q => base ≤ q) s.heap s.heap [] := va_S.rf
  have hAb : ∀ q : Nat, (fun q : Nat => base ≤ q) q → base ≤ q := fun _ h => h
  have hl := lv_entry ([.int (nI r), .int (nI n), .int (nI pl)]) (n := 8) (Nat.le_of_ble_eq_true rfl)
  rw [lg_entry_eq]
  generalize (lg_sl ([.int (nI r), .int (nI n), .int (nI pl)]) ++ List.replicate (8 - (lg_sl ([.int (nI r), .int (nI n), .int (nI pl)])).length) Slot.unset).toArray = ls at hl ⊢
  have hl : lv_has ls 8 [(0, .int (nI r)), (1, .int (nI n)), (2, .int (nI pl))] := hl
  have loop : ∀ (fu : Nat) (x : Nat), (x ≤ n + 1) → (r ≤ x) → x < fu → ∀ ls : Array Slot, lv_has ls 8 [(0, .int (nI r)), (1, .int (nI n)), (2, .int (nI pl)), (3, .long (lN (pw_s n pl (n + 1 - x)))), (5, .long (lN (pw_w n pl (n + 1 - x)))), (7, .int (nI x - 1))] → W p l e (headSpec wP_waysOfAtLeast ({ frames := 0, cells := 0, slots := 0, locals := 0 })).room s m ([.int (nI r), .int (nI n), .int (nI pl)] : List Value).toArray below meth c s.heap [] 0 0 (MQ below (q_P (some (.long (lN (pw_ways r n pl))))) ([.int (nI r), .int (nI n), .int (nI pl)] : List Value).toArray s 0 0 (fun _ => False)) (F0 m 8 ls []) := by
    intro fu
    induction fu with
    | zero =>
      intro x hx1 hx2 hmu
      exact absurd hmu (Nat.not_lt_zero _)
    | succ fu ih =>
      intro x hx1 hx2 hmu ls hl
      rcases x with _ | x
      · refine lv_iload hx hb dP_waysOfAtLeast_8 (lv_at hl 5 rfl) ?_
        refine lv_iload_n hx hb dP_waysOfAtLeast_10 rfl (lv_at hl 0 rfl) ?_
        refine lv_icmp_lt (tgt := 46) hx hb dP_waysOfAtLeast_11 (by decide) (fun h1 => ?_) (fun h1 => absurd (neg1_lt (by omega)) h1)
        refine lv_lload_n hx hb dP_waysOfAtLeast_46 rfl (lv_at hl 3 rfl) ?_
        refine x_topl (y := lN (pw_ways r n pl)) (by rw [pw_ways, show r = 0 by omega]) ?_
        exact W.lret (v := lN (pw_ways r n pl)) hx hb hr (fun t9 ht9 hW9 => ⟨rfl, ht9⟩) (fun q h => absurd h List.not_mem_nil) dP_waysOfAtLeast_47
      · rw [nI_pred] at hl
        rw [show n + 1 - (x + 1) = n - x by omega] at hl
        have hl : lv_has ls 8 [(0, .int (nI r)), (1, .int (nI n)), (2, .int (nI pl)), (3, .long (lN (pw_s n pl (n - x)))), (5, .long (lN (pw_w n pl (n - x)))), (7, .int (nI x))] := hl
        refine lv_iload hx hb dP_waysOfAtLeast_8 (lv_at hl 5 rfl) ?_
        refine lv_iload_n hx hb dP_waysOfAtLeast_10 rfl (lv_at hl 0 rfl) ?_
        refine x_clt (a := x) (b := r) (tgt := 46) hx hb dP_waysOfAtLeast_11 (by decide) (by omega) (by omega) (fun h2 => ?_) (fun h2 => ?_)
        · refine lv_lload_n hx hb dP_waysOfAtLeast_46 rfl (lv_at hl 3 rfl) ?_
          refine x_topl (y := lN (pw_ways r n pl)) (by rw [pw_ways, show n + 1 - r = n - x by omega]) ?_
          exact W.lret (v := lN (pw_ways r n pl)) hx hb hr (fun t9 ht9 hW9 => ⟨rfl, ht9⟩) (fun q h => absurd h List.not_mem_nil) dP_waysOfAtLeast_47
        · have hb1 := pw_bdx (x := x) hn hp (show n - x < 28 by omega) (by omega)
          refine lv_lload_n hx hb dP_waysOfAtLeast_14 rfl (lv_at hl 3 rfl) ?_
          refine lv_lload hx hb dP_waysOfAtLeast_15 (lv_at hl 4 rfl) ?_
          refine x_ladd (v := lN ((pw_s n pl (n - x)) + (pw_w n pl (n - x)))) hx hb dP_waysOfAtLeast_17 (lN_add _ _) ?_
          refine x_topl (y := lN (pw_s n pl (n + 1 - x))) (by rw [show n + 1 - x = (n - x) + 1 by omega]; rfl) ?_
          refine lv_lstore_n (lv' := [(3, .long (lN (pw_s n pl (n + 1 - x)))), (0, .int (nI r)), (1, .int (nI n)), (2, .int (nI pl)), (5, .long (lN (pw_w n pl (n - x)))), (7, .int (nI x))]) hx hb dP_waysOfAtLeast_18 rfl hl (by decide) rfl (fun ls hl => ?_)
          refine lv_lload hx hb dP_waysOfAtLeast_19 (lv_at hl 4 rfl) ?_
          refine lv_iload hx hb dP_waysOfAtLeast_21 (lv_at hl 5 rfl) ?_
          refine lv_i2l (v := lN x) hx hb dP_waysOfAtLeast_23 (nI_l (by omega)) ?_
          refine x_lmul (v := lN ((pw_w n pl (n - x)) * x)) hx hb dP_waysOfAtLeast_24 (lN_mul _ _) ?_
          refine lv_iload_n hx hb dP_waysOfAtLeast_25 rfl (lv_at hl 2 rfl) ?_
          refine lv_iload hx hb dP_waysOfAtLeast_26 (lv_at hl 5 rfl) ?_
          refine x_isub (v := nI (n - x)) hx hb dP_waysOfAtLeast_28 (pk_sub (by omega)) ?_
          refine lv_iconst (v := nI 1) hx hb dP_waysOfAtLeast_29 (by decide) ?_
          refine x_iadd (v := nI ((n - x) + 1)) hx hb dP_waysOfAtLeast_30 (nI_add _ _) ?_
          refine lv_i2l (v := lN ((n - x) + 1)) hx hb dP_waysOfAtLeast_31 (nI_l (by omega)) ?_
          refine x_ldiv (v := lN (((pw_w n pl (n - x)) * x) / ((n - x) + 1))) hx hb dP_waysOfAtLeast_32 (lN_ne0 (by omega) (by omega)) (pk_lDiv (hb1) (by omega) (by omega)) ?_
          refine lv_iload_n hx hb dP_waysOfAtLeast_33 rfl (lv_at hl 3 rfl) ?_
          refine lv_iconst (v := nI 1) hx hb dP_waysOfAtLeast_34 (by decide) ?_
          refine x_isub (v := nI (pl - 1)) hx hb dP_waysOfAtLeast_35 (pk_sub (by omega)) ?_
          refine lv_i2l (v := lN (pl - 1)) hx hb dP_waysOfAtLeast_36 (nI_l (by omega)) ?_
          refine x_lmul (v := lN ((((pw_w n pl (n - x)) * x) / ((n - x) + 1)) * (pl - 1))) hx hb dP_waysOfAtLeast_37 (lN_mul _ _) ?_
          refine x_topl (y := lN (pw_w n pl (n + 1 - x))) (by rw [show n + 1 - x = (n - x) + 1 by omega, pw_w, show n - (n - x) = x by omega]) ?_
          refine lv_lstore (lv' := [(5, .long (lN (pw_w n pl (n + 1 - x)))), (3, .long (lN (pw_s n pl (n + 1 - x)))), (0, .int (nI r)), (1, .int (nI n)), (2, .int (nI pl)), (7, .int (nI x))]) hx hb dP_waysOfAtLeast_38 hl (by decide) rfl (fun ls hl => ?_)
          refine lv_iinc (v := nI x - 1) (lv' := [(7, .int (nI x - 1)), (5, .long (lN (pw_w n pl (n + 1 - x)))), (3, .long (lN (pw_s n pl (n + 1 - x)))), (0, .int (nI r)), (1, .int (nI n)), (2, .int (nI pl))]) hx hb dP_waysOfAtLeast_40 hl (k := 5) rfl (addm1 _) (by decide) rfl (fun ls hl => ?_)
          refine lv_goto (tgt := 8) hx hb dP_waysOfAtLeast_43 (by decide) ?_
          exact ih x (by omega) (by omega) (by omega) ls (lv_sub hl [3, 4, 5, 2, 1, 0] rfl)
  refine lv_lconst (v := lN 0) hx hb dP_waysOfAtLeast_0 (by decide) ?_
  refine lv_lstore_n (lv' := [(3, .long (lN 0)), (0, .int (nI r)), (1, .int (nI n)), (2, .int (nI pl))]) hx hb dP_waysOfAtLeast_1 rfl hl (by decide) rfl (fun ls hl => ?_)
  refine lv_lconst (v := lN 1) hx hb dP_waysOfAtLeast_2 (by decide) ?_
  refine lv_lstore (lv' := [(5, .long (lN 1)), (3, .long (lN 0)), (0, .int (nI r)), (1, .int (nI n)), (2, .int (nI pl))]) hx hb dP_waysOfAtLeast_3 hl (by decide) rfl (fun ls hl => ?_)
  refine lv_iload_n hx hb dP_waysOfAtLeast_5 rfl (lv_at hl 3 rfl) ?_
  refine lv_istore (lv' := [(7, .int (nI n)), (5, .long (lN 1)), (3, .long (lN 0)), (0, .int (nI r)), (1, .int (nI n)), (2, .int (nI pl))]) hx hb dP_waysOfAtLeast_6 hl (by decide) rfl (fun ls hl => ?_)
  have hl := lv_sub hl [3, 4, 5, 2, 1, 0] rfl
  have hl : lv_has ls 8 [(0, .int (nI r)), (1, .int (nI n)), (2, .int (nI pl)), (3, .long (lN (pw_s n pl (n + 1 - (n + 1))))), (5, .long (lN (pw_w n pl (n + 1 - (n + 1))))), (7, .int (nI (n + 1) - 1))] := by rw [Nat.sub_self, nI_pred]; exact hl
  exact loop (n + 2) (n + 1) (by omega) (by omega) (by omega) ls hl
set_option maxHeartbeats 400000 in
set_option maxRecDepth 100000 in
theorem c_P_strength (l : Launch) (D : va_G) (κ : Nat → ClassId) (base : Nat) (H0 : Heap) (k : Nat) (hk : k < 16) : Met l yP_strength wP_strength ({ frames := 0, cells := 0, slots := 0, locals := 0 }) (Pq D κ base [.int (nI k)] H0) (q_P (some (.double (strv k)))) 0 0 (fun _ => False) := by
  refine Met.ofW (cc := bP_strength) (maxL := 1) (ret := (some FieldType.double)) (by decide) rfl ?_
  intro p e s m args below meth c s₁ B hml hv
  obtain ⟨rfl, hH, hE⟩ := hv
  subst hH
  have hx := B.exec
  have hb := B.bytes
  have hr := B.returns
  have hT : ∀ w ∈ TT, w.before _ s = true := fun w h => atoms_spec (ws := wP_strength) B.pre w (List.mem_cons_of_mem _ h)
  have hown : s.vm.findClass "TasterPanels" = some m.cls := findClass_of_methodNamed B.named
  have hlocks := B.notSynchronized
  have hK := hE.1
  have hS : va_S (fun q => base ≤ q) s.heap s.heap [] := va_S.rf
  have hAb : ∀ q : Nat, (fun q : Nat => base ≤ q) q → base ≤ q := fun _ h => h
  have hl := lv_entry ([.int (nI k)]) (n := 1) (Nat.le_of_ble_eq_true rfl)
  rw [lg_entry_eq]
  generalize (lg_sl ([.int (nI k)]) ++ List.replicate (1 - (lg_sl ([.int (nI k)])).length) Slot.unset).toArray = ls at hl ⊢
  have hl : lv_has ls 1 [(0, .int (nI k))] := hl
  refine lv_iconst (v := nI 1) hx hb dP_strength_0 (by decide) ?_
  refine lv_iload_n hx hb dP_strength_1 rfl (lv_at hl 0 rfl) ?_
  refine x_ishl (v := (nI 1) <<< ((nI k) &&& 31)) hx hb dP_strength_2 (rfl) ?_
  refine lv_i2d hx hb dP_strength_3 ?_
  refine lv_ldc2d (v := 4620693217682128896) hx hb hown (hT _ kP209) dP_strength_4 ?_
  refine lv_ddiv hx hb dP_strength_7 (strv_ok k hk) ?_
  exact W.dret (v := FP.ddiv (FP.i2d ((nI 1) <<< ((nI k) &&& 31))) 4620693217682128896) hx hb hr (fun t9 ht9 hW9 => ⟨rfl, ht9⟩) (fun q h => absurd h List.not_mem_nil) dP_strength_8
set_option maxHeartbeats 400000 in
set_option maxRecDepth 100000 in
theorem c_P_isKindOf (l : Launch) (D : va_G) (κ : Nat → ClassId) (base : Nat) (H0 : Heap) (k n : Int32) (r : Nat) (hr0 : r = if okK k n = true then 1 else 0) : Met l yP_isKindOf wP_isKindOf ({ frames := 0, cells := 0, slots := 0, locals := 0 }) (Pq D κ base [.int k, .int n] H0) (q_P (some (.int (nI r)))) 0 0 (fun _ => False) := by
  refine Met.ofW (cc := bP_isKindOf) (maxL := 2) (ret := (some FieldType.boolean)) (by decide) rfl ?_
  intro p e s m args below meth c s₁ B hml hv
  obtain ⟨rfl, hH, hE⟩ := hv
  subst hH
  have hx := B.exec
  have hb := B.bytes
  have hr := B.returns
  have hT : ∀ w ∈ TT, w.before _ s = true := fun w h => atoms_spec (ws := wP_isKindOf) B.pre w (List.mem_cons_of_mem _ h)
  have hown : s.vm.findClass "TasterPanels" = some m.cls := findClass_of_methodNamed B.named
  have hlocks := B.notSynchronized
  have hK := hE.1
  have hS : va_S (fun q => base ≤ q) s.heap s.heap [] := va_S.rf
  have hAb : ∀ q : Nat, (fun q : Nat => base ≤ q) q → base ≤ q := fun _ h => h
  have hl := lv_entry ([.int k, .int n]) (n := 2) (Nat.le_of_ble_eq_true rfl)
  rw [lg_entry_eq]
  generalize (lg_sl ([.int k, .int n]) ++ List.replicate (2 - (lg_sl ([.int k, .int n])).length) Slot.unset).toArray = ls at hl ⊢
  have hl : lv_has ls 2 [(0, .int k), (1, .int n)] := hl
  by_cases e0 : k = nI 0
  · subst e0
    refine lv_iload_n hx hb dP_isKindOf_0 rfl (lv_at hl 0 rfl) ?_
    refine lv_tableIn (off := 31) (tgt := 32) hx hb dP_isKindOf_1 (by decide) (by decide) (by decide) (by decide) ?_
    refine lv_iload_n hx hb dP_isKindOf_32 rfl (lv_at hl 1 rfl) ?_
    refine lv_iconst (v := nI 3) hx hb dP_isKindOf_33 (by decide) ?_
    refine lv_icmp_ne (tgt := 41) hx hb dP_isKindOf_34 (by decide) (fun h1 => ?_) (fun h1 => ?_)
    · refine lv_iconst (v := nI 0) hx hb dP_isKindOf_41 (by decide) ?_
      exact W.zret (v := nI 0) hx hb hr (by decide) (fun t9 ht9 hW9 => ⟨congrArg (fun z => Outcome.returned (some (Value.int (nI z)))) (by rw [hr0, if_neg (by simp_all [okK, nI]; try (intro q; exact absurd q (Int32.not_le.mpr (by assumption))))]), ht9⟩) (fun q h => absurd h List.not_mem_nil) dP_isKindOf_42
    · refine lv_iconst (v := nI 1) hx hb dP_isKindOf_37 (by decide) ?_
      refine lv_goto (tgt := 42) hx hb dP_isKindOf_38 (by decide) ?_
      exact W.zret (v := nI 1) hx hb hr (by decide) (fun t9 ht9 hW9 => ⟨congrArg (fun z => Outcome.returned (some (Value.int (nI z)))) (by rw [hr0, if_pos (by simp_all [okK, nI])]), ht9⟩) (fun q h => absurd h List.not_mem_nil) dP_isKindOf_42
  · by_cases e1 : k = nI 1
    · subst e1
      refine lv_iload_n hx hb dP_isKindOf_0 rfl (lv_at hl 0 rfl) ?_
      refine lv_tableIn (off := 42) (tgt := 43) hx hb dP_isKindOf_1 (by decide) (by decide) (by decide) (by decide) ?_
      refine lv_iload_n hx hb dP_isKindOf_43 rfl (lv_at hl 1 rfl) ?_
      refine lv_iconst (v := nI 2) hx hb dP_isKindOf_44 (by decide) ?_
      refine lv_icmp_ne (tgt := 52) hx hb dP_isKindOf_45 (by decide) (fun h2 => ?_) (fun h2 => ?_)
      · refine lv_iconst (v := nI 0) hx hb dP_isKindOf_52 (by decide) ?_
        exact W.zret (v := nI 0) hx hb hr (by decide) (fun t9 ht9 hW9 => ⟨congrArg (fun z => Outcome.returned (some (Value.int (nI z)))) (by rw [hr0, if_neg (by simp_all [okK, nI]; try (intro q; exact absurd q (Int32.not_le.mpr (by assumption))))]), ht9⟩) (fun q h => absurd h List.not_mem_nil) dP_isKindOf_53
      · refine lv_iconst (v := nI 1) hx hb dP_isKindOf_48 (by decide) ?_
        refine lv_goto (tgt := 53) hx hb dP_isKindOf_49 (by decide) ?_
        exact W.zret (v := nI 1) hx hb hr (by decide) (fun t9 ht9 hW9 => ⟨congrArg (fun z => Outcome.returned (some (Value.int (nI z)))) (by rw [hr0, if_pos (by simp_all [okK, nI])]), ht9⟩) (fun q h => absurd h List.not_mem_nil) dP_isKindOf_53
    · by_cases e2 : k = nI 2
      · subst e2
        refine lv_iload_n hx hb dP_isKindOf_0 rfl (lv_at hl 0 rfl) ?_
        refine lv_tableIn (off := 42) (tgt := 43) hx hb dP_isKindOf_1 (by decide) (by decide) (by decide) (by decide) ?_
        refine lv_iload_n hx hb dP_isKindOf_43 rfl (lv_at hl 1 rfl) ?_
        refine lv_iconst (v := nI 2) hx hb dP_isKindOf_44 (by decide) ?_
        refine lv_icmp_ne (tgt := 52) hx hb dP_isKindOf_45 (by decide) (fun h3 => ?_) (fun h3 => ?_)
        · refine lv_iconst (v := nI 0) hx hb dP_isKindOf_52 (by decide) ?_
          exact W.zret (v := nI 0) hx hb hr (by decide) (fun t9 ht9 hW9 => ⟨congrArg (fun z => Outcome.returned (some (Value.int (nI z)))) (by rw [hr0, if_neg (by simp_all [okK, nI]; try (intro q; exact absurd q (Int32.not_le.mpr (by assumption))))]), ht9⟩) (fun q h => absurd h List.not_mem_nil) dP_isKindOf_53
        · refine lv_iconst (v := nI 1) hx hb dP_isKindOf_48 (by decide) ?_
          refine lv_goto (tgt := 53) hx hb dP_isKindOf_49 (by decide) ?_
          exact W.zret (v := nI 1) hx hb hr (by decide) (fun t9 ht9 hW9 => ⟨congrArg (fun z => Outcome.returned (some (Value.int (nI z)))) (by rw [hr0, if_pos (by simp_all [okK, nI])]), ht9⟩) (fun q h => absurd h List.not_mem_nil) dP_isKindOf_53
      · by_cases e3 : k = nI 3
        · subst e3
          refine lv_iload_n hx hb dP_isKindOf_0 rfl (lv_at hl 0 rfl) ?_
          refine lv_tableIn (off := 53) (tgt := 54) hx hb dP_isKindOf_1 (by decide) (by decide) (by decide) (by decide) ?_
          refine lv_iload_n hx hb dP_isKindOf_54 rfl (lv_at hl 1 rfl) ?_
          refine lv_iconst (v := nI 2) hx hb dP_isKindOf_55 (by decide) ?_
          refine lv_icmp_lt (tgt := 68) hx hb dP_isKindOf_56 (by decide) (fun h4 => ?_) (fun h4 => ?_)
          · refine lv_iconst (v := nI 0) hx hb dP_isKindOf_68 (by decide) ?_
            exact W.zret (v := nI 0) hx hb hr (by decide) (fun t9 ht9 hW9 => ⟨congrArg (fun z => Outcome.returned (some (Value.int (nI z)))) (by rw [hr0, if_neg (by simp_all [okK, nI]; try (intro q; exact absurd q (Int32.not_le.mpr (by assumption))))]), ht9⟩) (fun q h => absurd h List.not_mem_nil) dP_isKindOf_69
          · refine lv_iload_n hx hb dP_isKindOf_59 rfl (lv_at hl 1 rfl) ?_
            refine lv_iconst (v := nI 5) hx hb dP_isKindOf_60 (by decide) ?_
            refine lv_icmp_gt (tgt := 68) hx hb dP_isKindOf_61 (by decide) (fun h5 => ?_) (fun h5 => ?_)
            · refine lv_iconst (v := nI 0) hx hb dP_isKindOf_68 (by decide) ?_
              exact W.zret (v := nI 0) hx hb hr (by decide) (fun t9 ht9 hW9 => ⟨congrArg (fun z => Outcome.returned (some (Value.int (nI z)))) (by rw [hr0, if_neg (by simp_all [okK, nI]; try (intro q; exact absurd q (Int32.not_le.mpr (by assumption))))]), ht9⟩) (fun q h => absurd h List.not_mem_nil) dP_isKindOf_69
            · refine lv_iconst (v := nI 1) hx hb dP_isKindOf_64 (by decide) ?_
              refine lv_goto (tgt := 69) hx hb dP_isKindOf_65 (by decide) ?_
              exact W.zret (v := nI 1) hx hb hr (by decide) (fun t9 ht9 hW9 => ⟨congrArg (fun z => Outcome.returned (some (Value.int (nI z)))) (by rw [hr0, if_pos (by simp_all [okK, nI])]), ht9⟩) (fun q h => absurd h List.not_mem_nil) dP_isKindOf_69
        · refine lv_iload_n hx hb dP_isKindOf_0 rfl (lv_at hl 0 rfl) ?_
          refine lv_tableOut (tgt := 70) hx hb dP_isKindOf_1 (out_of 3 (by decide) (fun j hj => by rcases (show j = 0 ∨ j = 1 ∨ j = 2 ∨ j = 3 by omega) with rfl | rfl | rfl | rfl <;> assumption)) (by decide) ?_
          refine lv_iconst (v := nI 0) hx hb dP_isKindOf_70 (by decide) ?_
          exact W.zret (v := nI 0) hx hb hr (by decide) (fun t9 ht9 hW9 => ⟨congrArg (fun z => Outcome.returned (some (Value.int (nI z)))) (by rw [hr0, if_neg (by simp_all [okK, nI])]), ht9⟩) (fun q h => absurd h List.not_mem_nil) dP_isKindOf_71
set_option maxHeartbeats 400000 in
set_option maxRecDepth 100000 in
theorem c_P_unusedSample (l : Launch) (D : va_G) (κ : Nat → ClassId) (base : Nat) (H0 : Heap) (u lf : Int32) : Met l yP_unusedSample wP_unusedSample ({ frames := 0, cells := 0, slots := 0, locals := 0 }) (Pq D κ base [.int u, .int lf] H0) (q_P (some (.int (usI 5 u lf 0)))) 0 0 (fun _ => False) := by
  refine Met.ofW (cc := bP_unusedSample) (maxL := 4) (ret := (some FieldType.int)) (by decide) rfl ?_
  intro p e s m args below meth c s₁ B hml hv
  obtain ⟨rfl, hH, hE⟩ := hv
  subst hH
  have hx := B.exec
  have hb := B.bytes
  have hr := B.returns
  have hT : ∀ w ∈ TT, w.before _ s = true := fun w h => atoms_spec (ws := wP_unusedSample) B.pre w (List.mem_cons_of_mem _ h)
  have hown : s.vm.findClass "TasterPanels" = some m.cls := findClass_of_methodNamed B.named
  have hlocks := B.notSynchronized
  have hK := hE.1
  have hS : va_S (fun q => base ≤ q) s.heap s.heap [] := va_S.rf
  have hAb : ∀ q : Nat, (fun q : Nat => base ≤ q) q → base ≤ q := fun _ h => h
  have hl := lv_entry ([.int u, .int lf]) (n := 4) (Nat.le_of_ble_eq_true rfl)
  rw [lg_entry_eq]
  generalize (lg_sl ([.int u, .int lf]) ++ List.replicate (4 - (lg_sl ([.int u, .int lf])).length) Slot.unset).toArray = ls at hl ⊢
  have hl : lv_has ls 4 [(0, .int u), (1, .int lf)] := hl
  have loop : ∀ (fu : Nat) (j : Nat) (q : Int32), (j ≤ 5) → (usI (5 - j) u q j = usI 5 u lf 0) → 5 - j < fu → ∀ ls : Array Slot, lv_has ls 4 [(0, .int u), (1, .int lf), (2, .int q), (3, .int (nI j))] → W p l e (headSpec wP_unusedSample ({ frames := 0, cells := 0, slots := 0, locals := 0 })).room s m ([.int u, .int lf] : List Value).toArray below meth c s.heap [] 0 0 (MQ below (q_P (some (.int (usI 5 u lf 0)))) ([.int u, .int lf] : List Value).toArray s 0 0 (fun _ => False)) (F0 m 4 ls []) := by
    intro fu
    induction fu with
    | zero =>
      intro j q hj heq hmu
      exact absurd hmu (Nat.not_lt_zero _)
    | succ fu ih =>
      intro j q hj heq hmu ls hl
      refine lv_iload_n hx hb dP_unusedSample_4 rfl (lv_at hl 3 rfl) ?_
      refine lv_iconst (v := nI 5) hx hb dP_unusedSample_5 (by decide) ?_
      refine x_cge (a := j) (b := 5) (tgt := 32) hx hb dP_unusedSample_6 (by decide) (by omega) (by omega) (fun h1 => ?_) (fun h1 => ?_)
      · refine lv_iconst (v := -1) hx hb dP_unusedSample_32 (by decide) ?_
        rw [show 5 - j = 0 by omega] at heq
        refine x_topi (y := usI 5 u lf 0) (by rw [← heq]; rfl) ?_
        exact W.iret (v := usI 5 u lf 0) hx hb hr (fun t9 ht9 hW9 => ⟨rfl, ht9⟩) (fun q h => absurd h List.not_mem_nil) dP_unusedSample_33
      · rw [show 5 - j = (5 - (j + 1)) + 1 by omega] at heq
        refine lv_iload_n hx hb dP_unusedSample_9 rfl (lv_at hl 0 rfl) ?_
        refine lv_iload_n hx hb dP_unusedSample_10 rfl (lv_at hl 3 rfl) ?_
        refine x_ishr (v := u >>> ((nI j) &&& 31)) hx hb dP_unusedSample_11 (rfl) ?_
        refine lv_iconst (v := nI 1) hx hb dP_unusedSample_12 (by decide) ?_
        refine x_iand (v := (u >>> ((nI j) &&& 31)) &&& (nI 1)) hx hb dP_unusedSample_13 (rfl) ?_
        refine lv_if_ne (tgt := 26) hx hb dP_unusedSample_14 (by decide) (fun h2 => ?_) (fun h2 => ?_)
        · rw [usI, if_neg h2] at heq
          refine lv_iinc (v := nI (j + 1)) (lv' := [(3, .int (nI (j + 1))), (0, .int u), (1, .int lf), (2, .int q)]) hx hb dP_unusedSample_26 hl (k := 3) rfl (nI_add _ _) (by decide) rfl (fun ls hl => ?_)
          refine lv_goto (tgt := 4) hx hb dP_unusedSample_29 (by decide) ?_
          exact ih (j + 1) q (by omega) heq (by omega) ls (lv_sub hl [1, 2, 3, 0] rfl)
        · refine lv_iload_n hx hb dP_unusedSample_17 rfl (lv_at hl 2 rfl) ?_
          refine lv_if_ne (tgt := 23) hx hb dP_unusedSample_18 (by decide) (fun h3 => ?_) (fun h3 => ?_)
          · rw [usI, if_pos h2, if_neg h3] at heq
            refine lv_iinc (v := q + (-1)) (lv' := [(2, .int (q + (-1))), (0, .int u), (1, .int lf), (3, .int (nI j))]) hx hb dP_unusedSample_23 hl (k := 2) rfl (rfl) (by decide) rfl (fun ls hl => ?_)
            refine lv_iinc (v := nI (j + 1)) (lv' := [(3, .int (nI (j + 1))), (2, .int (q + (-1))), (0, .int u), (1, .int lf)]) hx hb dP_unusedSample_26 hl (k := 3) rfl (nI_add _ _) (by decide) rfl (fun ls hl => ?_)
            refine lv_goto (tgt := 4) hx hb dP_unusedSample_29 (by decide) ?_
            exact ih (j + 1) (q + (-1)) (by omega) heq (by omega) ls (lv_sub hl [2, 3, 1, 0] rfl)
          · rw [usI, if_pos h2, if_pos h3] at heq
            refine lv_iload_n hx hb dP_unusedSample_21 rfl (lv_at hl 3 rfl) ?_
            refine x_topi (y := usI 5 u lf 0) (heq) ?_
            exact W.iret (v := usI 5 u lf 0) hx hb hr (fun t9 ht9 hW9 => ⟨rfl, ht9⟩) (fun q h => absurd h List.not_mem_nil) dP_unusedSample_22
  refine lv_iload_n hx hb dP_unusedSample_0 rfl (lv_at hl 1 rfl) ?_
  refine lv_istore_n (lv' := [(2, .int lf), (0, .int u), (1, .int lf)]) hx hb dP_unusedSample_1 rfl hl (by decide) rfl (fun ls hl => ?_)
  refine lv_iconst (v := nI 0) hx hb dP_unusedSample_2 (by decide) ?_
  refine lv_istore_n (lv' := [(3, .int (nI 0)), (2, .int lf), (0, .int u), (1, .int lf)]) hx hb dP_unusedSample_3 rfl hl (by decide) rfl (fun ls hl => ?_)
  exact loop 6 0 lf (Nat.zero_le _) rfl (by omega) ls (lv_sub hl [2, 3, 1, 0] rfl)
set_option maxHeartbeats 400000 in
set_option maxRecDepth 100000 in
theorem c_P_sampleInRow (l : Launch) (D : va_G) (κ : Nat → ClassId) (base : Nat) (H0 : Heap) (n row k : Nat) (hn : n ≤ 5) (hrow : row < 2 ^ 31) (hk : k < n) : Met l yP_sampleInRow wP_sampleInRow ({ frames := 1, cells := 0, slots := 0, locals := 23 }) (Pq D κ base [.int (nI n), .int (nI row), .int (nI k)] H0) (q_P (some (.int (siI n (k + 1) 0 (nI 0) row (-1))))) 0 0 (fun _ => False) := by
  refine Met.ofW (cc := bP_sampleInRow) (maxL := 8) (ret := (some FieldType.int)) (by decide) rfl ?_
  intro p e s m args below meth c s₁ B hml hv
  obtain ⟨rfl, hH, hE⟩ := hv
  subst hH
  have hx := B.exec
  have hb := B.bytes
  have hr := B.returns
  have hT : ∀ w ∈ TT, w.before _ s = true := fun w h => atoms_spec (ws := wP_sampleInRow) B.pre w (List.mem_cons_of_mem _ h)
  have hown : s.vm.findClass "TasterPanels" = some m.cls := findClass_of_methodNamed B.named
  have hlocks := B.notSynchronized
  have hK := hE.1
  have hS : va_S (fun q => base ≤ q) s.heap s.heap [] := va_S.rf
  have hAb : ∀ q : Nat, (fun q : Nat => base ≤ q) q → base ≤ q := fun _ h => h
  have hl := lv_entry ([.int (nI n), .int (nI row), .int (nI k)]) (n := 8) (Nat.le_of_ble_eq_true rfl)
  rw [lg_entry_eq]
  generalize (lg_sl ([.int (nI n), .int (nI row), .int (nI k)]) ++ List.replicate (8 - (lg_sl ([.int (nI n), .int (nI row), .int (nI k)])).length) Slot.unset).toArray = ls at hl ⊢
  have hl : lv_has ls 8 [(0, .int (nI n)), (1, .int (nI row)), (2, .int (nI k))] := hl
  obtain ⟨t0, hZ0, hT0⟩ := hE.2.2 0 _ rfl
  dsimp only at hZ0 hT0
  have loop : ∀ (fu : Nat) (j : Nat) (u : Int32) (rs : Nat) (sm : Int32), (j ≤ k + 1) → (rs < 2 ^ 31) → (siI n (k + 1 - j) j u rs sm = siI n (k + 1) 0 (nI 0) row (-1)) → k + 1 - j < fu → ∀ ls : Array Slot, lv_has ls 8 [(0, .int (nI n)), (1, .int (nI row)), (2, .int (nI k)), (3, .int u), (4, .int (nI rs)), (5, .int sm), (6, .int (nI j))] → W p l e (headSpec wP_sampleInRow ({ frames := 1, cells := 0, slots := 0, locals := 23 })).room s m ([.int (nI n), .int (nI row), .int (nI k)] : List Value).toArray below meth c s.heap [] 0 0 (MQ below (q_P (some (.int (siI n (k + 1) 0 (nI 0) row (-1))))) ([.int (nI n), .int (nI row), .int (nI k)] : List Value).toArray s 0 0 (fun _ => False)) (F0 m 11 ls []) := by
    intro fu
    induction fu with
    | zero =>
      intro j u rs sm hj hrs heq hmu
      exact absurd hmu (Nat.not_lt_zero _)
    | succ fu ih =>
      intro j u rs sm hj hrs heq hmu ls hl
      refine lv_iload hx hb dP_sampleInRow_11 (lv_at hl 6 rfl) ?_
      refine lv_iload_n hx hb dP_sampleInRow_13 rfl (lv_at hl 2 rfl) ?_
      refine x_cgt (a := j) (b := k) (tgt := 66) hx hb dP_sampleInRow_14 (by decide) (by omega) (by omega) (fun h1 => ?_) (fun h1 => ?_)
      · refine lv_iload hx hb dP_sampleInRow_66 (lv_at hl 5 rfl) ?_
        rw [show k + 1 - j = 0 by omega] at heq
        refine x_topi (y := siI n (k + 1) 0 (nI 0) row (-1)) (heq) ?_
        exact W.iret (v := siI n (k + 1) 0 (nI 0) row (-1)) hx hb hr (fun t9 ht9 hW9 => ⟨rfl, ht9⟩) (fun q h => absurd h List.not_mem_nil) dP_sampleInRow_68
      · refine lv_iload hx hb dP_sampleInRow_17 (lv_at hl 6 rfl) ?_
        refine lv_iload_n hx hb dP_sampleInRow_19 rfl (lv_at hl 0 rfl) ?_
        refine x_cge (a := j) (b := n) (tgt := 66) hx hb dP_sampleInRow_20 (by decide) (by omega) (by omega) (fun h2 => absurd h2 (by omega)) (fun h2 => ?_)
        rw [show k + 1 - j = (k + 1 - (j + 1)) + 1 by omega] at heq
        obtain ⟨f1, f2⟩ := fact_ok (n - 1 - j) (by omega)
        refine va_gets hx hb hZ0 hS hown (hT _ kP157) (fun _ h9 => h9) dP_sampleInRow_23 ?_
        refine lv_iload_n hx hb dP_sampleInRow_26 rfl (lv_at hl 0 rfl) ?_
        refine lv_iconst (v := nI 1) hx hb dP_sampleInRow_27 (by decide) ?_
        refine x_isub (v := nI (n - 1)) hx hb dP_sampleInRow_28 (pk_sub (by omega)) ?_
        refine lv_iload hx hb dP_sampleInRow_29 (lv_at hl 6 rfl) ?_
        refine x_isub (v := nI ((n - 1) - j)) hx hb dP_sampleInRow_31 (pk_sub (by omega)) ?_
        refine x_ti (v := .int (nI (tFACT.getD ((n - 1) - j) 0))) hx hb hT0 hS (j := (n - 1) - j) (show (n - 1) - j < 6 by omega) (by decide) rfl dP_sampleInRow_32 ?_
        refine lv_istore (lv' := [(7, .int (nI (tFACT.getD ((n - 1) - j) 0))), (0, .int (nI n)), (1, .int (nI row)), (2, .int (nI k)), (3, .int u), (4, .int (nI rs)), (5, .int sm), (6, .int (nI j))]) hx hb dP_sampleInRow_33 hl (by decide) rfl (fun ls hl => ?_)
        refine lv_iload_n hx hb dP_sampleInRow_35 rfl (lv_at hl 4 rfl) ?_
        refine lv_iload hx hb dP_sampleInRow_36 (lv_at hl 5 rfl) ?_
        refine lv_iload hx hb dP_sampleInRow_38 (lv_at hl 0 rfl) ?_
        refine x_idiv (v := nI (rs / (tFACT.getD ((n - 1) - j) 0))) hx hb dP_sampleInRow_40 (nI_ne0 (by omega) (by omega)) (pk_div (by omega) (by omega) (by omega)) ?_
        refine x_callP (v := .int (usI 5 u (nI (rs / tFACT.getD (n - 1 - j) 0)) 0)) (va_runS (As := [.int u, .int (nI (rs / (tFACT.getD ((n - 1) - j) 0)))]) (rest := []) ⟨hx, hb, hml, hown, hT⟩ (c_P_unusedSample l D κ base s.heap u (nI (rs / tFACT.getD (n - 1 - j) 0))) (va_cwS 2 hT (TT_S kP188 ktP_unusedSample knP kcP_unusedSample) rfl rfl rfl (by decide +kernel) ⟨Nat.le_of_ble_eq_true rfl, Nat.le_of_ble_eq_true rfl⟩) (pcS hE hS hAb) rfl rfl hl.1 rfl (lv_room (Nat.le_of_ble_eq_true rfl)) dP_sampleInRow_41 ⟨Nat.le_of_ble_eq_true rfl, Nat.le_of_ble_eq_true rfl⟩) ?_
        refine lv_istore (lv' := [(5, .int (usI 5 u (nI (rs / tFACT.getD (n - 1 - j) 0)) 0)), (7, .int (nI (tFACT.getD ((n - 1) - j) 0))), (0, .int (nI n)), (1, .int (nI row)), (2, .int (nI k)), (3, .int u), (4, .int (nI rs)), (6, .int (nI j))]) hx hb dP_sampleInRow_44 hl (by decide) rfl (fun ls hl => ?_)
        refine lv_iload_n hx hb dP_sampleInRow_46 rfl (lv_at hl 5 rfl) ?_
        refine lv_iconst (v := nI 1) hx hb dP_sampleInRow_47 (by decide) ?_
        refine lv_iload hx hb dP_sampleInRow_48 (lv_at hl 0 rfl) ?_
        refine x_ishl (v := (nI 1) <<< ((usI 5 u (nI (rs / tFACT.getD (n - 1 - j) 0)) 0) &&& 31)) hx hb dP_sampleInRow_50 (rfl) ?_
        refine x_ior (v := u ||| ((nI 1) <<< ((usI 5 u (nI (rs / tFACT.getD (n - 1 - j) 0)) 0) &&& 31))) hx hb dP_sampleInRow_51 (rfl) ?_
        refine lv_istore_n (lv' := [(3, .int (u ||| ((nI 1) <<< ((usI 5 u (nI (rs / tFACT.getD (n - 1 - j) 0)) 0) &&& 31)))), (5, .int (usI 5 u (nI (rs / tFACT.getD (n - 1 - j) 0)) 0)), (7, .int (nI (tFACT.getD ((n - 1) - j) 0))), (0, .int (nI n)), (1, .int (nI row)), (2, .int (nI k)), (4, .int (nI rs)), (6, .int (nI j))]) hx hb dP_sampleInRow_52 rfl hl (by decide) rfl (fun ls hl => ?_)
        refine lv_iload hx hb dP_sampleInRow_53 (lv_at hl 6 rfl) ?_
        refine lv_iload hx hb dP_sampleInRow_55 (lv_at hl 2 rfl) ?_
        refine x_irem (v := nI (rs % (tFACT.getD ((n - 1) - j) 0))) hx hb dP_sampleInRow_57 (nI_ne0 (by omega) (by omega)) (pk_rem (by omega) (by omega) (by omega)) ?_
        refine lv_istore (lv' := [(4, .int (nI (rs % (tFACT.getD ((n - 1) - j) 0)))), (3, .int (u ||| ((nI 1) <<< ((usI 5 u (nI (rs / tFACT.getD (n - 1 - j) 0)) 0) &&& 31)))), (5, .int (usI 5 u (nI (rs / tFACT.getD (n - 1 - j) 0)) 0)), (7, .int (nI (tFACT.getD ((n - 1) - j) 0))), (0, .int (nI n)), (1, .int (nI row)), (2, .int (nI k)), (6, .int (nI j))]) hx hb dP_sampleInRow_58 hl (by decide) rfl (fun ls hl => ?_)
        refine lv_iinc (v := nI (j + 1)) (lv' := [(6, .int (nI (j + 1))), (4, .int (nI (rs % (tFACT.getD ((n - 1) - j) 0)))), (3, .int (u ||| ((nI 1) <<< ((usI 5 u (nI (rs / tFACT.getD (n - 1 - j) 0)) 0) &&& 31)))), (5, .int (usI 5 u (nI (rs / tFACT.getD (n - 1 - j) 0)) 0)), (7, .int (nI (tFACT.getD ((n - 1) - j) 0))), (0, .int (nI n)), (1, .int (nI row)), (2, .int (nI k))]) hx hb dP_sampleInRow_60 hl (k := 7) rfl (nI_add _ _) (by decide) rfl (fun ls hl => ?_)
        refine lv_goto (tgt := 11) hx hb dP_sampleInRow_63 (by decide) ?_
        exact ih (j + 1) (u ||| (nI 1 <<< (usI 5 u (nI (rs / tFACT.getD (n - 1 - j) 0)) 0 &&& 31))) (rs % tFACT.getD (n - 1 - j) 0) (usI 5 u (nI (rs / tFACT.getD (n - 1 - j) 0)) 0) (by omega) (Nat.lt_of_le_of_lt (Nat.mod_le _ _) hrs) heq (by omega) ls (lv_sub hl [5, 6, 7, 2, 1, 3, 0] rfl)
  refine lv_iconst (v := nI 0) hx hb dP_sampleInRow_0 (by decide) ?_
  refine lv_istore_n (lv' := [(3, .int (nI 0)), (0, .int (nI n)), (1, .int (nI row)), (2, .int (nI k))]) hx hb dP_sampleInRow_1 rfl hl (by decide) rfl (fun ls hl => ?_)
  refine lv_iload_n hx hb dP_sampleInRow_2 rfl (lv_at hl 2 rfl) ?_
  refine lv_istore (lv' := [(4, .int (nI row)), (3, .int (nI 0)), (0, .int (nI n)), (1, .int (nI row)), (2, .int (nI k))]) hx hb dP_sampleInRow_3 hl (by decide) rfl (fun ls hl => ?_)
  refine lv_iconst (v := -1) hx hb dP_sampleInRow_5 (by decide) ?_
  refine lv_istore (lv' := [(5, .int (-1)), (4, .int (nI row)), (3, .int (nI 0)), (0, .int (nI n)), (1, .int (nI row)), (2, .int (nI k))]) hx hb dP_sampleInRow_6 hl (by decide) rfl (fun ls hl => ?_)
  refine lv_iconst (v := nI 0) hx hb dP_sampleInRow_8 (by decide) ?_
  refine lv_istore (lv' := [(6, .int (nI 0)), (5, .int (-1)), (4, .int (nI row)), (3, .int (nI 0)), (0, .int (nI n)), (1, .int (nI row)), (2, .int (nI k))]) hx hb dP_sampleInRow_9 hl (by decide) rfl (fun ls hl => ?_)
  exact loop (k + 2) 0 (nI 0) row (-1) (Nat.zero_le _) hrow rfl (by omega) ls (lv_sub hl [4, 5, 6, 3, 2, 1, 0] rfl)
