/-! the class's pure static methods -/
def pw_w (n pl : Nat) : Nat → Nat
  | 0 => 1
  | k + 1 => pw_w n pl k * (n - k) / (k + 1) * (pl - 1)
def pw_s (n pl : Nat) : Nat → Nat
  | 0 => 0
  | k + 1 => pw_s n pl k + pw_w n pl k
/-- of all pl ^ n ways to guess, those with at least r right, as the class reckons it -/
def pw_ways (r n pl : Nat) : Nat := pw_s n pl (n + 1 - r)
def cd : Nat → Nat → Nat → Nat
  | 0, d, _ => d
  | f + 1, d, r => if r = 0 then d else cd f r (d % r)
theorem cd_pos : ∀ (f d r : Nat), 0 < d → 0 < cd f d r
  | 0, _, _, h => h
  | f + 1, d, r, h => by
    unfold cd
    split
    · exact h
    · exact cd_pos f r (d % r) (by omega)
theorem cd_lt : ∀ (f d r B : Nat), d < B → r < B → cd f d r < B
  | 0, _, _, _, h, _ => h
  | f + 1, d, r, B, h, h2 => by
    unfold cd
    split
    · exact h
    · exact cd_lt f r (d % r) B h2 (Nat.lt_of_le_of_lt (Nat.mod_le _ _) h)
/-- the class's reducedPart -/
def rdp (a b part : Nat) : Nat := (if part = 0 then a else b) / cd 100 b a
set_option maxHeartbeats 4000000 in
set_option maxRecDepth 100000 in
theorem c_P_power (l : Launch) (D : va_G) (κ : Nat → ClassId) (base : Nat) (H0 : Heap) (b t : Nat) (h1 : b < 2 ^ 31) (h2 : t < 2 ^ 31) : Met l yP_power wP_power ({ frames := 0, cells := 0, slots := 0, locals := 0 }) (Pq D κ base [.int (nI b), .int (nI t)] H0) (q_P (some (.long (lN (b ^ t))))) 0 0 (fun _ => False) := by
  refine Met.ofW (cc := bP_power) (maxL := 5) (ret := (some FieldType.long)) (by decide) rfl ?_
  intro p e s m args below meth c s₁ B hml hv
  obtain ⟨rfl, hH, hE⟩ := hv
  subst hH
  have hx := B.exec
  have hb := B.bytes
  have hr := B.returns
  have hT : ∀ w ∈ TT, w.before _ s = true := fun w h => atoms_spec (ws := wP_power) B.pre w (List.mem_cons_of_mem _ h)
  have hown : s.vm.findClass "TasterPanels" = some m.cls := findClass_of_methodNamed B.named
  have hlocks := B.notSynchronized
  have hK := hE.1
  have hS : va_S (fun q => base ≤ q) s.heap s.heap [] := va_S.rf
  have hAb : ∀ q : Nat, (fun q : Nat => base ≤ q) q → base ≤ q := fun _ h => h
  have hl := lv_entry ([.int (nI b), .int (nI t)]) (n := 5) (Nat.le_of_ble_eq_true rfl)
  rw [lg_entry_eq]
  generalize (lg_sl ([.int (nI b), .int (nI t)]) ++ List.replicate (5 - (lg_sl ([.int (nI b), .int (nI t)])).length) Slot.unset).toArray = ls at hl ⊢
  have hl : lv_has ls 5 [(0, .int (nI b)), (1, .int (nI t))] := hl
  have loop : ∀ (n : Nat) (i : Nat), (i ≤ t) → t - i < n → ∀ ls : Array Slot, lv_has ls 5 [(0, .int (nI b)), (1, .int (nI t)), (2, .long (lN (b ^ i))), (4, .int (nI i))] → W p l e (headSpec wP_power ({ frames := 0, cells := 0, slots := 0, locals := 0 })).room s m ([.int (nI b), .int (nI t)] : List Value).toArray below meth c s.heap [] 0 0 (MQ below (q_P (some (.long (lN (b ^ t))))) ([.int (nI b), .int (nI t)] : List Value).toArray s 0 0 (fun _ => False)) (F0 m 5 ls []) := by
    intro n
    induction n with
    | zero =>
      intro i hi hmu
      exact absurd hmu (Nat.not_lt_zero _)
    | succ n ih =>
      intro i hi hmu ls hl
      refine lv_iload hx hb dP_power_5 (lv_at hl 3 rfl) ?_
      refine lv_iload_n hx hb dP_power_7 rfl (lv_at hl 1 rfl) ?_
      refine x_cge (a := i) (b := t) (tgt := 22) hx hb dP_power_8 (by decide) (by omega) (by omega) (fun h1 => ?_) (fun h1 => ?_)
      · have e1 : i = t := by omega
        subst e1
        refine lv_lload_n hx hb dP_power_22 rfl (lv_at hl 2 rfl) ?_
        exact W.lret (v := lN (b ^ i)) hx hb hr (fun t ht hW => ⟨rfl, ht⟩) (fun q h => absurd h List.not_mem_nil) dP_power_23
      · refine lv_lload_n hx hb dP_power_11 rfl (lv_at hl 2 rfl) ?_
        refine lv_iload_n hx hb dP_power_12 rfl (lv_at hl 0 rfl) ?_
        refine lv_i2l (v := lN b) hx hb dP_power_13 (nI_l (by omega)) ?_
        refine x_lmul (v := lN ((b ^ i) * b)) hx hb dP_power_14 (lN_mul _ _) ?_
        refine x_topl (y := lN (b ^ (i + 1))) (by rw [Nat.pow_succ]) ?_
        refine lv_lstore_n (lv' := [(2, .long (lN (b ^ (i + 1)))), (0, .int (nI b)), (1, .int (nI t)), (4, .int (nI i))]) hx hb dP_power_15 rfl hl (by decide) rfl (fun ls hl => ?_)
        refine lv_iinc (v := nI (i + 1)) (lv' := [(4, .int (nI (i + 1))), (2, .long (lN (b ^ (i + 1)))), (0, .int (nI b)), (1, .int (nI t))]) hx hb dP_power_16 hl (k := 3) rfl (nI_add _ _) (by decide) rfl (fun ls hl => ?_)
        refine lv_goto (tgt := 5) hx hb dP_power_19 (by decide) ?_
        exact ih (i + 1) (by omega) (by omega) ls (lv_sub hl [2, 3, 1, 0] rfl)
  refine lv_lconst (v := lN 1) hx hb dP_power_0 (by decide) ?_
  refine lv_lstore_n (lv' := [(2, .long (lN 1)), (0, .int (nI b)), (1, .int (nI t))]) hx hb dP_power_1 rfl hl (by decide) rfl (fun ls hl => ?_)
  refine lv_iconst (v := nI 0) hx hb dP_power_2 (by decide) ?_
  refine lv_istore (lv' := [(4, .int (nI 0)), (2, .long (lN 1)), (0, .int (nI b)), (1, .int (nI t))]) hx hb dP_power_3 hl (by decide) rfl (fun ls hl => ?_)
  exact loop (t + 1) 0 (Nat.zero_le _) (by omega) ls (lv_sub hl [2, 3, 1, 0] rfl)
