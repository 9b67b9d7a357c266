/-! the mixing of orders -/
theorem ushr33 (h : Int64) : (h.toUInt64 >>> ((nI 33).toInt64.toUInt64 &&& Int64.toUInt64 63)).toInt64 = lN (h.toUInt64.toNat / 2 ^ 33) := by
  rw [show (nI 33).toInt64.toUInt64 &&& Int64.toUInt64 63 = (33 : UInt64) by decide]
  have h1 : (h.toUInt64 >>> (33 : UInt64)).toNat = h.toUInt64.toNat / 2 ^ 33 := by
    rw [UInt64.toNat_shiftRight, Nat.shiftRight_eq_div_pow]
    rfl
  rw [← h1]
  apply Int64.toBitVec_inj.mp
  show (h.toUInt64 >>> (33 : UInt64)).toBitVec = BitVec.ofNat 64 (h.toUInt64 >>> (33 : UInt64)).toNat
  apply BitVec.eq_of_toNat_eq
  rw [BitVec.toNat_ofNat]
  exact (Nat.mod_eq_of_lt (UInt64.toNat_lt _)).symm
theorem upd_nx {F : Nat → Int32} {i : Nat} (hF : ∀ k, k < i → F k = nI k) : ∀ k, k < i + 1 → upd F i (nI i) k = nI k := by
  intro k hk
  by_cases h : k = i
  · simp [upd, h]
  · simp [upd, h, hF k (by omega)]
def lcg (h : Int64) : Int64 := h * 6364136223846793005 + 1442695040888963407
def oth (h : Int64) (i : Nat) : Nat := h.toUInt64.toNat / 2 ^ 33 % (i + 1)
def swp (f : Nat → Nat) (i j : Nat) : Nat → Nat := fun k => if k = j then f i else if k = i then f j else f k
def mixF : Nat → Int64 → (Nat → Nat) → (Nat → Nat)
  | 0, _, f => f
  | i + 1, h, f => mixF i (lcg h) (swp f (i + 1) (oth (lcg h) (i + 1)))
def mixH (sd : Int64) (t b : Nat) : Int64 := sd + lN (1000003 * t) + lN (7919 * b)
def mixR (n : Nat) (sd : Int64) (t b : Nat) : Nat → Nat := mixF (n - 1) (mixH sd t b) (fun k => k)
/-- the order that taster i gets in test t, of n orders -/
def ordv (n : Nat) (sd : Int64) (t i : Nat) : Nat := mixR n sd t (i / n) (i % n)
theorem z33 (h : Int64) : h.toUInt64.toNat / 2 ^ 33 < 2 ^ 31 := by
  have := h.toUInt64.toNat_lt
  omega
theorem swp_lt {f : Nat → Nat} {i j n : Nat} (hf : ∀ k, k < n → f k < n) (hi : i < n) (hj : j < n) : ∀ k, k < n → swp f i j k < n := by
  intro k hk
  unfold swp
  split
  · exact hf i hi
  · split
    · exact hf j hj
    · exact hf k hk
theorem mixF_lt : ∀ (x : Nat) (h : Int64) (f : Nat → Nat) (n : Nat), x < n → (∀ k, k < n → f k < n) → ∀ k, k < n → mixF x h f k < n
  | 0, _, _, _, _, hf => hf
  | x + 1, h, f, n, hx, hf => by
    unfold mixF
    have ho : oth (lcg h) (x + 1) < x + 1 + 1 := Nat.mod_lt _ (by omega)
    exact mixF_lt x _ _ n (by omega) (swp_lt hf hx (by omega))
theorem mixR_lt {n : Nat} (sd : Int64) (t b : Nat) (hn : 0 < n) (k : Nat) (hk : k < n) : mixR n sd t b k < n := mixF_lt (n - 1) _ _ n (by omega) (fun _ h => h) k hk
theorem ordv_lt {n : Nat} (sd : Int64) (t i : Nat) (hn : 0 < n) : ordv n sd t i < n := mixR_lt sd t _ hn _ (Nat.mod_lt _ hn)
theorem swp_F {F : Nat → Int32} {f : Nat → Nat} {i j n : Nat} (hF : ∀ k, k < n → F k = nI (f k)) (hi : i < n) (hj : j < n) : ∀ k, k < n → upd (upd F i (F j)) j (F i) k = nI (swp f i j k) := by
  intro k hk
  by_cases h1 : k = j
  · simp [upd, swp, h1, hF i hi]
  · by_cases h2 : k = i
    · subst h2
      simp [upd, swp, h1, hF j hj]
    · simp [upd, swp, h1, h2, hF k hk]
set_option maxHeartbeats 400000 in
set_option maxRecDepth 100000 in
theorem c_P_mixOrders (l : Launch) (D : va_G) (κ : Nat → ClassId) (base : Nat) (H0 : Heap) {a nT nS : Nat} {sd : Int64} {Fz : Nat → Int32} (n t b : Nat) (hn1 : 1 ≤ n) (hn2 : n ≤ 120) (ht : t < 2 ^ 31) (hb0 : b < 2 ^ 31) (hP : va_P D vwCl [(a, .inr (2, [.long sd, .ref (a + 1), .ref (a + 2), .int (nI nT), .int (nI nS), .ref (a + 3), .ref (a + 4)])), ((a + 3), .inl (κ 0, 120, .inl Fz))] H0) (hD0 : va_D (fun q => base ≤ q) [(a, .inr (2, [.long sd, .ref (a + 1), .ref (a + 2), .int (nI nT), .int (nI nS), .ref (a + 3), .ref (a + 4)])), ((a + 3), .inl (κ 0, 120, .inl Fz))]) (hbs : base ≤ H0.size)  : Met l yP_mixOrders wP_mixOrders ({ frames := 0, cells := 0, slots := 0, locals := 0 }) (Pq D κ base [.ref a, .int (nI n), .int (nI t), .int (nI b)] H0) (q_W (fun v H => ∃ F : Nat → Int32, Pst D (va_A [(a, .inr (2, [.long sd, .ref (a + 1), .ref (a + 2), .int (nI nT), .int (nI nS), .ref (a + 3), .ref (a + 4)])), ((a + 3), .inl (κ 0, 120, .inl Fz))] H0.size) H0 none [(a, .inr (2, [.long sd, .ref (a + 1), .ref (a + 2), .int (nI nT), .int (nI nS), .ref (a + 3), .ref (a + 4)])), ((a + 3), .inl (κ 0, 120, .inl F))] v H ∧ ∀ k, k < n → F k = nI (mixR n sd t b k))) 0 0 (va_A [(a, .inr (2, [.long sd, .ref (a + 1), .ref (a + 2), .int (nI nT), .int (nI nS), .ref (a + 3), .ref (a + 4)])), ((a + 3), .inl (κ 0, 120, .inl Fz))] H0.size) := by
  refine Met.ofW (cc := bP_mixOrders) (maxL := 9) (ret := none) (by decide) rfl ?_
  intro p e s m args below meth c s₁ B hml hv
  obtain ⟨rfl, hH, hE⟩ := hv
  subst hH
  have hx := B.exec
  have hb := B.bytes
  have hr := B.returns
  have hT : ∀ w ∈ TT, w.before _ s = true := fun w h => atoms_spec (ws := wP_mixOrders) B.pre w (List.mem_cons_of_mem _ h)
  have hown : s.vm.findClass "TasterPanels" = some m.cls := findClass_of_methodNamed B.named
  have hlocks := B.notSynchronized
  have hK := hE.1
  have hD := hD0.self (sz := s.heap.size)
  have hAb : ∀ x9, va_A [(a, .inr (2, [.long sd, .ref (a + 1), .ref (a + 2), .int (nI nT), .int (nI nS), .ref (a + 3), .ref (a + 4)])), ((a + 3), .inl (κ 0, 120, .inl Fz))] s.heap.size x9 → base ≤ x9 := fun x9 h => by rcases h with ⟨k, e, h⟩ | h; exact hD0.2 k _ h; exact Nat.le_trans hbs h
  generalize hAe : va_A [(a, .inr (2, [.long sd, .ref (a + 1), .ref (a + 2), .int (nI nT), .int (nI nS), .ref (a + 3), .ref (a + 4)])), ((a + 3), .inl (κ 0, 120, .inl Fz))] s.heap.size = A at hD hAb ⊢
  have hA : ∀ x9, s.heap.size ≤ x9 → A x9 := fun x9 h => by rw [← hAe]; exact Or.inr h
  have hS : va_S A s.heap s.heap [] := va_S.rf
  have hl := lv_entry ([.ref a, .int (nI n), .int (nI t), .int (nI b)]) (n := 9) (Nat.le_of_ble_eq_true rfl)
  rw [lg_entry_eq]
  generalize (lg_sl ([.ref a, .int (nI n), .int (nI t), .int (nI b)]) ++ List.replicate (9 - (lg_sl ([.ref a, .int (nI n), .int (nI t), .int (nI b)])).length) Slot.unset).toArray = ls at hl ⊢
  have hl : lv_has ls 9 [(0, .ref a), (1, .int (nI n)), (2, .int (nI t)), (3, .int (nI b))] := hl
  have loop2 : ∀ (fu : Nat) (x : Nat) (hh : Int64) (f : Nat → Nat) (F : Nat → Int32) (H : Heap) (locs : List Loc), (x < n) → (∀ k, k < n → F k = nI (f k)) → (mixF x hh f = mixR n sd t b) → va_P D vwCl [(a, .inr (2, [.long sd, .ref (a + 1), .ref (a + 2), .int (nI nT), .int (nI nS), .ref (a + 3), .ref (a + 4)])), ((a + 3), .inl (κ 0, 120, .inl F))] H → va_D A [(a, .inr (2, [.long sd, .ref (a + 1), .ref (a + 2), .int (nI nT), .int (nI nS), .ref (a + 3), .ref (a + 4)])), ((a + 3), .inl (κ 0, 120, .inl F))] → va_S A s.heap H locs → x < fu → ∀ ls : Array Slot, lv_has ls 9 [(0, .ref a), (1, .int (nI n)), (6, .int (nI x)), (4, .long hh)] → W p l e (headSpec wP_mixOrders ({ frames := 0, cells := 0, slots := 0, locals := 0 })).room s m ([.ref a, .int (nI n), .int (nI t), .int (nI b)] : List Value).toArray below meth c H locs 0 0 (MQ below (q_W (fun v H => ∃ F : Nat → Int32, Pst D A s.heap none [(a, .inr (2, [.long sd, .ref (a + 1), .ref (a + 2), .int (nI nT), .int (nI nS), .ref (a + 3), .ref (a + 4)])), ((a + 3), .inl (κ 0, 120, .inl F))] v H ∧ ∀ k, k < n → F k = nI (mixR n sd t b k))) ([.ref a, .int (nI n), .int (nI t), .int (nI b)] : List Value).toArray s 0 0 A) (F0 m 49 ls []) := by
    intro fu
    induction fu with
    | zero =>
      intro x hh f F H locs hx1 hF heq hP hD hS hmu
      exact absurd hmu (Nat.not_lt_zero _)
    | succ fu ih =>
      intro x hh f F H locs hx1 hF heq hP hD hS hmu ls hl
      refine lv_iload hx hb dP_mixOrders_49 (lv_at hl 2 rfl) ?_
      refine lv_iconst (v := nI 1) hx hb dP_mixOrders_51 (by decide) ?_
      refine x_clt (a := x) (b := 1) (tgt := 119) hx hb dP_mixOrders_52 (by decide) (by omega) (by omega) (fun h1 => ?_) (fun h1 => ?_)
      · have e1 : x = 0 := by omega
        subst e1
        exact W.vret hx hb hr (fun t9 ht9 hW9 => ⟨none, rfl, by rw [ht9]; exact ⟨F, ⟨rfl, hP, hD, hS.1, hS.2.1⟩, fun k hk => by rw [← heq]; exact hF k hk⟩⟩) hS.2.2 dP_mixOrders_119
      · obtain ⟨y, rfl⟩ : ∃ y, x = y + 1 := ⟨x - 1, by omega⟩
        refine lv_lload hx hb dP_mixOrders_55 (lv_at hl 3 rfl) ?_
        refine lv_ldc2 (v := 6364136223846793005) hx hb hown (hT _ kP171) dP_mixOrders_57 ?_
        refine x_lmul (v := hh * 6364136223846793005) hx hb dP_mixOrders_60 (rfl) ?_
        refine lv_ldc2 (v := 1442695040888963407) hx hb hown (hT _ kP173) dP_mixOrders_61 ?_
        refine x_ladd (v := (hh * 6364136223846793005) + 1442695040888963407) hx hb dP_mixOrders_64 (rfl) ?_
        refine x_topl (y := lcg hh) (rfl) ?_
        have hz33 := z33 (lcg hh)
        refine lv_lstore (lv' := [(4, .long (lcg hh)), (0, .ref a), (1, .int (nI n)), (6, .int (nI (y + 1)))]) hx hb dP_mixOrders_65 hl (by decide) rfl (fun ls hl => ?_)
        refine lv_lload hx hb dP_mixOrders_67 (lv_at hl 0 rfl) ?_
        refine lv_bipush (v := nI 33) hx hb dP_mixOrders_69 (by decide) ?_
        refine lv_lushr (v := lN ((lcg hh).toUInt64.toNat / 2 ^ 33)) hx hb dP_mixOrders_71 (ushr33 _) ?_
        refine lv_iload hx hb dP_mixOrders_72 (lv_at hl 3 rfl) ?_
        refine lv_iconst (v := nI 1) hx hb dP_mixOrders_74 (by decide) ?_
        refine x_iadd (v := nI ((y + 1) + 1)) hx hb dP_mixOrders_75 (nI_add _ _) ?_
        refine lv_i2l (v := lN ((y + 1) + 1)) hx hb dP_mixOrders_76 (nI_l (by omega)) ?_
        refine x_lrem (v := lN (((lcg hh).toUInt64.toNat / 2 ^ 33) % ((y + 1) + 1))) hx hb dP_mixOrders_77 (lN_ne0 (by omega) (by omega)) (pk_lRem (by omega) (by omega) (by omega)) ?_
        refine lv_l2i (v := nI (((lcg hh).toUInt64.toNat / 2 ^ 33) % ((y + 1) + 1))) hx hb dP_mixOrders_78 (lN_i _) ?_
        refine x_topn (b := oth (lcg hh) (y + 1)) (rfl) ?_
        have ho : oth (lcg hh) (y + 1) < y + 1 + 1 := Nat.mod_lt _ (by omega)
        refine lv_istore (lv' := [(7, .int (nI (oth (lcg hh) (y + 1)))), (4, .long (lcg hh)), (0, .ref a), (1, .int (nI n)), (6, .int (nI (y + 1)))]) hx hb dP_mixOrders_79 hl (by decide) rfl (fun ls hl => ?_)
        refine lv_aload_n hx hb dP_mixOrders_81 rfl (lv_at hl 2 rfl) ?_
        refine va_get (D := D) (ci := 2) (v := .ref (a + 3)) (C := RP) (T := FP) (N := 7) hx hb hT inP hown hK hP 0 rfl rfl 5 (by decide) (hT _ kP21) (fun _ h9 => h9) rfl dP_mixOrders_82 ?_
        refine lv_iload hx hb dP_mixOrders_85 (lv_at hl 4 rfl) ?_
        refine x_iald hx hb hK hP 1 0 (j := y + 1) (v := F (y + 1)) rfl rfl (by omega) (by decide) (rfl) dP_mixOrders_87 ?_
        refine lv_istore (lv' := [(8, .int (F (y + 1))), (7, .int (nI (oth (lcg hh) (y + 1)))), (4, .long (lcg hh)), (0, .ref a), (1, .int (nI n)), (6, .int (nI (y + 1)))]) hx hb dP_mixOrders_88 hl (by decide) rfl (fun ls hl => ?_)
        refine lv_aload_n hx hb dP_mixOrders_90 rfl (lv_at hl 3 rfl) ?_
        refine va_get (D := D) (ci := 2) (v := .ref (a + 3)) (C := RP) (T := FP) (N := 7) hx hb hT inP hown hK hP 0 rfl rfl 5 (by decide) (hT _ kP21) (fun _ h9 => h9) rfl dP_mixOrders_91 ?_
        refine lv_iload hx hb dP_mixOrders_94 (lv_at hl 5 rfl) ?_
        refine lv_aload_n hx hb dP_mixOrders_96 rfl (lv_at hl 3 rfl) ?_
        refine va_get (D := D) (ci := 2) (v := .ref (a + 3)) (C := RP) (T := FP) (N := 7) hx hb hT inP hown hK hP 0 rfl rfl 5 (by decide) (hT _ kP21) (fun _ h9 => h9) rfl dP_mixOrders_97 ?_
        refine lv_iload hx hb dP_mixOrders_100 (lv_at hl 1 rfl) ?_
        refine x_iald hx hb hK hP 1 0 (j := oth (lcg hh) (y + 1)) (v := F (oth (lcg hh) (y + 1))) rfl rfl (by omega) (by decide) (rfl) dP_mixOrders_102 ?_
        refine x_iast hx hb hK hP hD hS 1 0 (j := y + 1) rfl rfl (by omega) (by decide) dP_mixOrders_103 (fun H locs hP hD hS => ?_)
        have hP : va_P D vwCl [(a, .inr (2, [.long sd, .ref (a + 1), .ref (a + 2), .int (nI nT), .int (nI nS), .ref (a + 3), .ref (a + 4)])), ((a + 3), .inl (κ 0, 120, .inl (upd F (y + 1) (F (oth (lcg hh) (y + 1))))))] H := hP
        have hD : va_D A [(a, .inr (2, [.long sd, .ref (a + 1), .ref (a + 2), .int (nI nT), .int (nI nS), .ref (a + 3), .ref (a + 4)])), ((a + 3), .inl (κ 0, 120, .inl (upd F (y + 1) (F (oth (lcg hh) (y + 1))))))] := hD
        refine lv_aload_n hx hb dP_mixOrders_104 rfl (lv_at hl 3 rfl) ?_
        refine va_get (D := D) (ci := 2) (v := .ref (a + 3)) (C := RP) (T := FP) (N := 7) hx hb hT inP hown hK hP 0 rfl rfl 5 (by decide) (hT _ kP21) (fun _ h9 => h9) rfl dP_mixOrders_105 ?_
        refine lv_iload hx hb dP_mixOrders_108 (lv_at hl 1 rfl) ?_
        refine lv_iload hx hb dP_mixOrders_110 (lv_at hl 0 rfl) ?_
        refine x_iast hx hb hK hP hD hS 1 0 (j := oth (lcg hh) (y + 1)) rfl rfl (by omega) (by decide) dP_mixOrders_112 (fun H locs hP hD hS => ?_)
        have hP : va_P D vwCl [(a, .inr (2, [.long sd, .ref (a + 1), .ref (a + 2), .int (nI nT), .int (nI nS), .ref (a + 3), .ref (a + 4)])), ((a + 3), .inl (κ 0, 120, .inl (upd (upd F (y + 1) (F (oth (lcg hh) (y + 1)))) (oth (lcg hh) (y + 1)) (F (y + 1)))))] H := hP
        have hD : va_D A [(a, .inr (2, [.long sd, .ref (a + 1), .ref (a + 2), .int (nI nT), .int (nI nS), .ref (a + 3), .ref (a + 4)])), ((a + 3), .inl (κ 0, 120, .inl (upd (upd F (y + 1) (F (oth (lcg hh) (y + 1)))) (oth (lcg hh) (y + 1)) (F (y + 1)))))] := hD
        refine lv_iinc (v := nI y) (lv' := [(6, .int (nI y)), (8, .int (F (y + 1))), (7, .int (nI (oth (lcg hh) (y + 1)))), (4, .long (lcg hh)), (0, .ref a), (1, .int (nI n))]) hx hb dP_mixOrders_113 hl (k := 5) rfl (pk_m1 _) (by decide) rfl (fun ls hl => ?_)
        refine lv_goto (tgt := 49) hx hb dP_mixOrders_116 (by decide) ?_
        exact ih y (lcg hh) (swp f (y + 1) (oth (lcg hh) (y + 1))) _ _ _ (by omega) (swp_F hF (by omega) (by omega)) heq hP hD hS (by omega) ls (lv_sub hl [4, 5, 0, 3] rfl)
  have loop1 : ∀ (fu : Nat) (i : Nat) (F : Nat → Int32) (H : Heap) (locs : List Loc), (i ≤ n) → (∀ k, k < i → F k = nI k) → va_P D vwCl [(a, .inr (2, [.long sd, .ref (a + 1), .ref (a + 2), .int (nI nT), .int (nI nS), .ref (a + 3), .ref (a + 4)])), ((a + 3), .inl (κ 0, 120, .inl F))] H → va_D A [(a, .inr (2, [.long sd, .ref (a + 1), .ref (a + 2), .int (nI nT), .int (nI nS), .ref (a + 3), .ref (a + 4)])), ((a + 3), .inl (κ 0, 120, .inl F))] → va_S A s.heap H locs → n - i < fu → ∀ ls : Array Slot, lv_has ls 9 [(0, .ref a), (1, .int (nI n)), (2, .int (nI t)), (3, .int (nI b)), (4, .int (nI i))] → W p l e (headSpec wP_mixOrders ({ frames := 0, cells := 0, slots := 0, locals := 0 })).room s m ([.ref a, .int (nI n), .int (nI t), .int (nI b)] : List Value).toArray below meth c H locs 0 0 (MQ below (q_W (fun v H => ∃ F : Nat → Int32, Pst D A s.heap none [(a, .inr (2, [.long sd, .ref (a + 1), .ref (a + 2), .int (nI nT), .int (nI nS), .ref (a + 3), .ref (a + 4)])), ((a + 3), .inl (κ 0, 120, .inl F))] v H ∧ ∀ k, k < n → F k = nI (mixR n sd t b k))) ([.ref a, .int (nI n), .int (nI t), .int (nI b)] : List Value).toArray s 0 0 A) (F0 m 3 ls []) := by
    intro fu
    induction fu with
    | zero =>
      intro i F H locs hi hF hP hD hS hmu
      exact absurd hmu (Nat.not_lt_zero _)
    | succ fu ih =>
      intro i F H locs hi hF hP hD hS hmu ls hl
      refine lv_iload hx hb dP_mixOrders_3 (lv_at hl 4 rfl) ?_
      refine lv_iload_n hx hb dP_mixOrders_5 rfl (lv_at hl 1 rfl) ?_
      refine x_cge (a := i) (b := n) (tgt := 24) hx hb dP_mixOrders_6 (by decide) (by omega) (by omega) (fun h2 => ?_) (fun h2 => ?_)
      · have hF2 : ∀ k, k < n → F k = nI k := fun k hk => hF k (by omega)
        refine lv_aload_n hx hb dP_mixOrders_24 rfl (lv_at hl 0 rfl) ?_
        refine va_get (D := D) (ci := 2) (v := .long sd) (C := RP) (T := FP) (N := 7) hx hb hT inP hown hK hP 0 rfl rfl 0 (by decide) (hT _ kP29) (fun _ h9 => h9) rfl dP_mixOrders_25 ?_
        refine lv_ldc2 (v := lN 1000003) hx hb hown (hT _ kP167) dP_mixOrders_28 ?_
        refine lv_iload_n hx hb dP_mixOrders_31 rfl (lv_at hl 2 rfl) ?_
        refine lv_i2l (v := lN t) hx hb dP_mixOrders_32 (nI_l (by omega)) ?_
        refine x_lmul (v := lN (1000003 * t)) hx hb dP_mixOrders_33 (lN_mul _ _) ?_
        refine x_ladd (v := sd + (lN (1000003 * t))) hx hb dP_mixOrders_34 (rfl) ?_
        refine lv_ldc2 (v := lN 7919) hx hb hown (hT _ kP169) dP_mixOrders_35 ?_
        refine lv_iload_n hx hb dP_mixOrders_38 rfl (lv_at hl 3 rfl) ?_
        refine lv_i2l (v := lN b) hx hb dP_mixOrders_39 (nI_l (by omega)) ?_
        refine x_lmul (v := lN (7919 * b)) hx hb dP_mixOrders_40 (lN_mul _ _) ?_
        refine x_ladd (v := (sd + (lN (1000003 * t))) + (lN (7919 * b))) hx hb dP_mixOrders_41 (rfl) ?_
        refine x_topl (y := mixH sd t b) (rfl) ?_
        refine lv_lstore (lv' := [(4, .long (mixH sd t b)), (0, .ref a), (1, .int (nI n)), (2, .int (nI t)), (3, .int (nI b))]) hx hb dP_mixOrders_42 hl (by decide) rfl (fun ls hl => ?_)
        refine lv_iload_n hx hb dP_mixOrders_44 rfl (lv_at hl 2 rfl) ?_
        refine lv_iconst (v := nI 1) hx hb dP_mixOrders_45 (by decide) ?_
        refine x_isub (v := nI (n - 1)) hx hb dP_mixOrders_46 (pk_sub (by omega)) ?_
        refine lv_istore (lv' := [(6, .int (nI (n - 1))), (4, .long (mixH sd t b)), (0, .ref a), (1, .int (nI n)), (2, .int (nI t)), (3, .int (nI b))]) hx hb dP_mixOrders_47 hl (by decide) rfl (fun ls hl => ?_)
        exact loop2 (n + 1) (n - 1) (mixH sd t b) (fun k => k) F _ _ (by omega) hF2 rfl hP hD hS (by omega) ls (lv_sub hl [2, 3, 0, 1] rfl)
      · refine lv_aload_n hx hb dP_mixOrders_9 rfl (lv_at hl 0 rfl) ?_
        refine va_get (D := D) (ci := 2) (v := .ref (a + 3)) (C := RP) (T := FP) (N := 7) hx hb hT inP hown hK hP 0 rfl rfl 5 (by decide) (hT _ kP21) (fun _ h9 => h9) rfl dP_mixOrders_10 ?_
        refine lv_iload hx hb dP_mixOrders_13 (lv_at hl 4 rfl) ?_
        refine lv_iload hx hb dP_mixOrders_15 (lv_at hl 4 rfl) ?_
        refine x_iast hx hb hK hP hD hS 1 0 (j := i) rfl rfl (by omega) (by decide) dP_mixOrders_17 (fun H locs hP hD hS => ?_)
        have hP : va_P D vwCl [(a, .inr (2, [.long sd, .ref (a + 1), .ref (a + 2), .int (nI nT), .int (nI nS), .ref (a + 3), .ref (a + 4)])), ((a + 3), .inl (κ 0, 120, .inl (upd F i (nI i))))] H := hP
        have hD : va_D A [(a, .inr (2, [.long sd, .ref (a + 1), .ref (a + 2), .int (nI nT), .int (nI nS), .ref (a + 3), .ref (a + 4)])), ((a + 3), .inl (κ 0, 120, .inl (upd F i (nI i))))] := hD
        refine lv_iinc (v := nI (i + 1)) (lv' := [(4, .int (nI (i + 1))), (0, .ref a), (1, .int (nI n)), (2, .int (nI t)), (3, .int (nI b))]) hx hb dP_mixOrders_18 hl (k := 4) rfl (nI_add _ _) (by decide) rfl (fun ls hl => ?_)
        refine lv_goto (tgt := 3) hx hb dP_mixOrders_21 (by decide) ?_
        exact ih (i + 1) (upd F i (nI i)) _ _ (by omega) (upd_nx hF) hP hD hS (by omega) ls (lv_sub hl [1, 2, 3, 4, 0] rfl)
  refine lv_iconst (v := nI 0) hx hb dP_mixOrders_0 (by decide) ?_
  refine lv_istore (lv' := [(4, .int (nI 0)), (0, .ref a), (1, .int (nI n)), (2, .int (nI t)), (3, .int (nI b))]) hx hb dP_mixOrders_1 hl (by decide) rfl (fun ls hl => ?_)
  exact loop1 (n + 1) 0 Fz _ _ (by omega) (fun k hk => absurd hk (Nat.not_lt_zero _)) hP hD hS (by omega) ls (lv_sub hl [1, 2, 3, 4, 0] rfl)
