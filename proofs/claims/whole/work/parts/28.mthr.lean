def lstM : Option Nat → Int32
  | none => nI 16
  | some m => nI m
def thF : Option Nat → Option Nat → Option Nat → UInt64
  | _, _, none => FP.dconst0
  | none, _, some h => FP.dmul 4611686018427387904 (strv h)
  | some m, none, some _ => FP.ddiv (strv m) 4611686018427387904
  | some m, some q, some _ => FP.ddiv (FP.dadd (strv m) (strv q)) 4611686018427387904
def thM (st : Nat → Nat) : Nat → Option Nat → Option Nat → Option Nat → UInt64
  | 0, lo, be, hi => thF lo be hi
  | k + 1, lo, be, hi => if st k = 0 then thM st k lo be hi else thM st k (if be = none ∧ st k = 2 then some k else lo) (if be = none ∧ st k = 1 then some k else be) (if hi = none then some k else hi)
theorem th5 : ∀ k, k < 16 → FP.dmul 4611686018427387904 (strv k) &&& 0x7fffffffffffffff ≤ 0x7ff0000000000000 := by decide +kernel
theorem th6 : ∀ k, k < 16 → FP.dmul 4611686018427387904 (strv k) = FP.dmul (strv k) 4611686018427387904 := by decide +kernel
set_option maxHeartbeats 400000 in
set_option maxRecDepth 100000 in
theorem c_M_threshold (l : Launch) (D : va_G) (κ : Nat → ClassId) (base : Nat) (H0 : Heap) {b : Nat} {sd : Int64} {nT nS th : Nat} {mk ms ma mr mt : Nat → Nat} (hR : RMo D κ base b sd nT nS mk ms ma mr mt th H0) (x : Int32) (r : UInt64) (p0 : noT nT x → r = 13830554455654793216) (p1 : ∀ i, i < nT → x = nI i → r = thM (fun k => mt (16 * i + k)) 16 none none none) : Met l yM_threshold wM_threshold ({ frames := 1, cells := 0, slots := 0, locals := 21 }) (Pq D κ base [.ref b, .int x] H0) (q_W (fun v H => v = some (.double r) ∧ RMo D κ base b sd nT nS mk ms ma mr mt 0 H ∧ FrM b H0 H)) 0 0 (OwnM b H0.size) := by
  refine Met.ofW (cc := bM_threshold) (maxL := 7) (ret := (some FieldType.double)) (by decide) rfl ?_
  intro p e s m args below meth c s₁ B hml hv
  obtain ⟨rfl, hH, hE⟩ := hv
  subst hH
  have hx := B.exec
  have hb := B.bytes
  have hr := B.returns
  have hT : ∀ w ∈ TT, w.before _ s = true := fun w h => atoms_spec (ws := wM_threshold) B.pre w (List.mem_cons_of_mem _ h)
  have hown : s.vm.findClass "TasterPanelsModel" = some m.cls := findClass_of_methodNamed B.named
  have hlocks := B.notSynchronized
  have hK := hE.1
  have hS : va_S (fun q => base ≤ q) s.heap s.heap [] := va_S.rf
  have hAb : ∀ q : Nat, (fun q : Nat => base ≤ q) q → base ≤ q := fun _ h => h
  have hl := lv_entry ([.ref b, .int x]) (n := 7) (Nat.le_of_ble_eq_true rfl)
  rw [lg_entry_eq]
  generalize (lg_sl ([.ref b, .int x]) ++ List.replicate (7 - (lg_sl ([.ref b, .int x])).length) Slot.unset).toArray = ls at hl ⊢
  have hl : lv_has ls 7 [(0, .ref b), (1, .int x)] := hl
  obtain ⟨⟨F, wy, nx, hP⟩, ⟨hnT, hnS, hba, hbh, hth⟩, hmk, hma, hmr, hmt⟩ := hR
  have hbs : base ≤ s.heap.size := by omega
  have hP : va_P D vwCl [(b, .inr (3, [.long sd, .int (nI nT), .int (nI nS), .ref (b + 1), .ref (b + 2), .ref (b + 3), .ref (b + 4), .ref (b + 5), .ref (b + 6), .ref (b + 7), .ref (b + 8), .int (nI th)])), ((b + 1), .inl (κ 0, 40, .inl (fun j => nI (mk j)))), ((b + 2), .inl (κ 0, 40, .inl (fun j => nI (ms j)))), ((b + 3), .inl (κ 0, 1040, .inl (fun x => nI (ma x)))), ((b + 4), .inl (κ 0, 5200, .inl (fun x => nI (mr x)))), ((b + 5), .inl (κ 0, 416, .inl (fun x => nI (mt x)))), ((b + 6), .inl (κ 0, 120, .inl F)), ((b + 7), .inl (κ 2, 140, .inr (.inl wy))), ((b + 8), .inl (κ 2, 140, .inr (.inl nx)))] s.heap := hP
  have hnd : ([(b, .inr (3, [.long sd, .int (nI nT), .int (nI nS), .ref (b + 1), .ref (b + 2), .ref (b + 3), .ref (b + 4), .ref (b + 5), .ref (b + 6), .ref (b + 7), .ref (b + 8), .int (nI th)])), ((b + 1), .inl (κ 0, 40, .inl (fun j => nI (mk j)))), ((b + 2), .inl (κ 0, 40, .inl (fun j => nI (ms j)))), ((b + 3), .inl (κ 0, 1040, .inl (fun x => nI (ma x)))), ((b + 4), .inl (κ 0, 5200, .inl (fun x => nI (mr x)))), ((b + 5), .inl (κ 0, 416, .inl (fun x => nI (mt x)))), ((b + 6), .inl (κ 0, 120, .inl F)), ((b + 7), .inl (κ 2, 140, .inr (.inl wy))), ((b + 8), .inl (κ 2, 140, .inr (.inl nx)))] : va_W).map Prod.fst |>.Nodup := by simp only [List.map, List.nodup_cons, List.mem_cons, List.not_mem_nil, or_false, not_or, List.nodup_nil, and_true, not_false_eq_true, List.forall_mem_cons, forall_eq_or_imp, forall_eq]; omega
  have hD0 : va_D (fun q => base ≤ q) [(b, .inr (3, [.long sd, .int (nI nT), .int (nI nS), .ref (b + 1), .ref (b + 2), .ref (b + 3), .ref (b + 4), .ref (b + 5), .ref (b + 6), .ref (b + 7), .ref (b + 8), .int (nI th)])), ((b + 1), .inl (κ 0, 40, .inl (fun j => nI (mk j)))), ((b + 2), .inl (κ 0, 40, .inl (fun j => nI (ms j)))), ((b + 3), .inl (κ 0, 1040, .inl (fun x => nI (ma x)))), ((b + 4), .inl (κ 0, 5200, .inl (fun x => nI (mr x)))), ((b + 5), .inl (κ 0, 416, .inl (fun x => nI (mt x)))), ((b + 6), .inl (κ 0, 120, .inl F)), ((b + 7), .inl (κ 2, 140, .inr (.inl wy))), ((b + 8), .inl (κ 2, 140, .inr (.inl nx)))] := D_of hnd (by simp only [List.map, List.nodup_cons, List.mem_cons, List.not_mem_nil, or_false, not_or, List.nodup_nil, and_true, not_false_eq_true, List.forall_mem_cons, forall_eq_or_imp, forall_eq]; omega)
  have hD := hD0.self (sz := s.heap.size)
  have hAO : ∀ x9, va_A [(b, .inr (3, [.long sd, .int (nI nT), .int (nI nS), .ref (b + 1), .ref (b + 2), .ref (b + 3), .ref (b + 4), .ref (b + 5), .ref (b + 6), .ref (b + 7), .ref (b + 8), .int (nI th)])), ((b + 1), .inl (κ 0, 40, .inl (fun j => nI (mk j)))), ((b + 2), .inl (κ 0, 40, .inl (fun j => nI (ms j)))), ((b + 3), .inl (κ 0, 1040, .inl (fun x => nI (ma x)))), ((b + 4), .inl (κ 0, 5200, .inl (fun x => nI (mr x)))), ((b + 5), .inl (κ 0, 416, .inl (fun x => nI (mt x)))), ((b + 6), .inl (κ 0, 120, .inl F)), ((b + 7), .inl (κ 2, 140, .inr (.inl wy))), ((b + 8), .inl (κ 2, 140, .inr (.inl nx)))] s.heap.size x9 → OwnM b s.heap.size x9 := fun x9 h => by have h2 := A_addr h; simp only [List.map, List.mem_cons, List.not_mem_nil, or_false] at h2; unfold OwnM; omega
  have hAb : ∀ x9, va_A [(b, .inr (3, [.long sd, .int (nI nT), .int (nI nS), .ref (b + 1), .ref (b + 2), .ref (b + 3), .ref (b + 4), .ref (b + 5), .ref (b + 6), .ref (b + 7), .ref (b + 8), .int (nI th)])), ((b + 1), .inl (κ 0, 40, .inl (fun j => nI (mk j)))), ((b + 2), .inl (κ 0, 40, .inl (fun j => nI (ms j)))), ((b + 3), .inl (κ 0, 1040, .inl (fun x => nI (ma x)))), ((b + 4), .inl (κ 0, 5200, .inl (fun x => nI (mr x)))), ((b + 5), .inl (κ 0, 416, .inl (fun x => nI (mt x)))), ((b + 6), .inl (κ 0, 120, .inl F)), ((b + 7), .inl (κ 2, 140, .inr (.inl wy))), ((b + 8), .inl (κ 2, 140, .inr (.inl nx)))] s.heap.size x9 → base ≤ x9 := fun x9 h => by have h2 := hAO x9 h; unfold OwnM at h2; omega
  generalize hAe : va_A [(b, .inr (3, [.long sd, .int (nI nT), .int (nI nS), .ref (b + 1), .ref (b + 2), .ref (b + 3), .ref (b + 4), .ref (b + 5), .ref (b + 6), .ref (b + 7), .ref (b + 8), .int (nI th)])), ((b + 1), .inl (κ 0, 40, .inl (fun j => nI (mk j)))), ((b + 2), .inl (κ 0, 40, .inl (fun j => nI (ms j)))), ((b + 3), .inl (κ 0, 1040, .inl (fun x => nI (ma x)))), ((b + 4), .inl (κ 0, 5200, .inl (fun x => nI (mr x)))), ((b + 5), .inl (κ 0, 416, .inl (fun x => nI (mt x)))), ((b + 6), .inl (κ 0, 120, .inl F)), ((b + 7), .inl (κ 2, 140, .inr (.inl wy))), ((b + 8), .inl (κ 2, 140, .inr (.inl nx)))] s.heap.size = A at hD hAO hAb
  have hA : ∀ x9, s.heap.size ≤ x9 → A x9 := fun x9 h => by rw [← hAe]; exact Or.inr h
  have hS : va_S A s.heap s.heap [] := va_S.rf
  refine lv_aload_n hx hb dM_threshold_0 rfl (lv_at hl 0 rfl) ?_
  refine lv_iconst (v := nI 0) hx hb dM_threshold_1 (by decide) ?_
  refine va_put (D := D) (ci := 3) (v := .int (nI 0)) (ty := .int) (C := RM) (T := FM) (N := 12) hx hb hT inM tyM tyM_ok nmM hown hK hP hD hS 0 rfl rfl 11 (by decide) (hT _ kM39) (fun _ h9 => h9) rfl (by decide +kernel) rfl rfl (Nat.le_of_ble_eq_true rfl) dM_threshold_2 (fun H locs hP hD hS => ?_)
  have hP : va_P D vwCl [(b, .inr (3, [.long sd, .int (nI nT), .int (nI nS), .ref (b + 1), .ref (b + 2), .ref (b + 3), .ref (b + 4), .ref (b + 5), .ref (b + 6), .ref (b + 7), .ref (b + 8), .int (nI 0)])), ((b + 1), .inl (κ 0, 40, .inl (fun j => nI (mk j)))), ((b + 2), .inl (κ 0, 40, .inl (fun j => nI (ms j)))), ((b + 3), .inl (κ 0, 1040, .inl (fun x => nI (ma x)))), ((b + 4), .inl (κ 0, 5200, .inl (fun x => nI (mr x)))), ((b + 5), .inl (κ 0, 416, .inl (fun x => nI (mt x)))), ((b + 6), .inl (κ 0, 120, .inl F)), ((b + 7), .inl (κ 2, 140, .inr (.inl wy))), ((b + 8), .inl (κ 2, 140, .inr (.inl nx)))] H := hP
  have hD : va_D A [(b, .inr (3, [.long sd, .int (nI nT), .int (nI nS), .ref (b + 1), .ref (b + 2), .ref (b + 3), .ref (b + 4), .ref (b + 5), .ref (b + 6), .ref (b + 7), .ref (b + 8), .int (nI 0)])), ((b + 1), .inl (κ 0, 40, .inl (fun j => nI (mk j)))), ((b + 2), .inl (κ 0, 40, .inl (fun j => nI (ms j)))), ((b + 3), .inl (κ 0, 1040, .inl (fun x => nI (ma x)))), ((b + 4), .inl (κ 0, 5200, .inl (fun x => nI (mr x)))), ((b + 5), .inl (κ 0, 416, .inl (fun x => nI (mt x)))), ((b + 6), .inl (κ 0, 120, .inl F)), ((b + 7), .inl (κ 2, 140, .inr (.inl wy))), ((b + 8), .inl (κ 2, 140, .inr (.inl nx)))] := hD
  refine lv_aload_n hx hb dM_threshold_5 rfl (lv_at hl 0 rfl) ?_
  refine lv_iload_n hx hb dM_threshold_6 rfl (lv_at hl 1 rfl) ?_
  rcases whoT nT x with e1 | ⟨i, hi, hi26, rfl⟩
  · refine x_callP (v := .int (nI 0)) (va_runV (As := [.int x]) (rest := []) ⟨hx, hb, hml, hown, hT⟩ (c_M_isTaster l D κ base H (hP.sub [0] rfl) (by omega) x 0 (fun _ => rfl) (fun i hi e => noT_no (by assumption) (by omega) hi e)) (cwV 1 hT (TT_V kM65 kiM_isTaster ksM_isTaster knM kcM_isTaster) rfl rfl rfl (by decide +kernel) ⟨Nat.le_of_ble_eq_true rfl, Nat.le_of_ble_eq_true rfl⟩) (pcV hE hS hAb (va_recv hK hP (ci := 3) (q0 := 0) rfl rfl)) rfl rfl hl.1 rfl (lv_room (Nat.le_of_ble_eq_true rfl)) dM_threshold_7 ⟨Nat.le_of_ble_eq_true rfl, Nat.le_of_ble_eq_true rfl⟩) ?_
    refine x_zne (a := 0) (tgt := 17) hx hb dM_threshold_10 (by decide) (by omega) (fun h1 => absurd rfl h1) (fun h1 => ?_)
    refine lv_ldc2d (v := 13830554455654793216) hx hb hown (hT _ kM125) dM_threshold_13 ?_
    have hP := hP.sub (ws' := [(b, .inr (3, [.long sd, .int (nI nT), .int (nI nS), .ref (b + 1), .ref (b + 2), .ref (b + 3), .ref (b + 4), .ref (b + 5), .ref (b + 6), .ref (b + 7), .ref (b + 8), .int (nI 0)])), ((b + 1), .inl (κ 0, 40, .inl (fun j => nI (mk j)))), ((b + 2), .inl (κ 0, 40, .inl (fun j => nI (ms j)))), ((b + 3), .inl (κ 0, 1040, .inl (fun x => nI (ma x)))), ((b + 4), .inl (κ 0, 5200, .inl (fun x => nI (mr x)))), ((b + 5), .inl (κ 0, 416, .inl (fun x => nI (mt x)))), ((b + 6), .inl (κ 0, 120, .inl F)), ((b + 7), .inl (κ 2, 140, .inr (.inl wy))), ((b + 8), .inl (κ 2, 140, .inr (.inl nx)))]) [0, 1, 2, 3, 4, 5, 6, 7, 8] rfl
    have hD := hD.sub (ws' := [(b, .inr (3, [.long sd, .int (nI nT), .int (nI nS), .ref (b + 1), .ref (b + 2), .ref (b + 3), .ref (b + 4), .ref (b + 5), .ref (b + 6), .ref (b + 7), .ref (b + 8), .int (nI 0)])), ((b + 1), .inl (κ 0, 40, .inl (fun j => nI (mk j)))), ((b + 2), .inl (κ 0, 40, .inl (fun j => nI (ms j)))), ((b + 3), .inl (κ 0, 1040, .inl (fun x => nI (ma x)))), ((b + 4), .inl (κ 0, 5200, .inl (fun x => nI (mr x)))), ((b + 5), .inl (κ 0, 416, .inl (fun x => nI (mt x)))), ((b + 6), .inl (κ 0, 120, .inl F)), ((b + 7), .inl (κ 2, 140, .inr (.inl wy))), ((b + 8), .inl (κ 2, 140, .inr (.inl nx)))]) [0, 1, 2, 3, 4, 5, 6, 7, 8] (by decide) rfl
    exact W.dret (v := 13830554455654793216) hx hb hr (fun t9 ht9 hW9 => ⟨some (.double 13830554455654793216), rfl, by rw [ht9]; exact ⟨by rw [p0 e1], ⟨⟨_, _, _, hP⟩, ⟨⟨hnT, hnS, hba, Nat.le_trans hbh hS.1, by omega⟩, hmk, hma, hmr, hmt⟩⟩, ⟨hS.1, fun q h1 h2 => hS.2.1 q h1 (fun z => h2 (hAO q z))⟩⟩⟩) (fun q h => hAO _ (hS.2.2 q h)) dM_threshold_16
  · refine x_callP (v := .int (nI 1)) (va_runV (As := [.int (nI i)]) (rest := []) ⟨hx, hb, hml, hown, hT⟩ (c_M_isTaster l D κ base H (hP.sub [0] rfl) (by omega) (nI i) 1 (fun h => at_out (by omega) (by assumption) h rfl) (fun _ _ _ => rfl)) (cwV 1 hT (TT_V kM65 kiM_isTaster ksM_isTaster knM kcM_isTaster) rfl rfl rfl (by decide +kernel) ⟨Nat.le_of_ble_eq_true rfl, Nat.le_of_ble_eq_true rfl⟩) (pcV hE hS hAb (va_recv hK hP (ci := 3) (q0 := 0) rfl rfl)) rfl rfl hl.1 rfl (lv_room (Nat.le_of_ble_eq_true rfl)) dM_threshold_7 ⟨Nat.le_of_ble_eq_true rfl, Nat.le_of_ble_eq_true rfl⟩) ?_
    refine x_zne (a := 1) (tgt := 17) hx hb dM_threshold_10 (by decide) (by omega) (fun h2 => ?_) (fun h2 => absurd h2 (by decide))
    have hr1 := p1 i hi rfl
    have loop : ∀ (fu : Nat) (k : Nat) (lo be hg : Option Nat), (k ≤ 16) → (∀ w, lo = some w → w < 16) → (∀ w, be = some w → w < 16) → (∀ w, hg = some w → w < 16) → (thM (fun k => mt (16 * i + k)) k lo be hg = thM (fun k => mt (16 * i + k)) 16 none none none) → k < fu → ∀ ls : Array Slot, lv_has ls 7 [(0, .ref b), (1, .int (nI i)), (2, .int (lstM lo)), (3, .int (lstI be)), (4, .int (lstI hg)), (5, .int (nI k - 1))] → W p l e (headSpec wM_threshold ({ frames := 1, cells := 0, slots := 0, locals := 21 })).room s m ([.ref b, .int (nI i)] : List Value).toArray below meth c H locs 0 0 (MQ below (q_W (fun v H => v = some (.double r) ∧ RMo D κ base b sd nT nS mk ms ma mr mt 0 H ∧ FrM b s.heap H)) ([.ref b, .int (nI i)] : List Value).toArray s 0 0 (OwnM b s.heap.size)) (F0 m 29 ls []) := by
      intro fu
      induction fu with
      | zero =>
        intro k lo be hg hk hlo hbe hhg heq hmu
        exact absurd hmu (Nat.not_lt_zero _)
      | succ fu ih =>
        intro k lo be hg hk hlo hbe hhg heq hmu ls hl
        rcases k with _ | k
        · refine lv_iload hx hb dM_threshold_29 (lv_at hl 5 rfl) ?_
          refine lv_if_lt (tgt := 108) hx hb dM_threshold_31 (by decide) (fun h3 => ?_) (fun h3 => absurd (by decide) h3)
          rcases hg with _ | vhg
          · have hl : lv_has ls 7 [(0, .ref b), (1, .int (nI i)), (2, .int (lstM lo)), (3, .int (lstI be)), (4, .int (-1)), (5, .int (nI 0 - 1))] := hl
            refine lv_iload hx hb dM_threshold_108 (lv_at hl 4 rfl) ?_
            refine lv_if_ge (tgt := 115) hx hb dM_threshold_110 (by decide) (fun h4 => absurd h4 (by decide)) (fun h4 => ?_)
            refine lv_dconst0 hx hb dM_threshold_113 ?_
            have hP := hP.sub (ws' := [(b, .inr (3, [.long sd, .int (nI nT), .int (nI nS), .ref (b + 1), .ref (b + 2), .ref (b + 3), .ref (b + 4), .ref (b + 5), .ref (b + 6), .ref (b + 7), .ref (b + 8), .int (nI 0)])), ((b + 1), .inl (κ 0, 40, .inl (fun j => nI (mk j)))), ((b + 2), .inl (κ 0, 40, .inl (fun j => nI (ms j)))), ((b + 3), .inl (κ 0, 1040, .inl (fun x => nI (ma x)))), ((b + 4), .inl (κ 0, 5200, .inl (fun x => nI (mr x)))), ((b + 5), .inl (κ 0, 416, .inl (fun x => nI (mt x)))), ((b + 6), .inl (κ 0, 120, .inl F)), ((b + 7), .inl (κ 2, 140, .inr (.inl wy))), ((b + 8), .inl (κ 2, 140, .inr (.inl nx)))]) [0, 1, 2, 3, 4, 5, 6, 7, 8] rfl
            have hD := hD.sub (ws' := [(b, .inr (3, [.long sd, .int (nI nT), .int (nI nS), .ref (b + 1), .ref (b + 2), .ref (b + 3), .ref (b + 4), .ref (b + 5), .ref (b + 6), .ref (b + 7), .ref (b + 8), .int (nI 0)])), ((b + 1), .inl (κ 0, 40, .inl (fun j => nI (mk j)))), ((b + 2), .inl (κ 0, 40, .inl (fun j => nI (ms j)))), ((b + 3), .inl (κ 0, 1040, .inl (fun x => nI (ma x)))), ((b + 4), .inl (κ 0, 5200, .inl (fun x => nI (mr x)))), ((b + 5), .inl (κ 0, 416, .inl (fun x => nI (mt x)))), ((b + 6), .inl (κ 0, 120, .inl F)), ((b + 7), .inl (κ 2, 140, .inr (.inl wy))), ((b + 8), .inl (κ 2, 140, .inr (.inl nx)))]) [0, 1, 2, 3, 4, 5, 6, 7, 8] (by decide) rfl
            exact W.dret (v := FP.dconst0) hx hb hr (fun t9 ht9 hW9 => ⟨some (.double FP.dconst0), rfl, by rw [ht9]; exact ⟨by rw [hr1, ← heq]; rfl, ⟨⟨_, _, _, hP⟩, ⟨⟨hnT, hnS, hba, Nat.le_trans hbh hS.1, by omega⟩, hmk, hma, hmr, hmt⟩⟩, ⟨hS.1, fun q h1 h2 => hS.2.1 q h1 (fun z => h2 (hAO q z))⟩⟩⟩) (fun q h => hAO _ (hS.2.2 q h)) dM_threshold_114
          · have hhg9 := hhg vhg rfl
            have hl : lv_has ls 7 [(0, .ref b), (1, .int (nI i)), (2, .int (lstM lo)), (3, .int (lstI be)), (4, .int (nI vhg)), (5, .int (nI 0 - 1))] := hl
            refine lv_iload hx hb dM_threshold_108 (lv_at hl 4 rfl) ?_
            refine x_zge (a := vhg) (tgt := 115) hx hb dM_threshold_110 (by decide) (by omega) ?_
            rcases lo with _ | vlo
            · have hl : lv_has ls 7 [(0, .ref b), (1, .int (nI i)), (2, .int (nI 16)), (3, .int (lstI be)), (4, .int (nI vhg)), (5, .int (nI 0 - 1))] := hl
              refine lv_iload_n hx hb dM_threshold_115 rfl (lv_at hl 2 rfl) ?_
              refine lv_bipush (v := nI 16) hx hb dM_threshold_116 (by decide) ?_
              refine x_cne (a := 16) (b := 16) (tgt := 131) hx hb dM_threshold_118 (by decide) (by omega) (by omega) (fun h6 => absurd rfl h6) (fun h6 => ?_)
              refine lv_ldc2d (v := 4611686018427387904) hx hb hown (hT _ kM127) dM_threshold_121 ?_
              refine lv_iload hx hb dM_threshold_124 (lv_at hl 4 rfl) ?_
              refine x_callP (v := .double (strv vhg)) (va_runS (As := [.int (nI vhg)]) (rest := [.double 4611686018427387904]) ⟨hx, hb, hml, hown, hT⟩ (c_M_strength l D κ base H vhg (by omega)) (va_cwS 1 hT (TT_S kM129 ktM_strength knM kcM_strength) rfl rfl rfl (by decide +kernel) ⟨Nat.le_of_ble_eq_true rfl, Nat.le_of_ble_eq_true rfl⟩) (pcS hE hS hAb) rfl rfl hl.1 rfl (lv_room (Nat.le_of_ble_eq_true rfl)) dM_threshold_126 ⟨Nat.le_of_ble_eq_true rfl, Nat.le_of_ble_eq_true rfl⟩) ?_
              refine lv_dmul hx hb dM_threshold_129 (th5 vhg (by omega)) ?_
              have hP := hP.sub (ws' := [(b, .inr (3, [.long sd, .int (nI nT), .int (nI nS), .ref (b + 1), .ref (b + 2), .ref (b + 3), .ref (b + 4), .ref (b + 5), .ref (b + 6), .ref (b + 7), .ref (b + 8), .int (nI 0)])), ((b + 1), .inl (κ 0, 40, .inl (fun j => nI (mk j)))), ((b + 2), .inl (κ 0, 40, .inl (fun j => nI (ms j)))), ((b + 3), .inl (κ 0, 1040, .inl (fun x => nI (ma x)))), ((b + 4), .inl (κ 0, 5200, .inl (fun x => nI (mr x)))), ((b + 5), .inl (κ 0, 416, .inl (fun x => nI (mt x)))), ((b + 6), .inl (κ 0, 120, .inl F)), ((b + 7), .inl (κ 2, 140, .inr (.inl wy))), ((b + 8), .inl (κ 2, 140, .inr (.inl nx)))]) [0, 1, 2, 3, 4, 5, 6, 7, 8] rfl
              have hD := hD.sub (ws' := [(b, .inr (3, [.long sd, .int (nI nT), .int (nI nS), .ref (b + 1), .ref (b + 2), .ref (b + 3), .ref (b + 4), .ref (b + 5), .ref (b + 6), .ref (b + 7), .ref (b + 8), .int (nI 0)])), ((b + 1), .inl (κ 0, 40, .inl (fun j => nI (mk j)))), ((b + 2), .inl (κ 0, 40, .inl (fun j => nI (ms j)))), ((b + 3), .inl (κ 0, 1040, .inl (fun x => nI (ma x)))), ((b + 4), .inl (κ 0, 5200, .inl (fun x => nI (mr x)))), ((b + 5), .inl (κ 0, 416, .inl (fun x => nI (mt x)))), ((b + 6), .inl (κ 0, 120, .inl F)), ((b + 7), .inl (κ 2, 140, .inr (.inl wy))), ((b + 8), .inl (κ 2, 140, .inr (.inl nx)))]) [0, 1, 2, 3, 4, 5, 6, 7, 8] (by decide) rfl
              exact W.dret (v := FP.dmul 4611686018427387904 (strv vhg)) hx hb hr (fun t9 ht9 hW9 => ⟨some (.double (FP.dmul 4611686018427387904 (strv vhg))), rfl, by rw [ht9]; exact ⟨by rw [hr1, ← heq]; rfl, ⟨⟨_, _, _, hP⟩, ⟨⟨hnT, hnS, hba, Nat.le_trans hbh hS.1, by omega⟩, hmk, hma, hmr, hmt⟩⟩, ⟨hS.1, fun q h1 h2 => hS.2.1 q h1 (fun z => h2 (hAO q z))⟩⟩⟩) (fun q h => hAO _ (hS.2.2 q h)) dM_threshold_130
            · have hlo9 := hlo vlo rfl
              have hl : lv_has ls 7 [(0, .ref b), (1, .int (nI i)), (2, .int (nI vlo)), (3, .int (lstI be)), (4, .int (nI vhg)), (5, .int (nI 0 - 1))] := hl
              refine lv_iload_n hx hb dM_threshold_115 rfl (lv_at hl 2 rfl) ?_
              refine lv_bipush (v := nI 16) hx hb dM_threshold_116 (by decide) ?_
              refine x_cne (a := vlo) (b := 16) (tgt := 131) hx hb dM_threshold_118 (by decide) (by omega) (by omega) (fun h7 => ?_) (fun h7 => absurd h7 (by omega))
              rcases be with _ | vbe
              · have hl : lv_has ls 7 [(0, .ref b), (1, .int (nI i)), (2, .int (nI vlo)), (3, .int (-1)), (4, .int (nI vhg)), (5, .int (nI 0 - 1))] := hl
                refine lv_iload_n hx hb dM_threshold_131 rfl (lv_at hl 3 rfl) ?_
                refine lv_if_ge (tgt := 146) hx hb dM_threshold_132 (by decide) (fun h8 => absurd h8 (by decide)) (fun h8 => ?_)
                refine lv_iload_n hx hb dM_threshold_135 rfl (lv_at hl 2 rfl) ?_
                refine x_callP (v := .double (strv vlo)) (va_runS (As := [.int (nI vlo)]) (rest := []) ⟨hx, hb, hml, hown, hT⟩ (c_M_strength l D κ base H vlo (by omega)) (va_cwS 1 hT (TT_S kM129 ktM_strength knM kcM_strength) rfl rfl rfl (by decide +kernel) ⟨Nat.le_of_ble_eq_true rfl, Nat.le_of_ble_eq_true rfl⟩) (pcS hE hS hAb) rfl rfl hl.1 rfl (lv_room (Nat.le_of_ble_eq_true rfl)) dM_threshold_136 ⟨Nat.le_of_ble_eq_true rfl, Nat.le_of_ble_eq_true rfl⟩) ?_
                refine lv_ldc2d (v := 4611686018427387904) hx hb hown (hT _ kM127) dM_threshold_139 ?_
                refine lv_ddiv hx hb dM_threshold_142 (th2 vlo (by omega)) ?_
                refine lv_goto (tgt := 159) hx hb dM_threshold_143 (by decide) ?_
                have hP := hP.sub (ws' := [(b, .inr (3, [.long sd, .int (nI nT), .int (nI nS), .ref (b + 1), .ref (b + 2), .ref (b + 3), .ref (b + 4), .ref (b + 5), .ref (b + 6), .ref (b + 7), .ref (b + 8), .int (nI 0)])), ((b + 1), .inl (κ 0, 40, .inl (fun j => nI (mk j)))), ((b + 2), .inl (κ 0, 40, .inl (fun j => nI (ms j)))), ((b + 3), .inl (κ 0, 1040, .inl (fun x => nI (ma x)))), ((b + 4), .inl (κ 0, 5200, .inl (fun x => nI (mr x)))), ((b + 5), .inl (κ 0, 416, .inl (fun x => nI (mt x)))), ((b + 6), .inl (κ 0, 120, .inl F)), ((b + 7), .inl (κ 2, 140, .inr (.inl wy))), ((b + 8), .inl (κ 2, 140, .inr (.inl nx)))]) [0, 1, 2, 3, 4, 5, 6, 7, 8] rfl
                have hD := hD.sub (ws' := [(b, .inr (3, [.long sd, .int (nI nT), .int (nI nS), .ref (b + 1), .ref (b + 2), .ref (b + 3), .ref (b + 4), .ref (b + 5), .ref (b + 6), .ref (b + 7), .ref (b + 8), .int (nI 0)])), ((b + 1), .inl (κ 0, 40, .inl (fun j => nI (mk j)))), ((b + 2), .inl (κ 0, 40, .inl (fun j => nI (ms j)))), ((b + 3), .inl (κ 0, 1040, .inl (fun x => nI (ma x)))), ((b + 4), .inl (κ 0, 5200, .inl (fun x => nI (mr x)))), ((b + 5), .inl (κ 0, 416, .inl (fun x => nI (mt x)))), ((b + 6), .inl (κ 0, 120, .inl F)), ((b + 7), .inl (κ 2, 140, .inr (.inl wy))), ((b + 8), .inl (κ 2, 140, .inr (.inl nx)))]) [0, 1, 2, 3, 4, 5, 6, 7, 8] (by decide) rfl
                exact W.dret (v := FP.ddiv (strv vlo) 4611686018427387904) hx hb hr (fun t9 ht9 hW9 => ⟨some (.double (FP.ddiv (strv vlo) 4611686018427387904)), rfl, by rw [ht9]; exact ⟨by rw [hr1, ← heq]; rfl, ⟨⟨_, _, _, hP⟩, ⟨⟨hnT, hnS, hba, Nat.le_trans hbh hS.1, by omega⟩, hmk, hma, hmr, hmt⟩⟩, ⟨hS.1, fun q h1 h2 => hS.2.1 q h1 (fun z => h2 (hAO q z))⟩⟩⟩) (fun q h => hAO _ (hS.2.2 q h)) dM_threshold_159
              · have hbe9 := hbe vbe rfl
                have hl : lv_has ls 7 [(0, .ref b), (1, .int (nI i)), (2, .int (nI vlo)), (3, .int (nI vbe)), (4, .int (nI vhg)), (5, .int (nI 0 - 1))] := hl
                refine lv_iload_n hx hb dM_threshold_131 rfl (lv_at hl 3 rfl) ?_
                refine x_zge (a := vbe) (tgt := 146) hx hb dM_threshold_132 (by decide) (by omega) ?_
                refine lv_iload_n hx hb dM_threshold_146 rfl (lv_at hl 2 rfl) ?_
                refine x_callP (v := .double (strv vlo)) (va_runS (As := [.int (nI vlo)]) (rest := []) ⟨hx, hb, hml, hown, hT⟩ (c_M_strength l D κ base H vlo (by omega)) (va_cwS 1 hT (TT_S kM129 ktM_strength knM kcM_strength) rfl rfl rfl (by decide +kernel) ⟨Nat.le_of_ble_eq_true rfl, Nat.le_of_ble_eq_true rfl⟩) (pcS hE hS hAb) rfl rfl hl.1 rfl (lv_room (Nat.le_of_ble_eq_true rfl)) dM_threshold_147 ⟨Nat.le_of_ble_eq_true rfl, Nat.le_of_ble_eq_true rfl⟩) ?_
                refine lv_iload_n hx hb dM_threshold_150 rfl (lv_at hl 3 rfl) ?_
                refine x_callP (v := .double (strv vbe)) (va_runS (As := [.int (nI vbe)]) (rest := [.double (strv vlo)]) ⟨hx, hb, hml, hown, hT⟩ (c_M_strength l D κ base H vbe (by omega)) (va_cwS 1 hT (TT_S kM129 ktM_strength knM kcM_strength) rfl rfl rfl (by decide +kernel) ⟨Nat.le_of_ble_eq_true rfl, Nat.le_of_ble_eq_true rfl⟩) (pcS hE hS hAb) rfl rfl hl.1 rfl (lv_room (Nat.le_of_ble_eq_true rfl)) dM_threshold_151 ⟨Nat.le_of_ble_eq_true rfl, Nat.le_of_ble_eq_true rfl⟩) ?_
                refine lv_dadd hx hb dM_threshold_154 (th3 vlo (by omega) vbe (by omega)) ?_
                refine lv_ldc2d (v := 4611686018427387904) hx hb hown (hT _ kM127) dM_threshold_155 ?_
                refine lv_ddiv hx hb dM_threshold_158 (th4 vlo (by omega) vbe (by omega)) ?_
                have hP := hP.sub (ws' := [(b, .inr (3, [.long sd, .int (nI nT), .int (nI nS), .ref (b + 1), .ref (b + 2), .ref (b + 3), .ref (b + 4), .ref (b + 5), .ref (b + 6), .ref (b + 7), .ref (b + 8), .int (nI 0)])), ((b + 1), .inl (κ 0, 40, .inl (fun j => nI (mk j)))), ((b + 2), .inl (κ 0, 40, .inl (fun j => nI (ms j)))), ((b + 3), .inl (κ 0, 1040, .inl (fun x => nI (ma x)))), ((b + 4), .inl (κ 0, 5200, .inl (fun x => nI (mr x)))), ((b + 5), .inl (κ 0, 416, .inl (fun x => nI (mt x)))), ((b + 6), .inl (κ 0, 120, .inl F)), ((b + 7), .inl (κ 2, 140, .inr (.inl wy))), ((b + 8), .inl (κ 2, 140, .inr (.inl nx)))]) [0, 1, 2, 3, 4, 5, 6, 7, 8] rfl
                have hD := hD.sub (ws' := [(b, .inr (3, [.long sd, .int (nI nT), .int (nI nS), .ref (b + 1), .ref (b + 2), .ref (b + 3), .ref (b + 4), .ref (b + 5), .ref (b + 6), .ref (b + 7), .ref (b + 8), .int (nI 0)])), ((b + 1), .inl (κ 0, 40, .inl (fun j => nI (mk j)))), ((b + 2), .inl (κ 0, 40, .inl (fun j => nI (ms j)))), ((b + 3), .inl (κ 0, 1040, .inl (fun x => nI (ma x)))), ((b + 4), .inl (κ 0, 5200, .inl (fun x => nI (mr x)))), ((b + 5), .inl (κ 0, 416, .inl (fun x => nI (mt x)))), ((b + 6), .inl (κ 0, 120, .inl F)), ((b + 7), .inl (κ 2, 140, .inr (.inl wy))), ((b + 8), .inl (κ 2, 140, .inr (.inl nx)))]) [0, 1, 2, 3, 4, 5, 6, 7, 8] (by decide) rfl
                exact W.dret (v := FP.ddiv (FP.dadd (strv vlo) (strv vbe)) 4611686018427387904) hx hb hr (fun t9 ht9 hW9 => ⟨some (.double (FP.ddiv (FP.dadd (strv vlo) (strv vbe)) 4611686018427387904)), rfl, by rw [ht9]; exact ⟨by rw [hr1, ← heq]; rfl, ⟨⟨_, _, _, hP⟩, ⟨⟨hnT, hnS, hba, Nat.le_trans hbh hS.1, by omega⟩, hmk, hma, hmr, hmt⟩⟩, ⟨hS.1, fun q h1 h2 => hS.2.1 q h1 (fun z => h2 (hAO q z))⟩⟩⟩) (fun q h => hAO _ (hS.2.2 q h)) dM_threshold_159
        · rw [nI_pred] at hl
          have hb9 := hmt (16 * i + k) (by omega)
          rw [thM] at heq
          refine lv_iload hx hb dM_threshold_29 (lv_at hl 5 rfl) ?_
          refine x_zlt (a := k) (tgt := 108) hx hb dM_threshold_31 (by decide) (by omega) ?_
          refine lv_aload_n hx hb dM_threshold_34 rfl (lv_at hl 0 rfl) ?_
          refine va_get (D := D) (ci := 3) (v := .ref (b + 5)) (C := RM) (T := FM) (N := 12) hx hb hT inM hown hK hP 0 rfl rfl 7 (by decide) (hT _ kM22) (fun _ h9 => h9) rfl dM_threshold_35 ?_
          refine lv_bipush (v := nI 16) hx hb dM_threshold_38 (by decide) ?_
          refine lv_iload_n hx hb dM_threshold_40 rfl (lv_at hl 1 rfl) ?_
          refine x_imul (v := nI (16 * i)) hx hb dM_threshold_41 (pk_mul _ _) ?_
          refine lv_iload hx hb dM_threshold_42 (lv_at hl 5 rfl) ?_
          refine x_iadd (v := nI ((16 * i) + k)) hx hb dM_threshold_44 (nI_add _ _) ?_
          refine x_iald hx hb hK hP 5 0 (j := (16 * i) + k) (v := nI (mt ((16 * i) + k))) rfl rfl (by omega) (by decide) (rfl) dM_threshold_45 ?_
          refine lv_istore (lv' := [(6, .int (nI (mt ((16 * i) + k)))), (0, .ref b), (1, .int (nI i)), (2, .int (lstM lo)), (3, .int (lstI be)), (4, .int (lstI hg)), (5, .int (nI k))]) hx hb dM_threshold_46 hl (by decide) rfl (fun ls hl => ?_)
          by_cases g1 : (fun k => mt (16 * i + k)) k = 0
          · rw [if_pos g1] at heq
            have g1' : mt (16 * i + k) = 0 := g1
            refine lv_iload hx hb dM_threshold_48 (lv_at hl 0 rfl) ?_
            refine x_zle (a := mt ((16 * i) + k)) (tgt := 63) hx hb dM_threshold_50 (by decide) (by omega) (fun h11 => ?_) (fun h11 => absurd h11 (by omega))
            refine lv_iload hx hb dM_threshold_63 (lv_at hl 5 rfl) ?_
            refine lv_istore (lv' := [(4, .int (lstI hg)), (6, .int (nI (mt ((16 * i) + k)))), (0, .ref b), (1, .int (nI i)), (2, .int (lstM lo)), (3, .int (lstI be)), (5, .int (nI k))]) hx hb dM_threshold_65 hl (by decide) rfl (fun ls hl => ?_)
            refine lv_iload hx hb dM_threshold_67 (lv_at hl 1 rfl) ?_
            refine x_zle (a := mt ((16 * i) + k)) (tgt := 102) hx hb dM_threshold_69 (by decide) (by omega) (fun h12 => ?_) (fun h12 => absurd h12 (by omega))
            refine lv_iinc (v := nI k - 1) (lv' := [(5, .int (nI k - 1)), (4, .int (lstI hg)), (6, .int (nI (mt ((16 * i) + k)))), (0, .ref b), (1, .int (nI i)), (2, .int (lstM lo)), (3, .int (lstI be))]) hx hb dM_threshold_102 hl (k := 6) rfl (addm1 _) (by decide) rfl (fun ls hl => ?_)
            refine lv_goto (tgt := 29) hx hb dM_threshold_105 (by decide) ?_
            exact ih k lo be hg (by omega) hlo hbe hhg heq (by omega) ls (lv_sub hl [3, 4, 5, 6, 1, 0] rfl)
          · rw [if_neg g1] at heq
            have g1' : ¬ mt (16 * i + k) = 0 := g1
            refine lv_iload hx hb dM_threshold_48 (lv_at hl 0 rfl) ?_
            refine x_zle (a := mt ((16 * i) + k)) (tgt := 63) hx hb dM_threshold_50 (by decide) (by omega) (fun h13 => absurd h13 (by omega)) (fun h13 => ?_)
            rcases hg with _ | vhg
            · have hl : lv_has ls 7 [(6, .int (nI (mt ((16 * i) + k)))), (0, .ref b), (1, .int (nI i)), (2, .int (lstM lo)), (3, .int (lstI be)), (4, .int (-1)), (5, .int (nI k))] := hl
              refine lv_iload hx hb dM_threshold_53 (lv_at hl 5 rfl) ?_
              refine lv_if_ge (tgt := 63) hx hb dM_threshold_55 (by decide) (fun h14 => absurd h14 (by decide)) (fun h14 => ?_)
              refine lv_iload hx hb dM_threshold_58 (lv_at hl 6 rfl) ?_
              refine lv_goto (tgt := 65) hx hb dM_threshold_60 (by decide) ?_
              refine x_topi (y := lstI (some k)) (rfl) ?_
              refine lv_istore (lv' := [(4, .int (lstI (some k))), (6, .int (nI (mt ((16 * i) + k)))), (0, .ref b), (1, .int (nI i)), (2, .int (lstM lo)), (3, .int (lstI be)), (5, .int (nI k))]) hx hb dM_threshold_65 hl (by decide) rfl (fun ls hl => ?_)
              refine lv_iload hx hb dM_threshold_67 (lv_at hl 1 rfl) ?_
              refine x_zle (a := mt ((16 * i) + k)) (tgt := 102) hx hb dM_threshold_69 (by decide) (by omega) (fun h15 => absurd h15 (by omega)) (fun h15 => ?_)
              rcases be with _ | vbe
              · have hl : lv_has ls 7 [(4, .int (lstI (some k))), (6, .int (nI (mt ((16 * i) + k)))), (0, .ref b), (1, .int (nI i)), (2, .int (lstM lo)), (3, .int (-1)), (5, .int (nI k))] := hl
                refine lv_iload_n hx hb dM_threshold_72 rfl (lv_at hl 5 rfl) ?_
                refine lv_if_ge (tgt := 102) hx hb dM_threshold_73 (by decide) (fun h16 => absurd h16 (by decide)) (fun h16 => ?_)
                refine lv_iload hx hb dM_threshold_76 (lv_at hl 1 rfl) ?_
                refine lv_iconst (v := nI 2) hx hb dM_threshold_78 (by decide) ?_
                refine x_cne (a := mt ((16 * i) + k)) (b := 2) (tgt := 87) hx hb dM_threshold_79 (by decide) (by omega) (by omega) (fun g3 => ?_) (fun g3 => ?_)
                · refine lv_iload_n hx hb dM_threshold_87 rfl (lv_at hl 4 rfl) ?_
                  refine lv_istore_n (lv' := [(2, .int (lstM lo)), (4, .int (lstI (some k))), (6, .int (nI (mt ((16 * i) + k)))), (0, .ref b), (1, .int (nI i)), (3, .int (-1)), (5, .int (nI k))]) hx hb dM_threshold_88 rfl hl (by decide) rfl (fun ls hl => ?_)
                  refine lv_iload hx hb dM_threshold_89 (lv_at hl 2 rfl) ?_
                  refine lv_iconst (v := nI 1) hx hb dM_threshold_91 (by decide) ?_
                  refine x_cne (a := mt ((16 * i) + k)) (b := 1) (tgt := 100) hx hb dM_threshold_92 (by decide) (by omega) (by omega) (fun h17 => absurd (show ¬ mt (16 * i + k) = 1 from h17) (by omega)) (fun h17 => ?_)
                  refine lv_iload hx hb dM_threshold_95 (lv_at hl 6 rfl) ?_
                  refine lv_goto (tgt := 101) hx hb dM_threshold_97 (by decide) ?_
                  refine x_topi (y := lstI (some k)) (rfl) ?_
                  refine lv_istore_n (lv' := [(3, .int (lstI (some k))), (2, .int (lstM lo)), (4, .int (lstI (some k))), (6, .int (nI (mt ((16 * i) + k)))), (0, .ref b), (1, .int (nI i)), (5, .int (nI k))]) hx hb dM_threshold_101 rfl hl (by decide) rfl (fun ls hl => ?_)
                  rw [if_neg (fun q => g3 q.2), if_pos ⟨rfl, show mt (16 * i + k) = 1 by omega⟩, if_pos rfl] at heq
                  refine lv_iinc (v := nI k - 1) (lv' := [(5, .int (nI k - 1)), (3, .int (lstI (some k))), (2, .int (lstM lo)), (4, .int (lstI (some k))), (6, .int (nI (mt ((16 * i) + k)))), (0, .ref b), (1, .int (nI i))]) hx hb dM_threshold_102 hl (k := 6) rfl (addm1 _) (by decide) rfl (fun ls hl => ?_)
                  refine lv_goto (tgt := 29) hx hb dM_threshold_105 (by decide) ?_
                  exact ih k lo (some k) (some k) (by omega) hlo (fun w q => by cases q; omega) (fun w q => by cases q; omega) heq (by omega) ls (lv_sub hl [5, 6, 2, 1, 3, 0] rfl)
                · refine lv_iload hx hb dM_threshold_82 (lv_at hl 6 rfl) ?_
                  refine lv_goto (tgt := 88) hx hb dM_threshold_84 (by decide) ?_
                  refine x_topi (y := lstM (some k)) (rfl) ?_
                  refine lv_istore_n (lv' := [(2, .int (lstM (some k))), (4, .int (lstI (some k))), (6, .int (nI (mt ((16 * i) + k)))), (0, .ref b), (1, .int (nI i)), (3, .int (-1)), (5, .int (nI k))]) hx hb dM_threshold_88 rfl hl (by decide) rfl (fun ls hl => ?_)
                  refine lv_iload hx hb dM_threshold_89 (lv_at hl 2 rfl) ?_
                  refine lv_iconst (v := nI 1) hx hb dM_threshold_91 (by decide) ?_
                  refine x_cne (a := mt ((16 * i) + k)) (b := 1) (tgt := 100) hx hb dM_threshold_92 (by decide) (by omega) (by omega) (fun h18 => ?_) (fun h18 => absurd h18 (by omega))
                  refine lv_iconst (v := -1) hx hb dM_threshold_100 (by decide) ?_
                  refine x_topi (y := lstI none) (rfl) ?_
                  refine lv_istore_n (lv' := [(3, .int (lstI none)), (2, .int (lstM (some k))), (4, .int (lstI (some k))), (6, .int (nI (mt ((16 * i) + k)))), (0, .ref b), (1, .int (nI i)), (5, .int (nI k))]) hx hb dM_threshold_101 rfl hl (by decide) rfl (fun ls hl => ?_)
                  rw [if_pos ⟨rfl, show mt (16 * i + k) = 2 from g3⟩, if_neg (fun q => absurd (show mt (16 * i + k) = 1 from q.2) (by omega)), if_pos rfl] at heq
                  refine lv_iinc (v := nI k - 1) (lv' := [(5, .int (nI k - 1)), (3, .int (lstI none)), (2, .int (lstM (some k))), (4, .int (lstI (some k))), (6, .int (nI (mt ((16 * i) + k)))), (0, .ref b), (1, .int (nI i))]) hx hb dM_threshold_102 hl (k := 6) rfl (addm1 _) (by decide) rfl (fun ls hl => ?_)
                  refine lv_goto (tgt := 29) hx hb dM_threshold_105 (by decide) ?_
                  exact ih k (some k) none (some k) (by omega) (fun w q => by cases q; omega) (fun w q => by cases q) (fun w q => by cases q; omega) heq (by omega) ls (lv_sub hl [5, 6, 2, 1, 3, 0] rfl)
              · have hbe9 := hbe vbe rfl
                have hl : lv_has ls 7 [(4, .int (lstI (some k))), (6, .int (nI (mt ((16 * i) + k)))), (0, .ref b), (1, .int (nI i)), (2, .int (lstM lo)), (3, .int (nI vbe)), (5, .int (nI k))] := hl
                refine lv_iload_n hx hb dM_threshold_72 rfl (lv_at hl 5 rfl) ?_
                refine x_zge (a := vbe) (tgt := 102) hx hb dM_threshold_73 (by decide) (by omega) ?_
                rw [if_neg (fun q => by cases q.1), if_neg (fun q => by cases q.1), if_pos rfl] at heq
                have hl : lv_has ls 7 [(4, .int (lstI (some k))), (6, .int (nI (mt ((16 * i) + k)))), (0, .ref b), (1, .int (nI i)), (2, .int (lstM lo)), (3, .int (lstI (some vbe))), (5, .int (nI k))] := hl
                refine lv_iinc (v := nI k - 1) (lv' := [(5, .int (nI k - 1)), (4, .int (lstI (some k))), (6, .int (nI (mt ((16 * i) + k)))), (0, .ref b), (1, .int (nI i)), (2, .int (lstM lo)), (3, .int (lstI (some vbe)))]) hx hb dM_threshold_102 hl (k := 6) rfl (addm1 _) (by decide) rfl (fun ls hl => ?_)
                refine lv_goto (tgt := 29) hx hb dM_threshold_105 (by decide) ?_
                exact ih k lo (some vbe) (some k) (by omega) hlo (fun w q => by cases q; omega) (fun w q => by cases q; omega) heq (by omega) ls (lv_sub hl [3, 4, 5, 6, 1, 0] rfl)
            · have hhg9 := hhg vhg rfl
              have hl : lv_has ls 7 [(6, .int (nI (mt ((16 * i) + k)))), (0, .ref b), (1, .int (nI i)), (2, .int (lstM lo)), (3, .int (lstI be)), (4, .int (nI vhg)), (5, .int (nI k))] := hl
              refine lv_iload hx hb dM_threshold_53 (lv_at hl 5 rfl) ?_
              refine x_zge (a := vhg) (tgt := 63) hx hb dM_threshold_55 (by decide) (by omega) ?_
              refine lv_iload hx hb dM_threshold_63 (lv_at hl 5 rfl) ?_
              refine x_topi (y := lstI (some vhg)) (rfl) ?_
              refine lv_istore (lv' := [(4, .int (lstI (some vhg))), (6, .int (nI (mt ((16 * i) + k)))), (0, .ref b), (1, .int (nI i)), (2, .int (lstM lo)), (3, .int (lstI be)), (5, .int (nI k))]) hx hb dM_threshold_65 hl (by decide) rfl (fun ls hl => ?_)
              refine lv_iload hx hb dM_threshold_67 (lv_at hl 1 rfl) ?_
              refine x_zle (a := mt ((16 * i) + k)) (tgt := 102) hx hb dM_threshold_69 (by decide) (by omega) (fun h21 => absurd h21 (by omega)) (fun h21 => ?_)
              rcases be with _ | vbe
              · have hl : lv_has ls 7 [(4, .int (lstI (some vhg))), (6, .int (nI (mt ((16 * i) + k)))), (0, .ref b), (1, .int (nI i)), (2, .int (lstM lo)), (3, .int (-1)), (5, .int (nI k))] := hl
                refine lv_iload_n hx hb dM_threshold_72 rfl (lv_at hl 5 rfl) ?_
                refine lv_if_ge (tgt := 102) hx hb dM_threshold_73 (by decide) (fun h22 => absurd h22 (by decide)) (fun h22 => ?_)
                refine lv_iload hx hb dM_threshold_76 (lv_at hl 1 rfl) ?_
                refine lv_iconst (v := nI 2) hx hb dM_threshold_78 (by decide) ?_
                refine x_cne (a := mt ((16 * i) + k)) (b := 2) (tgt := 87) hx hb dM_threshold_79 (by decide) (by omega) (by omega) (fun g3 => ?_) (fun g3 => ?_)
                · refine lv_iload_n hx hb dM_threshold_87 rfl (lv_at hl 4 rfl) ?_
                  refine lv_istore_n (lv' := [(2, .int (lstM lo)), (4, .int (lstI (some vhg))), (6, .int (nI (mt ((16 * i) + k)))), (0, .ref b), (1, .int (nI i)), (3, .int (-1)), (5, .int (nI k))]) hx hb dM_threshold_88 rfl hl (by decide) rfl (fun ls hl => ?_)
                  refine lv_iload hx hb dM_threshold_89 (lv_at hl 2 rfl) ?_
                  refine lv_iconst (v := nI 1) hx hb dM_threshold_91 (by decide) ?_
                  refine x_cne (a := mt ((16 * i) + k)) (b := 1) (tgt := 100) hx hb dM_threshold_92 (by decide) (by omega) (by omega) (fun h23 => absurd (show ¬ mt (16 * i + k) = 1 from h23) (by omega)) (fun h23 => ?_)
                  refine lv_iload hx hb dM_threshold_95 (lv_at hl 6 rfl) ?_
                  refine lv_goto (tgt := 101) hx hb dM_threshold_97 (by decide) ?_
                  refine x_topi (y := lstI (some k)) (rfl) ?_
                  refine lv_istore_n (lv' := [(3, .int (lstI (some k))), (2, .int (lstM lo)), (4, .int (lstI (some vhg))), (6, .int (nI (mt ((16 * i) + k)))), (0, .ref b), (1, .int (nI i)), (5, .int (nI k))]) hx hb dM_threshold_101 rfl hl (by decide) rfl (fun ls hl => ?_)
                  rw [if_neg (fun q => g3 q.2), if_pos ⟨rfl, show mt (16 * i + k) = 1 by omega⟩, if_neg (fun q => by cases q)] at heq
                  refine lv_iinc (v := nI k - 1) (lv' := [(5, .int (nI k - 1)), (3, .int (lstI (some k))), (2, .int (lstM lo)), (4, .int (lstI (some vhg))), (6, .int (nI (mt ((16 * i) + k)))), (0, .ref b), (1, .int (nI i))]) hx hb dM_threshold_102 hl (k := 6) rfl (addm1 _) (by decide) rfl (fun ls hl => ?_)
                  refine lv_goto (tgt := 29) hx hb dM_threshold_105 (by decide) ?_
                  exact ih k lo (some k) (some vhg) (by omega) hlo (fun w q => by cases q; omega) (fun w q => by cases q; omega) heq (by omega) ls (lv_sub hl [5, 6, 2, 1, 3, 0] rfl)
                · refine lv_iload hx hb dM_threshold_82 (lv_at hl 6 rfl) ?_
                  refine lv_goto (tgt := 88) hx hb dM_threshold_84 (by decide) ?_
                  refine x_topi (y := lstM (some k)) (rfl) ?_
                  refine lv_istore_n (lv' := [(2, .int (lstM (some k))), (4, .int (lstI (some vhg))), (6, .int (nI (mt ((16 * i) + k)))), (0, .ref b), (1, .int (nI i)), (3, .int (-1)), (5, .int (nI k))]) hx hb dM_threshold_88 rfl hl (by decide) rfl (fun ls hl => ?_)
                  refine lv_iload hx hb dM_threshold_89 (lv_at hl 2 rfl) ?_
                  refine lv_iconst (v := nI 1) hx hb dM_threshold_91 (by decide) ?_
                  refine x_cne (a := mt ((16 * i) + k)) (b := 1) (tgt := 100) hx hb dM_threshold_92 (by decide) (by omega) (by omega) (fun h24 => ?_) (fun h24 => absurd h24 (by omega))
                  refine lv_iconst (v := -1) hx hb dM_threshold_100 (by decide) ?_
                  refine x_topi (y := lstI none) (rfl) ?_
                  refine lv_istore_n (lv' := [(3, .int (lstI none)), (2, .int (lstM (some k))), (4, .int (lstI (some vhg))), (6, .int (nI (mt ((16 * i) + k)))), (0, .ref b), (1, .int (nI i)), (5, .int (nI k))]) hx hb dM_threshold_101 rfl hl (by decide) rfl (fun ls hl => ?_)
                  rw [if_pos ⟨rfl, show mt (16 * i + k) = 2 from g3⟩, if_neg (fun q => absurd (show mt (16 * i + k) = 1 from q.2) (by omega)), if_neg (fun q => by cases q)] at heq
                  refine lv_iinc (v := nI k - 1) (lv' := [(5, .int (nI k - 1)), (3, .int (lstI none)), (2, .int (lstM (some k))), (4, .int (lstI (some vhg))), (6, .int (nI (mt ((16 * i) + k)))), (0, .ref b), (1, .int (nI i))]) hx hb dM_threshold_102 hl (k := 6) rfl (addm1 _) (by decide) rfl (fun ls hl => ?_)
                  refine lv_goto (tgt := 29) hx hb dM_threshold_105 (by decide) ?_
                  exact ih k (some k) none (some vhg) (by omega) (fun w q => by cases q; omega) (fun w q => by cases q) (fun w q => by cases q; omega) heq (by omega) ls (lv_sub hl [5, 6, 2, 1, 3, 0] rfl)
              · have hbe9 := hbe vbe rfl
                have hl : lv_has ls 7 [(4, .int (lstI (some vhg))), (6, .int (nI (mt ((16 * i) + k)))), (0, .ref b), (1, .int (nI i)), (2, .int (lstM lo)), (3, .int (nI vbe)), (5, .int (nI k))] := hl
                refine lv_iload_n hx hb dM_threshold_72 rfl (lv_at hl 5 rfl) ?_
                refine x_zge (a := vbe) (tgt := 102) hx hb dM_threshold_73 (by decide) (by omega) ?_
                rw [if_neg (fun q => by cases q.1), if_neg (fun q => by cases q.1), if_neg (fun q => by cases q)] at heq
                have hl : lv_has ls 7 [(4, .int (lstI (some vhg))), (6, .int (nI (mt ((16 * i) + k)))), (0, .ref b), (1, .int (nI i)), (2, .int (lstM lo)), (3, .int (lstI (some vbe))), (5, .int (nI k))] := hl
                refine lv_iinc (v := nI k - 1) (lv' := [(5, .int (nI k - 1)), (4, .int (lstI (some vhg))), (6, .int (nI (mt ((16 * i) + k)))), (0, .ref b), (1, .int (nI i)), (2, .int (lstM lo)), (3, .int (lstI (some vbe)))]) hx hb dM_threshold_102 hl (k := 6) rfl (addm1 _) (by decide) rfl (fun ls hl => ?_)
                refine lv_goto (tgt := 29) hx hb dM_threshold_105 (by decide) ?_
                exact ih k lo (some vbe) (some vhg) (by omega) hlo (fun w q => by cases q; omega) (fun w q => by cases q; omega) heq (by omega) ls (lv_sub hl [3, 4, 5, 6, 1, 0] rfl)
    refine lv_bipush (v := nI 16) hx hb dM_threshold_17 (by decide) ?_
    refine x_topi (y := lstM none) (rfl) ?_
    refine lv_istore_n (lv' := [(2, .int (lstM none)), (0, .ref b), (1, .int (nI i))]) hx hb dM_threshold_19 rfl hl (by decide) rfl (fun ls hl => ?_)
    refine lv_iconst (v := -1) hx hb dM_threshold_20 (by decide) ?_
    refine x_topi (y := lstI none) (rfl) ?_
    refine lv_istore_n (lv' := [(3, .int (lstI none)), (2, .int (lstM none)), (0, .ref b), (1, .int (nI i))]) hx hb dM_threshold_21 rfl hl (by decide) rfl (fun ls hl => ?_)
    refine lv_iconst (v := -1) hx hb dM_threshold_22 (by decide) ?_
    refine x_topi (y := lstI none) (rfl) ?_
    refine lv_istore (lv' := [(4, .int (lstI none)), (3, .int (lstI none)), (2, .int (lstM none)), (0, .ref b), (1, .int (nI i))]) hx hb dM_threshold_23 hl (by decide) rfl (fun ls hl => ?_)
    refine lv_bipush (v := nI 15) hx hb dM_threshold_25 (by decide) ?_
    refine x_topi (y := nI 16 - 1) (by decide) ?_
    refine lv_istore (lv' := [(5, .int (nI 16 - 1)), (4, .int (lstI none)), (3, .int (lstI none)), (2, .int (lstM none)), (0, .ref b), (1, .int (nI i))]) hx hb dM_threshold_27 hl (by decide) rfl (fun ls hl => ?_)
    exact loop 17 16 none none none (by omega) (fun w q => by cases q) (fun w q => by cases q) (fun w q => by cases q) rfl (by omega) ls (lv_sub hl [4, 5, 3, 2, 1, 0] rfl)
