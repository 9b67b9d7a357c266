theorem kt_cpy : Cond.static arraycopyName ∈ TT := inTT 488 (by decide +kernel) (by decide +kernel)
theorem kv_cpy : Cond.native arraycopyName ∈ TT := inTT 489 (by decide +kernel) (by decide +kernel)
theorem kn_sys : Cond.initialized "java/lang/System" ∈ TT := inTT 25 (by decide +kernel) (by decide +kernel)
section XC
variable {p : Program} {l : Launch} {e : Env} {R : Room} {s : State} {m : MethodId} {args : Array Value} {below : List Frame} {meth : Method} {c : Code} {H : Heap} {locs : List Loc} {cells slots : Nat} {Q : State → Prop}
variable {cc : ByteArray} {pc : Nat} {ls : Array Slot} {rest : List Value} {D : va_G} {cl : List vw_C} {A : Nat → Prop} {a : Nat} {tys : List (ClassId × FieldType)} {ws : va_W} {H0 : Heap}
theorem x_cpyl (hexec : p.tables.exec = Jvm.exec) (hb : c.code = cc) (hml : c.maxLocals = ls.size) {own : String} {index : Nat} (hown : s.vm.findClass own = some m.cls) (hlink : (Cond.methodLink own index arraycopyName).before args s = true) (hnat : (Cond.native arraycopyName).before args s = true) (hstat : (Cond.static arraycopyName).before args s = true) (hini : (Cond.initialized "java/lang/System").before args s = true)
    (hK : va_K D cl tys s) (hP : va_P D cl ws H) (hD : va_D A ws) (hS : va_S A H0 H locs) (q0 q1 t0 : Nat) {a0 : Nat} {c0 : ClassId} {n0 n1 k : Nat} {f g : Nat → Int64} (ha0 : ws[q0]? = some (a0, .inl (c0, n0, .inr (.inl f)))) (ha1 : ws[q1]? = some (a, .inl (c0, n1, .inr (.inl g)))) (ht0 : tys[t0]? = some (c0, .long)) (hk : k < 2 ^ 31) (h4 : k ≤ n0) (h5 : k ≤ n1)
    (hframes : 1 ≤ R.frames) (hlocals : (rest.map fun v => v.category).sum + (nativeFrameWords "java/lang/System" "arraycopy" 5 + 11) ≤ R.locals) (hdg : decode cc pc = .ok (.invokestatic index, 3))
    (kk : ∀ (H1 : Heap) (locs1 : List Loc), va_P D cl (ws.set q1 (a, .inl (c0, n1, .inr (.inl (va_cpy f g 0 0 k))))) H1 → va_D A (ws.set q1 (a, .inl (c0, n1, .inr (.inl (va_cpy f g 0 0 k))))) → va_S A H0 H1 locs1 → W p l e R s m args below meth c H1 locs1 cells slots Q (F0 m (pc + 3) ls rest)) : W p l e R s m args below meth c H locs cells slots Q (F0 m pc ls (.int (nI k) :: .int (nI 0) :: .ref a :: .int (nI 0) :: .ref a0 :: rest)) := by
  have e0 : (nI 0).toNatClampNeg = 0 := by decide
  have e1 : (nI k).toNatClampNeg = k := nI_clamp hk
  refine va_copyl hexec hb hml hown hlink hnat hstat hini hK hP hD hS q0 q1 t0 t0 ha0 ha1 ht0 ht0 rfl (by decide) (by decide) (nI_pos hk) (by rw [e0, e1]; omega) (by rw [e0, e1]; omega) (fun i hi => rfl) hframes hlocals hdg ?_
  rw [e0, e1]
  exact kk
end XC
def alB (f : Nat → Nat) (i : Nat) : Nat → Nat
  | 0 => 1
  | t + 1 => if ¬ alB f i t = 0 ∧ ¬ f (i * 5 + t) = 0 then 1 else 0
theorem alB_le (f : Nat → Nat) (i : Nat) : ∀ t, alB f i t ≤ 1
  | 0 => Nat.le_refl 1
  | t + 1 => by unfold alB; split <;> omega
theorem alB_iff (f : Nat → Nat) (i : Nat) : ∀ t, ¬ alB f i t = 0 ↔ ∀ k, k < t → ¬ f (i * 5 + k) = 0
  | 0 => ⟨fun _ k h => absurd h (Nat.not_lt_zero k), fun _ => by show ¬ 1 = 0; omega⟩
  | t + 1 => by
    have ih := alB_iff f i t
    unfold alB
    by_cases h : ¬ alB f i t = 0 ∧ ¬ f (i * 5 + t) = 0
    · rw [if_pos h]
      exact ⟨fun _ k hk => by
        by_cases e : k = t
        · rw [e]; exact h.2
        · exact ih.mp h.1 k (by omega), fun _ => by omega⟩
    · rw [if_neg h]
      exact ⟨fun q => absurd rfl q, fun q => absurd ⟨ih.mpr (fun k hk => q k (by omega)), q t (by omega)⟩ h⟩
theorem alB_all {f : Nat → Nat} {n i : Nat} (h : ¬ alB f i n = 0) : rkAll f n i = true := decide_eq_true ((alB_iff f i n).mp h)
theorem alB_not {f : Nat → Nat} {n i : Nat} (h : alB f i n = 0) : ¬ rkAll f n i = true := fun q => (alB_iff f i n).mpr (of_decide_eq_true q) h
theorem cpy_in {S N : Nat → Int64} {k : Nat} {x : Nat} (h : x < k) : va_cpy N S 0 0 k x = N x := by
  unfold va_cpy
  rw [if_pos ⟨Nat.zero_le _, by omega⟩, Nat.sub_zero, Nat.zero_add]
def wfM (sum m n : Nat) : Nat := wfA (cG n m) (m * (n + 1)) (adist (2 * sum) (m * (n + 1))) 0 (5 * m + 1)
theorem wfM_le (sum m n : Nat) : wfM sum m n ≤ n ^ m := by
  have h1 := wfA_tot (cG n m) (m * (n + 1)) (adist (2 * sum) (m * (n + 1))) 0 (5 * m + 1)
  have h2 := cG_tot n m (0 + (5 * m + 1))
  unfold wfM
  omega
theorem rkS_leM (f : Nat → Nat) (n : Nat) {N : Nat} (hf : ∀ x, x < 130 → f x ≤ 5) (hN : N ≤ 26) : rkS f n N ≤ 130 := by
  have := rkS_le f n hf N hN
  omega
theorem updL_eq {S : Nat → Int64} {k : Nat} {v : Int64} : vp_updL S k v k = v := by simp [vp_updL]
theorem updL_ne {S : Nat → Int64} {k x : Nat} {v : Int64} (h : x ≠ k) : vp_updL S k v x = S x := by simp [vp_updL, h]
theorem cg_0 {S : Nat → Int64} {n k v : Nat} (h : ∀ x, x < k → S x = lN (cG n 0 x)) (hv : v = cG n 0 k) : ∀ x, x < k + 1 → vp_updL S k (lN v) x = lN (cG n 0 x) := by
  intro x hx
  by_cases e : x = k
  · rw [e, updL_eq, hv]
  · rw [updL_ne e]
    exact h x (by omega)
theorem perm_nx {N : Nat → Int64} {n t z r : Nat} (hr : r = min n z) (h : ∀ w, w < z → N w = lN (cG n (t + 1) w)) (hz : N z = lN (sgS (cG n t) z r)) : ∀ w, w < z + 1 → N w = lN (cG n (t + 1) w) := by
  intro w hw
  by_cases e : w = z
  · rw [e, hz, cG_step, hr]
  · exact h w (by omega)
set_option maxHeartbeats 400000 in
set_option maxRecDepth 100000 in
theorem c_M_permuted (l : Launch) (D : va_G) (κ : Nat → ClassId) (base : Nat) (H0 : Heap) {b : Nat} {sd : Int64} {nT nS th : Nat} {mk ms ma mr mt : Nat → Nat} (hR : RMo D κ base b sd nT nS mk ms ma mr mt th H0) (x y : Int32) (r : Int64) (p0 : noS nS x → r = -1) (p1 : ∀ j, j < nS → x = nI j → ¬ mk j = 3 → r = -1) (p2 : (¬ y = 0 ∧ ¬ y = 1) → r = -1) (p3 : ∀ j, j < nS → x = nI j → rkC (fun x => mr (130 * j + x)) (ms j) nT = 0 → r = -1) (p4 : ∀ j q, j < nS → x = nI j → mk j = 3 → q < 2 → y = nI q → ¬ rkC (fun x => mr (130 * j + x)) (ms j) nT = 0 → r = lN ((if q = 0 then wfM (rkS (fun x => mr (130 * j + x)) (ms j) nT) (rkC (fun x => mr (130 * j + x)) (ms j) nT) (ms j) else ms j ^ rkC (fun x => mr (130 * j + x)) (ms j) nT) / Nat.gcd (ms j ^ rkC (fun x => mr (130 * j + x)) (ms j) nT) (wfM (rkS (fun x => mr (130 * j + x)) (ms j) nT) (rkC (fun x => mr (130 * j + x)) (ms j) nT) (ms j)))) : Met l yM_permuted wM_permuted ({ frames := 1, cells := 0, slots := 0, locals := 120 }) (Pq D κ base [.ref b, .int x, .int y] H0) (q_W (fun v H => v = some (.long r) ∧ RMo D κ base b sd nT nS mk ms ma mr mt 0 H ∧ FrM b H0 H)) 0 0 (OwnM b H0.size) := by
  refine Met.ofW (cc := bM_permuted) (maxL := 10) (ret := (some FieldType.long)) (by decide) rfl ?_
  intro p e s m args below meth c s₁ B hml hv
  obtain ⟨rfl, hH, hE⟩ := hv
  subst hH
  have hx := B.exec
  have hb := B.bytes
  have hr := B.returns
  have hT : ∀ w ∈ TT, w.before _ s = true := fun w h => atoms_spec (ws := wM_permuted) B.pre w (List.mem_cons_of_mem _ h)
  have hown : s.vm.findClass "TasterPanelsModel" = some m.cls := findClass_of_methodNamed B.named
  have hlocks := B.notSynchronized
  have hK := hE.1
  have hS : va_S (fun q => base ≤ q) s.heap s.heap [] := va_S.rf
  have hAb : ∀ q : Nat, (fun q : Nat => base ≤ q) q → base ≤ q := fun _ h => h
  have hl := lv_entry ([.ref b, .int x, .int y]) (n := 10) (Nat.le_of_ble_eq_true rfl)
  rw [lg_entry_eq]
  generalize (lg_sl ([.ref b, .int x, .int y]) ++ List.replicate (10 - (lg_sl ([.ref b, .int x, .int y])).length) Slot.unset).toArray = ls at hl ⊢
  have hl : lv_has ls 10 [(0, .ref b), (1, .int x), (2, .int y)] := hl
  obtain ⟨⟨F, wy, nx, hP⟩, ⟨hnT, hnS, hba, hbh, hth⟩, hmk, hma, hmr, hmt⟩ := hR
  have hbs : base ≤ s.heap.size := by omega
  have hP : va_P D vwCl [(b, .inr (3, [.long sd, .int (nI nT), .int (nI nS), .ref (b + 1), .ref (b + 2), .ref (b + 3), .ref (b + 4), .ref (b + 5), .ref (b + 6), .ref (b + 7), .ref (b + 8), .int (nI th)])), ((b + 1), .inl (κ 0, 40, .inl (fun j => nI (mk j)))), ((b + 2), .inl (κ 0, 40, .inl (fun j => nI (ms j)))), ((b + 3), .inl (κ 0, 1040, .inl (fun x => nI (ma x)))), ((b + 4), .inl (κ 0, 5200, .inl (fun x => nI (mr x)))), ((b + 5), .inl (κ 0, 416, .inl (fun x => nI (mt x)))), ((b + 6), .inl (κ 0, 120, .inl F)), ((b + 7), .inl (κ 2, 140, .inr (.inl wy))), ((b + 8), .inl (κ 2, 140, .inr (.inl nx)))] s.heap := hP
  have hnd : ([(b, .inr (3, [.long sd, .int (nI nT), .int (nI nS), .ref (b + 1), .ref (b + 2), .ref (b + 3), .ref (b + 4), .ref (b + 5), .ref (b + 6), .ref (b + 7), .ref (b + 8), .int (nI th)])), ((b + 1), .inl (κ 0, 40, .inl (fun j => nI (mk j)))), ((b + 2), .inl (κ 0, 40, .inl (fun j => nI (ms j)))), ((b + 3), .inl (κ 0, 1040, .inl (fun x => nI (ma x)))), ((b + 4), .inl (κ 0, 5200, .inl (fun x => nI (mr x)))), ((b + 5), .inl (κ 0, 416, .inl (fun x => nI (mt x)))), ((b + 6), .inl (κ 0, 120, .inl F)), ((b + 7), .inl (κ 2, 140, .inr (.inl wy))), ((b + 8), .inl (κ 2, 140, .inr (.inl nx)))] : va_W).map Prod.fst |>.Nodup := by simp only [List.map, List.nodup_cons, List.mem_cons, List.not_mem_nil, or_false, not_or, List.nodup_nil, and_true, not_false_eq_true, List.forall_mem_cons, forall_eq_or_imp, forall_eq]; omega
  have hD0 : va_D (fun q => base ≤ q) [(b, .inr (3, [.long sd, .int (nI nT), .int (nI nS), .ref (b + 1), .ref (b + 2), .ref (b + 3), .ref (b + 4), .ref (b + 5), .ref (b + 6), .ref (b + 7), .ref (b + 8), .int (nI th)])), ((b + 1), .inl (κ 0, 40, .inl (fun j => nI (mk j)))), ((b + 2), .inl (κ 0, 40, .inl (fun j => nI (ms j)))), ((b + 3), .inl (κ 0, 1040, .inl (fun x => nI (ma x)))), ((b + 4), .inl (κ 0, 5200, .inl (fun x => nI (mr x)))), ((b + 5), .inl (κ 0, 416, .inl (fun x => nI (mt x)))), ((b + 6), .inl (κ 0, 120, .inl F)), ((b + 7), .inl (κ 2, 140, .inr (.inl wy))), ((b + 8), .inl (κ 2, 140, .inr (.inl nx)))] := D_of hnd (by simp only [List.map, List.nodup_cons, List.mem_cons, List.not_mem_nil, or_false, not_or, List.nodup_nil, and_true, not_false_eq_true, List.forall_mem_cons, forall_eq_or_imp, forall_eq]; omega)
  have hD := hD0.self (sz := s.heap.size)
  have hAO : ∀ x9, va_A [(b, .inr (3, [.long sd, .int (nI nT), .int (nI nS), .ref (b + 1), .ref (b + 2), .ref (b + 3), .ref (b + 4), .ref (b + 5), .ref (b + 6), .ref (b + 7), .ref (b + 8), .int (nI th)])), ((b + 1), .inl (κ 0, 40, .inl (fun j => nI (mk j)))), ((b + 2), .inl (κ 0, 40, .inl (fun j => nI (ms j)))), ((b + 3), .inl (κ 0, 1040, .inl (fun x => nI (ma x)))), ((b + 4), .inl (κ 0, 5200, .inl (fun x => nI (mr x)))), ((b + 5), .inl (κ 0, 416, .inl (fun x => nI (mt x)))), ((b + 6), .inl (κ 0, 120, .inl F)), ((b + 7), .inl (κ 2, 140, .inr (.inl wy))), ((b + 8), .inl (κ 2, 140, .inr (.inl nx)))] s.heap.size x9 → OwnM b s.heap.size x9 := fun x9 h => by have h2 := A_addr h; simp only [List.map, List.mem_cons, List.not_mem_nil, or_false] at h2; unfold OwnM; omega
  have hAb : ∀ x9, va_A [(b, .inr (3, [.long sd, .int (nI nT), .int (nI nS), .ref (b + 1), .ref (b + 2), .ref (b + 3), .ref (b + 4), .ref (b + 5), .ref (b + 6), .ref (b + 7), .ref (b + 8), .int (nI th)])), ((b + 1), .inl (κ 0, 40, .inl (fun j => nI (mk j)))), ((b + 2), .inl (κ 0, 40, .inl (fun j => nI (ms j)))), ((b + 3), .inl (κ 0, 1040, .inl (fun x => nI (ma x)))), ((b + 4), .inl (κ 0, 5200, .inl (fun x => nI (mr x)))), ((b + 5), .inl (κ 0, 416, .inl (fun x => nI (mt x)))), ((b + 6), .inl (κ 0, 120, .inl F)), ((b + 7), .inl (κ 2, 140, .inr (.inl wy))), ((b + 8), .inl (κ 2, 140, .inr (.inl nx)))] s.heap.size x9 → base ≤ x9 := fun x9 h => by have h2 := hAO x9 h; unfold OwnM at h2; omega
  generalize hAe : va_A [(b, .inr (3, [.long sd, .int (nI nT), .int (nI nS), .ref (b + 1), .ref (b + 2), .ref (b + 3), .ref (b + 4), .ref (b + 5), .ref (b + 6), .ref (b + 7), .ref (b + 8), .int (nI th)])), ((b + 1), .inl (κ 0, 40, .inl (fun j => nI (mk j)))), ((b + 2), .inl (κ 0, 40, .inl (fun j => nI (ms j)))), ((b + 3), .inl (κ 0, 1040, .inl (fun x => nI (ma x)))), ((b + 4), .inl (κ 0, 5200, .inl (fun x => nI (mr x)))), ((b + 5), .inl (κ 0, 416, .inl (fun x => nI (mt x)))), ((b + 6), .inl (κ 0, 120, .inl F)), ((b + 7), .inl (κ 2, 140, .inr (.inl wy))), ((b + 8), .inl (κ 2, 140, .inr (.inl nx)))] s.heap.size = A at hD hAO hAb
  have hA : ∀ x9, s.heap.size ≤ x9 → A x9 := fun x9 h => by rw [← hAe]; exact Or.inr h
  have hS : va_S A s.heap s.heap [] := va_S.rf
  refine lv_aload_n hx hb dM_permuted_0 rfl (lv_at hl 0 rfl) ?_
  refine lv_iconst (v := nI 0) hx hb dM_permuted_1 (by decide) ?_
  refine va_put (D := D) (ci := 3) (v := .int (nI 0)) (ty := .int) (C := RM) (T := FM) (N := 12) hx hb hT inM tyM tyM_ok nmM hown hK hP hD hS 0 rfl rfl 11 (by decide) (hT _ kM39) (fun _ h9 => h9) rfl (by decide +kernel) rfl rfl (Nat.le_of_ble_eq_true rfl) dM_permuted_2 (fun H locs hP hD hS => ?_)
  have hP : va_P D vwCl [(b, .inr (3, [.long sd, .int (nI nT), .int (nI nS), .ref (b + 1), .ref (b + 2), .ref (b + 3), .ref (b + 4), .ref (b + 5), .ref (b + 6), .ref (b + 7), .ref (b + 8), .int (nI 0)])), ((b + 1), .inl (κ 0, 40, .inl (fun j => nI (mk j)))), ((b + 2), .inl (κ 0, 40, .inl (fun j => nI (ms j)))), ((b + 3), .inl (κ 0, 1040, .inl (fun x => nI (ma x)))), ((b + 4), .inl (κ 0, 5200, .inl (fun x => nI (mr x)))), ((b + 5), .inl (κ 0, 416, .inl (fun x => nI (mt x)))), ((b + 6), .inl (κ 0, 120, .inl F)), ((b + 7), .inl (κ 2, 140, .inr (.inl wy))), ((b + 8), .inl (κ 2, 140, .inr (.inl nx)))] H := hP
  have hD : va_D A [(b, .inr (3, [.long sd, .int (nI nT), .int (nI nS), .ref (b + 1), .ref (b + 2), .ref (b + 3), .ref (b + 4), .ref (b + 5), .ref (b + 6), .ref (b + 7), .ref (b + 8), .int (nI 0)])), ((b + 1), .inl (κ 0, 40, .inl (fun j => nI (mk j)))), ((b + 2), .inl (κ 0, 40, .inl (fun j => nI (ms j)))), ((b + 3), .inl (κ 0, 1040, .inl (fun x => nI (ma x)))), ((b + 4), .inl (κ 0, 5200, .inl (fun x => nI (mr x)))), ((b + 5), .inl (κ 0, 416, .inl (fun x => nI (mt x)))), ((b + 6), .inl (κ 0, 120, .inl F)), ((b + 7), .inl (κ 2, 140, .inr (.inl wy))), ((b + 8), .inl (κ 2, 140, .inr (.inl nx)))] := hD
  refine lv_aload_n hx hb dM_permuted_5 rfl (lv_at hl 0 rfl) ?_
  refine lv_iload_n hx hb dM_permuted_6 rfl (lv_at hl 1 rfl) ?_
  rcases whoS nS x with e1 | ⟨j, hj, hj4, rfl⟩
  · refine x_callP (v := .int (nI 0)) (va_runV (As := [.int x]) (rest := []) ⟨hx, hb, hml, hown, hT⟩ (c_M_isTest l D κ base H (hP.sub [0] rfl) (by omega) x 0 (fun _ => rfl) (fun i hi e => noS_no (by assumption) (by omega) hi e)) (cwV 1 hT (TT_V kM61 kiM_isTest ksM_isTest knM kcM_isTest) rfl rfl rfl (by decide +kernel) ⟨Nat.le_of_ble_eq_true rfl, Nat.le_of_ble_eq_true rfl⟩) (pcV hE hS hAb (va_recv hK hP (ci := 3) (q0 := 0) rfl rfl)) rfl rfl hl.1 rfl (lv_room (Nat.le_of_ble_eq_true rfl)) dM_permuted_7 ⟨Nat.le_of_ble_eq_true rfl, Nat.le_of_ble_eq_true rfl⟩) ?_
    refine x_zeq (a := 0) (tgt := 32) hx hb dM_permuted_10 (by decide) (by omega) (fun h1 => ?_) (fun h1 => absurd rfl h1)
    refine lv_ldc2 (v := -1) hx hb hown (hT _ kM98) dM_permuted_32 ?_
    have hP := hP.sub (ws' := [(b, .inr (3, [.long sd, .int (nI nT), .int (nI nS), .ref (b + 1), .ref (b + 2), .ref (b + 3), .ref (b + 4), .ref (b + 5), .ref (b + 6), .ref (b + 7), .ref (b + 8), .int (nI 0)])), ((b + 1), .inl (κ 0, 40, .inl (fun j => nI (mk j)))), ((b + 2), .inl (κ 0, 40, .inl (fun j => nI (ms j)))), ((b + 3), .inl (κ 0, 1040, .inl (fun x => nI (ma x)))), ((b + 4), .inl (κ 0, 5200, .inl (fun x => nI (mr x)))), ((b + 5), .inl (κ 0, 416, .inl (fun x => nI (mt x)))), ((b + 6), .inl (κ 0, 120, .inl F)), ((b + 7), .inl (κ 2, 140, .inr (.inl wy))), ((b + 8), .inl (κ 2, 140, .inr (.inl nx)))]) [0, 1, 2, 3, 4, 5, 6, 7, 8] rfl
    have hD := hD.sub (ws' := [(b, .inr (3, [.long sd, .int (nI nT), .int (nI nS), .ref (b + 1), .ref (b + 2), .ref (b + 3), .ref (b + 4), .ref (b + 5), .ref (b + 6), .ref (b + 7), .ref (b + 8), .int (nI 0)])), ((b + 1), .inl (κ 0, 40, .inl (fun j => nI (mk j)))), ((b + 2), .inl (κ 0, 40, .inl (fun j => nI (ms j)))), ((b + 3), .inl (κ 0, 1040, .inl (fun x => nI (ma x)))), ((b + 4), .inl (κ 0, 5200, .inl (fun x => nI (mr x)))), ((b + 5), .inl (κ 0, 416, .inl (fun x => nI (mt x)))), ((b + 6), .inl (κ 0, 120, .inl F)), ((b + 7), .inl (κ 2, 140, .inr (.inl wy))), ((b + 8), .inl (κ 2, 140, .inr (.inl nx)))]) [0, 1, 2, 3, 4, 5, 6, 7, 8] (by decide) rfl
    exact W.lret (v := -1) hx hb hr (fun t9 ht9 hW9 => ⟨some (.long (-1)), rfl, by rw [ht9]; exact ⟨by rw [p0 e1], ⟨⟨_, _, _, hP⟩, ⟨⟨hnT, hnS, hba, Nat.le_trans hbh hS.1, by omega⟩, hmk, hma, hmr, hmt⟩⟩, ⟨hS.1, fun q h1 h2 => hS.2.1 q h1 (fun z => h2 (hAO q z))⟩⟩⟩) (fun q h => hAO _ (hS.2.2 q h)) dM_permuted_35
  · refine x_callP (v := .int (nI 1)) (va_runV (As := [.int (nI j)]) (rest := []) ⟨hx, hb, hml, hown, hT⟩ (c_M_isTest l D κ base H (hP.sub [0] rfl) (by omega) (nI j) 1 (fun h => at_out (by omega) (by assumption) h rfl) (fun _ _ _ => rfl)) (cwV 1 hT (TT_V kM61 kiM_isTest ksM_isTest knM kcM_isTest) rfl rfl rfl (by decide +kernel) ⟨Nat.le_of_ble_eq_true rfl, Nat.le_of_ble_eq_true rfl⟩) (pcV hE hS hAb (va_recv hK hP (ci := 3) (q0 := 0) rfl rfl)) rfl rfl hl.1 rfl (lv_room (Nat.le_of_ble_eq_true rfl)) dM_permuted_7 ⟨Nat.le_of_ble_eq_true rfl, Nat.le_of_ble_eq_true rfl⟩) ?_
    refine x_zeq (a := 1) (tgt := 32) hx hb dM_permuted_10 (by decide) (by omega) (fun h2 => absurd h2 (by decide)) (fun h2 => ?_)
    have hok := hmk j hj
    have hsp := hok.lt
    refine lv_aload_n hx hb dM_permuted_13 rfl (lv_at hl 0 rfl) ?_
    refine va_get (D := D) (ci := 3) (v := .ref (b + 1)) (C := RM) (T := FM) (N := 12) hx hb hT inM hown hK hP 0 rfl rfl 3 (by decide) (hT _ kM9) (fun _ h9 => h9) rfl dM_permuted_14 ?_
    refine lv_iload_n hx hb dM_permuted_17 rfl (lv_at hl 1 rfl) ?_
    refine x_iald hx hb hK hP 1 0 (j := j) (v := nI (mk j)) rfl rfl (by omega) (by decide) (rfl) dM_permuted_18 ?_
    refine lv_iconst (v := nI 3) hx hb dM_permuted_19 (by decide) ?_
    refine x_cne (a := mk j) (b := 3) (tgt := 32) hx hb dM_permuted_20 (by decide) (by omega) (by omega) (fun g1 => ?_) (fun g1 => ?_)
    · refine lv_ldc2 (v := -1) hx hb hown (hT _ kM98) dM_permuted_32 ?_
      have hP := hP.sub (ws' := [(b, .inr (3, [.long sd, .int (nI nT), .int (nI nS), .ref (b + 1), .ref (b + 2), .ref (b + 3), .ref (b + 4), .ref (b + 5), .ref (b + 6), .ref (b + 7), .ref (b + 8), .int (nI 0)])), ((b + 1), .inl (κ 0, 40, .inl (fun j => nI (mk j)))), ((b + 2), .inl (κ 0, 40, .inl (fun j => nI (ms j)))), ((b + 3), .inl (κ 0, 1040, .inl (fun x => nI (ma x)))), ((b + 4), .inl (κ 0, 5200, .inl (fun x => nI (mr x)))), ((b + 5), .inl (κ 0, 416, .inl (fun x => nI (mt x)))), ((b + 6), .inl (κ 0, 120, .inl F)), ((b + 7), .inl (κ 2, 140, .inr (.inl wy))), ((b + 8), .inl (κ 2, 140, .inr (.inl nx)))]) [0, 1, 2, 3, 4, 5, 6, 7, 8] rfl
      have hD := hD.sub (ws' := [(b, .inr (3, [.long sd, .int (nI nT), .int (nI nS), .ref (b + 1), .ref (b + 2), .ref (b + 3), .ref (b + 4), .ref (b + 5), .ref (b + 6), .ref (b + 7), .ref (b + 8), .int (nI 0)])), ((b + 1), .inl (κ 0, 40, .inl (fun j => nI (mk j)))), ((b + 2), .inl (κ 0, 40, .inl (fun j => nI (ms j)))), ((b + 3), .inl (κ 0, 1040, .inl (fun x => nI (ma x)))), ((b + 4), .inl (κ 0, 5200, .inl (fun x => nI (mr x)))), ((b + 5), .inl (κ 0, 416, .inl (fun x => nI (mt x)))), ((b + 6), .inl (κ 0, 120, .inl F)), ((b + 7), .inl (κ 2, 140, .inr (.inl wy))), ((b + 8), .inl (κ 2, 140, .inr (.inl nx)))]) [0, 1, 2, 3, 4, 5, 6, 7, 8] (by decide) rfl
      exact W.lret (v := -1) hx hb hr (fun t9 ht9 hW9 => ⟨some (.long (-1)), rfl, by rw [ht9]; exact ⟨by rw [p1 j hj rfl g1], ⟨⟨_, _, _, hP⟩, ⟨⟨hnT, hnS, hba, Nat.le_trans hbh hS.1, by omega⟩, hmk, hma, hmr, hmt⟩⟩, ⟨hS.1, fun q h1 h2 => hS.2.1 q h1 (fun z => h2 (hAO q z))⟩⟩⟩) (fun q h => hAO _ (hS.2.2 q h)) dM_permuted_35
    · refine lv_iload_n hx hb dM_permuted_23 rfl (lv_at hl 2 rfl) ?_
      rcases pk_ix y (show 2 < 2 ^ 31 by decide) with e3 | e3 | ⟨pt, hpt, rfl⟩
      · refine lv_if_lt (tgt := 32) hx hb dM_permuted_24 (by decide) (fun h3 => ?_) (fun h3 => absurd e3 h3)
        refine lv_ldc2 (v := -1) hx hb hown (hT _ kM98) dM_permuted_32 ?_
        have hP := hP.sub (ws' := [(b, .inr (3, [.long sd, .int (nI nT), .int (nI nS), .ref (b + 1), .ref (b + 2), .ref (b + 3), .ref (b + 4), .ref (b + 5), .ref (b + 6), .ref (b + 7), .ref (b + 8), .int (nI 0)])), ((b + 1), .inl (κ 0, 40, .inl (fun j => nI (mk j)))), ((b + 2), .inl (κ 0, 40, .inl (fun j => nI (ms j)))), ((b + 3), .inl (κ 0, 1040, .inl (fun x => nI (ma x)))), ((b + 4), .inl (κ 0, 5200, .inl (fun x => nI (mr x)))), ((b + 5), .inl (κ 0, 416, .inl (fun x => nI (mt x)))), ((b + 6), .inl (κ 0, 120, .inl F)), ((b + 7), .inl (κ 2, 140, .inr (.inl wy))), ((b + 8), .inl (κ 2, 140, .inr (.inl nx)))]) [0, 1, 2, 3, 4, 5, 6, 7, 8] rfl
        have hD := hD.sub (ws' := [(b, .inr (3, [.long sd, .int (nI nT), .int (nI nS), .ref (b + 1), .ref (b + 2), .ref (b + 3), .ref (b + 4), .ref (b + 5), .ref (b + 6), .ref (b + 7), .ref (b + 8), .int (nI 0)])), ((b + 1), .inl (κ 0, 40, .inl (fun j => nI (mk j)))), ((b + 2), .inl (κ 0, 40, .inl (fun j => nI (ms j)))), ((b + 3), .inl (κ 0, 1040, .inl (fun x => nI (ma x)))), ((b + 4), .inl (κ 0, 5200, .inl (fun x => nI (mr x)))), ((b + 5), .inl (κ 0, 416, .inl (fun x => nI (mt x)))), ((b + 6), .inl (κ 0, 120, .inl F)), ((b + 7), .inl (κ 2, 140, .inr (.inl wy))), ((b + 8), .inl (κ 2, 140, .inr (.inl nx)))]) [0, 1, 2, 3, 4, 5, 6, 7, 8] (by decide) rfl
        exact W.lret (v := -1) hx hb hr (fun t9 ht9 hW9 => ⟨some (.long (-1)), rfl, by rw [ht9]; exact ⟨by rw [p2 ⟨fun e => at_out (n := 2) (j := 0) (by decide) (by decide) (Or.inl e3) e, fun e => at_out (n := 2) (j := 1) (by decide) (by decide) (Or.inl e3) e⟩], ⟨⟨_, _, _, hP⟩, ⟨⟨hnT, hnS, hba, Nat.le_trans hbh hS.1, by omega⟩, hmk, hma, hmr, hmt⟩⟩, ⟨hS.1, fun q h1 h2 => hS.2.1 q h1 (fun z => h2 (hAO q z))⟩⟩⟩) (fun q h => hAO _ (hS.2.2 q h)) dM_permuted_35
      · refine lv_if_lt (tgt := 32) hx hb dM_permuted_24 (by decide) (fun h4 => absurd (Int32.lt_of_le_of_lt e3 h4) (by decide)) (fun h4 => ?_)
        refine lv_iload_n hx hb dM_permuted_27 rfl (lv_at hl 2 rfl) ?_
        refine lv_iconst (v := nI 1) hx hb dM_permuted_28 (by decide) ?_
        refine lv_icmp_le (tgt := 36) hx hb dM_permuted_29 (by decide) (fun h5 => absurd (Int32.lt_of_le_of_lt (Int32.le_trans e3 h5) (show nI 1 < nI 2 by decide)) (fun q => Int32.lt_irrefl q)) (fun h5 => ?_)
        refine lv_ldc2 (v := -1) hx hb hown (hT _ kM98) dM_permuted_32 ?_
        have hP := hP.sub (ws' := [(b, .inr (3, [.long sd, .int (nI nT), .int (nI nS), .ref (b + 1), .ref (b + 2), .ref (b + 3), .ref (b + 4), .ref (b + 5), .ref (b + 6), .ref (b + 7), .ref (b + 8), .int (nI 0)])), ((b + 1), .inl (κ 0, 40, .inl (fun j => nI (mk j)))), ((b + 2), .inl (κ 0, 40, .inl (fun j => nI (ms j)))), ((b + 3), .inl (κ 0, 1040, .inl (fun x => nI (ma x)))), ((b + 4), .inl (κ 0, 5200, .inl (fun x => nI (mr x)))), ((b + 5), .inl (κ 0, 416, .inl (fun x => nI (mt x)))), ((b + 6), .inl (κ 0, 120, .inl F)), ((b + 7), .inl (κ 2, 140, .inr (.inl wy))), ((b + 8), .inl (κ 2, 140, .inr (.inl nx)))]) [0, 1, 2, 3, 4, 5, 6, 7, 8] rfl
        have hD := hD.sub (ws' := [(b, .inr (3, [.long sd, .int (nI nT), .int (nI nS), .ref (b + 1), .ref (b + 2), .ref (b + 3), .ref (b + 4), .ref (b + 5), .ref (b + 6), .ref (b + 7), .ref (b + 8), .int (nI 0)])), ((b + 1), .inl (κ 0, 40, .inl (fun j => nI (mk j)))), ((b + 2), .inl (κ 0, 40, .inl (fun j => nI (ms j)))), ((b + 3), .inl (κ 0, 1040, .inl (fun x => nI (ma x)))), ((b + 4), .inl (κ 0, 5200, .inl (fun x => nI (mr x)))), ((b + 5), .inl (κ 0, 416, .inl (fun x => nI (mt x)))), ((b + 6), .inl (κ 0, 120, .inl F)), ((b + 7), .inl (κ 2, 140, .inr (.inl wy))), ((b + 8), .inl (κ 2, 140, .inr (.inl nx)))]) [0, 1, 2, 3, 4, 5, 6, 7, 8] (by decide) rfl
        exact W.lret (v := -1) hx hb hr (fun t9 ht9 hW9 => ⟨some (.long (-1)), rfl, by rw [ht9]; exact ⟨by rw [p2 ⟨fun e => at_out (n := 2) (j := 0) (by decide) (by decide) (Or.inr e3) e, fun e => at_out (n := 2) (j := 1) (by decide) (by decide) (Or.inr e3) e⟩], ⟨⟨_, _, _, hP⟩, ⟨⟨hnT, hnS, hba, Nat.le_trans hbh hS.1, by omega⟩, hmk, hma, hmr, hmt⟩⟩, ⟨hS.1, fun q h1 h2 => hS.2.1 q h1 (fun z => h2 (hAO q z))⟩⟩⟩) (fun q h => hAO _ (hS.2.2 q h)) dM_permuted_35
      · refine x_zlt (a := pt) (tgt := 32) hx hb dM_permuted_24 (by decide) (by omega) ?_
        refine lv_iload_n hx hb dM_permuted_27 rfl (lv_at hl 2 rfl) ?_
        refine lv_iconst (v := nI 1) hx hb dM_permuted_28 (by decide) ?_
        refine x_cle (a := pt) (b := 1) (tgt := 36) hx hb dM_permuted_29 (by decide) (by omega) (by omega) (fun h7 => ?_) (fun h7 => absurd h7 (by omega))
        have hf5 : ∀ x, x < 130 → (fun x => mr (130 * j + x)) x ≤ 5 := fun x hx => hmr (130 * j + x) (by omega)
        obtain ⟨n, hn⟩ : ∃ n, n = ms j := ⟨_, rfl⟩
        have hn5 : n ≤ 5 := by omega
        have hn2 : 2 ≤ n := by omega
        have hm26 : rkC (fun x => mr (130 * j + x)) (ms j) nT ≤ 26 := Nat.le_trans (rkC_le _ _ _) hnT
        have hs130 : rkS (fun x => mr (130 * j + x)) (ms j) nT ≤ 130 := rkS_leM _ _ hf5 hnT
        obtain ⟨mm, hmm⟩ : ∃ mm, mm = rkC (fun x => mr (130 * j + x)) (ms j) nT := ⟨_, rfl⟩
        obtain ⟨sm, hsm⟩ : ∃ sm, sm = rkS (fun x => mr (130 * j + x)) (ms j) nT := ⟨_, rfl⟩
        rw [← hmm] at hm26
        rw [← hsm] at hs130
        have hb8 : mm * (n + 1) ≤ 156 := by have := Nat.mul_le_mul hm26 (show n + 1 ≤ 6 by omega); omega
        have hfar : adist (2 * sm) (mm * (n + 1)) ≤ 300 := by unfold adist; split <;> omega
        have loop1 : ∀ (fu : Nat) (pp : Nat), (pp ≤ nT) → nT - pp < fu → ∀ ls : Array Slot, lv_has ls 10 [(0, .ref b), (1, .int (nI j)), (2, .int (nI pt)), (3, .int (nI n)), (4, .int (nI (rkC (fun x => mr (130 * j + x)) n pp))), (5, .int (nI (rkS (fun x => mr (130 * j + x)) n pp))), (6, .int (nI pp))] → W p l e (headSpec wM_permuted ({ frames := 1, cells := 0, slots := 0, locals := 120 })).room s m ([.ref b, .int (nI j), .int (nI pt)] : List Value).toArray below meth c H locs 0 0 (MQ below (q_W (fun v H => v = some (.long r) ∧ RMo D κ base b sd nT nS mk ms ma mr mt 0 H ∧ FrM b s.heap H)) ([.ref b, .int (nI j), .int (nI pt)] : List Value).toArray s 0 0 (OwnM b s.heap.size)) (F0 m 52 ls []) := by
          intro fu
          induction fu with
          | zero =>
            intro pp hpp hmu
            exact absurd hmu (Nat.not_lt_zero _)
          | succ fu ih1 =>
            intro pp hpp hmu ls hl
            refine lv_iload hx hb dM_permuted_52 (lv_at hl 6 rfl) ?_
            refine lv_aload_n hx hb dM_permuted_54 rfl (lv_at hl 0 rfl) ?_
            refine va_get (D := D) (ci := 3) (v := .int (nI nT)) (C := RM) (T := FM) (N := 12) hx hb hT inM hown hK hP 0 rfl rfl 1 (by decide) (hT _ kM43) (fun _ h9 => h9) rfl dM_permuted_55 ?_
            refine x_cge (a := pp) (b := nT) (tgt := 157) hx hb dM_permuted_58 (by decide) (by omega) (by omega) (fun g3 => ?_) (fun g3 => ?_)
            · have e6 : pp = nT := by omega
              rw [e6, hn, ← hmm, ← hsm, ← hn] at hl
              refine lv_iload hx hb dM_permuted_157 (lv_at hl 4 rfl) ?_
              refine x_zne (a := mm) (tgt := 166) hx hb dM_permuted_159 (by decide) (by omega) (fun g9 => ?_) (fun g9 => ?_)
              · have loop3 : ∀ (fu : Nat) (t : Nat) (S N : Nat → Int64) (H : Heap) (locs : List Loc), (t ≤ mm) → (∀ w, w ≤ 5 * mm → S w = lN (cG n t w)) → va_P D vwCl [(b, .inr (3, [.long sd, .int (nI nT), .int (nI nS), .ref (b + 1), .ref (b + 2), .ref (b + 3), .ref (b + 4), .ref (b + 5), .ref (b + 6), .ref (b + 7), .ref (b + 8), .int (nI 0)])), ((b + 1), .inl (κ 0, 40, .inl (fun j => nI (mk j)))), ((b + 2), .inl (κ 0, 40, .inl (fun j => nI (ms j)))), ((b + 3), .inl (κ 0, 1040, .inl (fun x => nI (ma x)))), ((b + 4), .inl (κ 0, 5200, .inl (fun x => nI (mr x)))), ((b + 5), .inl (κ 0, 416, .inl (fun x => nI (mt x)))), ((b + 6), .inl (κ 0, 120, .inl F)), ((b + 7), .inl (κ 2, 140, .inr (.inl S))), ((b + 8), .inl (κ 2, 140, .inr (.inl N)))] H → va_D A [(b, .inr (3, [.long sd, .int (nI nT), .int (nI nS), .ref (b + 1), .ref (b + 2), .ref (b + 3), .ref (b + 4), .ref (b + 5), .ref (b + 6), .ref (b + 7), .ref (b + 8), .int (nI 0)])), ((b + 1), .inl (κ 0, 40, .inl (fun j => nI (mk j)))), ((b + 2), .inl (κ 0, 40, .inl (fun j => nI (ms j)))), ((b + 3), .inl (κ 0, 1040, .inl (fun x => nI (ma x)))), ((b + 4), .inl (κ 0, 5200, .inl (fun x => nI (mr x)))), ((b + 5), .inl (κ 0, 416, .inl (fun x => nI (mt x)))), ((b + 6), .inl (κ 0, 120, .inl F)), ((b + 7), .inl (κ 2, 140, .inr (.inl S))), ((b + 8), .inl (κ 2, 140, .inr (.inl N)))] → va_S A s.heap H locs → mm - t < fu → ∀ ls : Array Slot, lv_has ls 10 [(0, .ref b), (1, .int (nI j)), (2, .int (nI pt)), (3, .int (nI n)), (4, .int (nI mm)), (5, .int (nI sm)), (6, .int (nI t))] → W p l e (headSpec wM_permuted ({ frames := 1, cells := 0, slots := 0, locals := 120 })).room s m ([.ref b, .int (nI j), .int (nI pt)] : List Value).toArray below meth c H locs 0 0 (MQ below (q_W (fun v H => v = some (.long r) ∧ RMo D κ base b sd nT nS mk ms ma mr mt 0 H ∧ FrM b s.heap H)) ([.ref b, .int (nI j), .int (nI pt)] : List Value).toArray s 0 0 (OwnM b s.heap.size)) (F0 m 204 ls []) := by
                  intro fu
                  induction fu with
                  | zero =>
                    intro t S N H locs ht hW hP hD hS hmu
                    exact absurd hmu (Nat.not_lt_zero _)
                  | succ fu ih3 =>
                    intro t S N H locs ht hW hP hD hS hmu ls hl
                    refine lv_iload hx hb dM_permuted_204 (lv_at hl 6 rfl) ?_
                    refine lv_iload hx hb dM_permuted_206 (lv_at hl 4 rfl) ?_
                    refine x_cge (a := t) (b := mm) (tgt := 304) hx hb dM_permuted_208 (by decide) (by omega) (by omega) (fun g2 => ?_) (fun g2 => ?_)
                    · have e6 : t = mm := by omega
                      rw [e6] at hW
                      refine lv_iconst (v := nI 2) hx hb dM_permuted_304 (by decide) ?_
                      refine lv_iload hx hb dM_permuted_305 (lv_at hl 5 rfl) ?_
                      refine x_imul (v := nI (2 * sm)) hx hb dM_permuted_307 (pk_mul _ _) ?_
                      refine lv_iload hx hb dM_permuted_308 (lv_at hl 4 rfl) ?_
                      refine lv_iload_n hx hb dM_permuted_310 rfl (lv_at hl 3 rfl) ?_
                      refine lv_iconst (v := nI 1) hx hb dM_permuted_311 (by decide) ?_
                      refine x_iadd (v := nI (n + 1)) hx hb dM_permuted_312 (nI_add _ _) ?_
                      refine x_imul (v := nI (mm * (n + 1))) hx hb dM_permuted_313 (pk_mul _ _) ?_
                      refine x_isub (v := (nI (2 * sm)) - (nI (mm * (n + 1)))) hx hb dM_permuted_314 (rfl) ?_
                      refine va_mabs hx hb (hml.trans hl.1.symm) hown (hT _ kM118) (hT _ kt_abs) (hT _ kn_math) (hT _ kc_abs') (Nat.le_of_ble_eq_true rfl) (Nat.le_of_ble_eq_true rfl) (Nat.le_of_ble_eq_true rfl) (Nat.le_of_ble_eq_true rfl) dM_permuted_315 ?_
                      refine x_topi (y := nI (adist (2 * sm) (mm * (n + 1)))) (absd (by omega) (by omega)) ?_
                      have loop6 : ∀ (fu : Nat) (k : Nat), (k ≤ 5 * mm + 1) → 5 * mm + 1 - k < fu → ∀ ls : Array Slot, lv_has ls 10 [(0, .ref b), (1, .int (nI j)), (2, .int (nI pt)), (3, .int (nI n)), (4, .int (nI mm)), (6, .int (nI (adist (2 * sm) (mm * (n + 1))))), (7, .long (lN (wfA (cG n mm) (mm * (n + 1)) (adist (2 * sm) (mm * (n + 1))) 0 k))), (9, .int (nI k))] → W p l e (headSpec wM_permuted ({ frames := 1, cells := 0, slots := 0, locals := 120 })).room s m ([.ref b, .int (nI j), .int (nI pt)] : List Value).toArray below meth c H locs 0 0 (MQ below (q_W (fun v H => v = some (.long r) ∧ RMo D κ base b sd nT nS mk ms ma mr mt 0 H ∧ FrM b s.heap H)) ([.ref b, .int (nI j), .int (nI pt)] : List Value).toArray s 0 0 (OwnM b s.heap.size)) (F0 m 326 ls []) := by
                        intro fu
                        induction fu with
                        | zero =>
                          intro k hk hmu
                          exact absurd hmu (Nat.not_lt_zero _)
                        | succ fu ih6 =>
                          intro k hk hmu ls hl
                          refine lv_iload hx hb dM_permuted_326 (lv_at hl 7 rfl) ?_
                          refine lv_iconst (v := nI 5) hx hb dM_permuted_328 (by decide) ?_
                          refine lv_iload hx hb dM_permuted_329 (lv_at hl 4 rfl) ?_
                          refine x_imul (v := nI (5 * mm)) hx hb dM_permuted_331 (pk_mul _ _) ?_
                          refine x_cgt (a := k) (b := 5 * mm) (tgt := 376) hx hb dM_permuted_332 (by decide) (by omega) (by omega) (fun g7 => ?_) (fun g7 => ?_)
                          · have e8 : k = 5 * mm + 1 := by omega
                            refine lv_lload hx hb dM_permuted_376 (lv_at hl 6 rfl) ?_
                            refine lv_iload_n hx hb dM_permuted_378 rfl (lv_at hl 3 rfl) ?_
                            refine lv_i2l (v := lN n) hx hb dM_permuted_379 (nI_l (by omega)) ?_
                            refine lv_iload hx hb dM_permuted_380 (lv_at hl 4 rfl) ?_
                            refine x_callP (v := .long (lN (n ^ mm))) (va_runS (As := [.long (lN n), .int (nI mm)]) (rest := [.long (lN (wfA (cG n mm) (mm * (n + 1)) (adist (2 * sm) (mm * (n + 1))) 0 k))]) ⟨hx, hb, hml, hown, hT⟩ (c_M_power l D κ base H n mm (by omega)) (va_cwS 2 hT (TT_S kM104 ktM_power knM kcM_power) rfl rfl rfl (by decide +kernel) ⟨Nat.le_of_ble_eq_true rfl, Nat.le_of_ble_eq_true rfl⟩) (pcS hE hS hAb) rfl rfl hl.1 rfl (lv_room (Nat.le_of_ble_eq_true rfl)) dM_permuted_382 ⟨Nat.le_of_ble_eq_true rfl, Nat.le_of_ble_eq_true rfl⟩) ?_
                            refine lv_iload_n hx hb dM_permuted_385 rfl (lv_at hl 2 rfl) ?_
                            have hp9 := pow5_lt (n := n) (m := mm) hn5 hm26
                            have hw9 := wfM_le sm mm n
                            have e7 : wfA (cG n mm) (mm * (n + 1)) (adist (2 * sm) (mm * (n + 1))) 0 k = wfM sm mm n := by rw [e8]; rfl
                            refine x_callP (v := .long (lN ((if pt = 0 then wfA (cG n mm) (mm * (n + 1)) (adist (2 * sm) (mm * (n + 1))) 0 k else n ^ mm) / Nat.gcd (n ^ mm) (wfA (cG n mm) (mm * (n + 1)) (adist (2 * sm) (mm * (n + 1))) 0 k)))) (va_runS (As := [.long (lN (wfA (cG n mm) (mm * (n + 1)) (adist (2 * sm) (mm * (n + 1))) 0 k)), .long (lN (n ^ mm)), .int (nI pt)]) (rest := []) ⟨hx, hb, hml, hown, hT⟩ (c_M_reduced l D κ base H (wfA (cG n mm) (mm * (n + 1)) (adist (2 * sm) (mm * (n + 1))) 0 k) (n ^ mm) pt (by rw [e7]; omega) hp9 (Nat.pow_pos (by omega)) hpt) (va_cwS 3 hT (TT_S kM108 ktM_reduced knM kcM_reduced) rfl rfl rfl (by decide +kernel) ⟨Nat.le_of_ble_eq_true rfl, Nat.le_of_ble_eq_true rfl⟩) (pcS hE hS hAb) rfl rfl hl.1 rfl (lv_room (Nat.le_of_ble_eq_true rfl)) dM_permuted_386 ⟨Nat.le_of_ble_eq_true rfl, Nat.le_of_ble_eq_true rfl⟩) ?_
                            have hP := hP.sub (ws' := [(b, .inr (3, [.long sd, .int (nI nT), .int (nI nS), .ref (b + 1), .ref (b + 2), .ref (b + 3), .ref (b + 4), .ref (b + 5), .ref (b + 6), .ref (b + 7), .ref (b + 8), .int (nI 0)])), ((b + 1), .inl (κ 0, 40, .inl (fun j => nI (mk j)))), ((b + 2), .inl (κ 0, 40, .inl (fun j => nI (ms j)))), ((b + 3), .inl (κ 0, 1040, .inl (fun x => nI (ma x)))), ((b + 4), .inl (κ 0, 5200, .inl (fun x => nI (mr x)))), ((b + 5), .inl (κ 0, 416, .inl (fun x => nI (mt x)))), ((b + 6), .inl (κ 0, 120, .inl F)), ((b + 7), .inl (κ 2, 140, .inr (.inl S))), ((b + 8), .inl (κ 2, 140, .inr (.inl N)))]) [0, 1, 2, 3, 4, 5, 6, 7, 8] rfl
                            have hD := hD.sub (ws' := [(b, .inr (3, [.long sd, .int (nI nT), .int (nI nS), .ref (b + 1), .ref (b + 2), .ref (b + 3), .ref (b + 4), .ref (b + 5), .ref (b + 6), .ref (b + 7), .ref (b + 8), .int (nI 0)])), ((b + 1), .inl (κ 0, 40, .inl (fun j => nI (mk j)))), ((b + 2), .inl (κ 0, 40, .inl (fun j => nI (ms j)))), ((b + 3), .inl (κ 0, 1040, .inl (fun x => nI (ma x)))), ((b + 4), .inl (κ 0, 5200, .inl (fun x => nI (mr x)))), ((b + 5), .inl (κ 0, 416, .inl (fun x => nI (mt x)))), ((b + 6), .inl (κ 0, 120, .inl F)), ((b + 7), .inl (κ 2, 140, .inr (.inl S))), ((b + 8), .inl (κ 2, 140, .inr (.inl N)))]) [0, 1, 2, 3, 4, 5, 6, 7, 8] (by decide) rfl
                            exact W.lret (v := lN ((if pt = 0 then wfA (cG n mm) (mm * (n + 1)) (adist (2 * sm) (mm * (n + 1))) 0 k else n ^ mm) / Nat.gcd (n ^ mm) (wfA (cG n mm) (mm * (n + 1)) (adist (2 * sm) (mm * (n + 1))) 0 k))) hx hb hr (fun t9 ht9 hW9 => ⟨some (.long (lN ((if pt = 0 then wfA (cG n mm) (mm * (n + 1)) (adist (2 * sm) (mm * (n + 1))) 0 k else n ^ mm) / Nat.gcd (n ^ mm) (wfA (cG n mm) (mm * (n + 1)) (adist (2 * sm) (mm * (n + 1))) 0 k)))), rfl, by rw [ht9]; exact ⟨by rw [p4 j pt hj rfl g1 hpt rfl (by rw [← hmm]; exact g9), ← hmm, ← hsm, ← hn, e7], ⟨⟨_, _, _, hP⟩, ⟨⟨hnT, hnS, hba, Nat.le_trans hbh hS.1, by omega⟩, hmk, hma, hmr, hmt⟩⟩, ⟨hS.1, fun q h1 h2 => hS.2.1 q h1 (fun z => h2 (hAO q z))⟩⟩⟩) (fun q h => hAO _ (hS.2.2 q h)) dM_permuted_389
                          · refine lv_lload hx hb dM_permuted_335 (lv_at hl 6 rfl) ?_
                            refine lv_iconst (v := nI 2) hx hb dM_permuted_337 (by decide) ?_
                            refine lv_iload hx hb dM_permuted_338 (lv_at hl 7 rfl) ?_
                            refine x_imul (v := nI (2 * k)) hx hb dM_permuted_340 (pk_mul _ _) ?_
                            refine lv_iload hx hb dM_permuted_341 (lv_at hl 4 rfl) ?_
                            refine lv_iload_n hx hb dM_permuted_343 rfl (lv_at hl 3 rfl) ?_
                            refine lv_iconst (v := nI 1) hx hb dM_permuted_344 (by decide) ?_
                            refine x_iadd (v := nI (n + 1)) hx hb dM_permuted_345 (nI_add _ _) ?_
                            refine x_imul (v := nI (mm * (n + 1))) hx hb dM_permuted_346 (pk_mul _ _) ?_
                            refine x_isub (v := (nI (2 * k)) - (nI (mm * (n + 1)))) hx hb dM_permuted_347 (rfl) ?_
                            refine va_mabs hx hb (hml.trans hl.1.symm) hown (hT _ kM118) (hT _ kt_abs) (hT _ kn_math) (hT _ kc_abs') (Nat.le_of_ble_eq_true rfl) (Nat.le_of_ble_eq_true rfl) (Nat.le_of_ble_eq_true rfl) (Nat.le_of_ble_eq_true rfl) dM_permuted_348 ?_
                            refine x_topi (y := nI (adist (2 * k) (mm * (n + 1)))) (absd (by omega) (by omega)) ?_
                            have hd9 : adist (2 * k) (mm * (n + 1)) ≤ 300 := by unfold adist; split <;> omega
                            refine lv_iload hx hb dM_permuted_351 (lv_at hl 5 rfl) ?_
                            refine x_clt (a := adist (2 * k) (mm * (n + 1))) (b := adist (2 * sm) (mm * (n + 1))) (tgt := 366) hx hb dM_permuted_353 (by decide) (by omega) (by omega) (fun g8 => ?_) (fun g8 => ?_)
                            · refine lv_lconst (v := lN 0) hx hb dM_permuted_366 (by decide) ?_
                              refine x_ladd (v := lN ((wfA (cG n mm) (mm * (n + 1)) (adist (2 * sm) (mm * (n + 1))) 0 k) + 0)) hx hb dM_permuted_367 (lN_add _ _) ?_
                              refine x_topl (y := lN (wfA (cG n mm) (mm * (n + 1)) (adist (2 * sm) (mm * (n + 1))) 0 (k + 1))) (by rw [wfA, Nat.zero_add, if_neg (by omega)]) ?_
                              refine lv_lstore (lv' := [(7, .long (lN (wfA (cG n mm) (mm * (n + 1)) (adist (2 * sm) (mm * (n + 1))) 0 (k + 1)))), (0, .ref b), (1, .int (nI j)), (2, .int (nI pt)), (3, .int (nI n)), (4, .int (nI mm)), (6, .int (nI (adist (2 * sm) (mm * (n + 1))))), (9, .int (nI k))]) hx hb dM_permuted_368 hl (by decide) rfl (fun ls hl => ?_)
                              refine lv_iinc (v := nI (k + 1)) (lv' := [(9, .int (nI (k + 1))), (7, .long (lN (wfA (cG n mm) (mm * (n + 1)) (adist (2 * sm) (mm * (n + 1))) 0 (k + 1)))), (0, .ref b), (1, .int (nI j)), (2, .int (nI pt)), (3, .int (nI n)), (4, .int (nI mm)), (6, .int (nI (adist (2 * sm) (mm * (n + 1)))))]) hx hb dM_permuted_370 hl (k := 7) rfl (nI_add _ _) (by decide) rfl (fun ls hl => ?_)
                              refine lv_goto (tgt := 326) hx hb dM_permuted_373 (by decide) ?_
                              exact ih6 (k + 1) (by omega) (by omega) ls (lv_sub hl [2, 3, 4, 5, 6, 7, 1, 0] rfl)
                            · refine lv_aload_n hx hb dM_permuted_356 rfl (lv_at hl 0 rfl) ?_
                              refine va_get (D := D) (ci := 3) (v := .ref (b + 7)) (C := RM) (T := FM) (N := 12) hx hb hT inM hown hK hP 0 rfl rfl 9 (by decide) (hT _ kM28) (fun _ h9 => h9) rfl dM_permuted_357 ?_
                              refine lv_iload hx hb dM_permuted_360 (lv_at hl 7 rfl) ?_
                              refine x_lald hx hb hK hP 7 2 (j := k) (v := S k) rfl rfl (by omega) (by decide) (rfl) dM_permuted_362 ?_
                              refine lv_goto (tgt := 367) hx hb dM_permuted_363 (by decide) ?_
                              refine x_ladd (v := (lN (wfA (cG n mm) (mm * (n + 1)) (adist (2 * sm) (mm * (n + 1))) 0 k)) + (S k)) hx hb dM_permuted_367 (rfl) ?_
                              refine x_topl (y := lN (wfA (cG n mm) (mm * (n + 1)) (adist (2 * sm) (mm * (n + 1))) 0 (k + 1))) (by rw [hW k (by omega), lN_add, wfA, Nat.zero_add, if_pos (by omega)]) ?_
                              refine lv_lstore (lv' := [(7, .long (lN (wfA (cG n mm) (mm * (n + 1)) (adist (2 * sm) (mm * (n + 1))) 0 (k + 1)))), (0, .ref b), (1, .int (nI j)), (2, .int (nI pt)), (3, .int (nI n)), (4, .int (nI mm)), (6, .int (nI (adist (2 * sm) (mm * (n + 1))))), (9, .int (nI k))]) hx hb dM_permuted_368 hl (by decide) rfl (fun ls hl => ?_)
                              refine lv_iinc (v := nI (k + 1)) (lv' := [(9, .int (nI (k + 1))), (7, .long (lN (wfA (cG n mm) (mm * (n + 1)) (adist (2 * sm) (mm * (n + 1))) 0 (k + 1)))), (0, .ref b), (1, .int (nI j)), (2, .int (nI pt)), (3, .int (nI n)), (4, .int (nI mm)), (6, .int (nI (adist (2 * sm) (mm * (n + 1)))))]) hx hb dM_permuted_370 hl (k := 7) rfl (nI_add _ _) (by decide) rfl (fun ls hl => ?_)
                              refine lv_goto (tgt := 326) hx hb dM_permuted_373 (by decide) ?_
                              exact ih6 (k + 1) (by omega) (by omega) ls (lv_sub hl [2, 3, 4, 5, 6, 7, 1, 0] rfl)
                      refine lv_istore (lv' := [(6, .int (nI (adist (2 * sm) (mm * (n + 1))))), (0, .ref b), (1, .int (nI j)), (2, .int (nI pt)), (3, .int (nI n)), (4, .int (nI mm)), (5, .int (nI sm))]) hx hb dM_permuted_318 hl (by decide) rfl (fun ls hl => ?_)
                      refine lv_lconst (v := lN 0) hx hb dM_permuted_320 (by decide) ?_
                      refine lv_lstore (lv' := [(7, .long (lN 0)), (6, .int (nI (adist (2 * sm) (mm * (n + 1))))), (0, .ref b), (1, .int (nI j)), (2, .int (nI pt)), (3, .int (nI n)), (4, .int (nI mm)), (5, .int (nI sm))]) hx hb dM_permuted_321 hl (by decide) rfl (fun ls hl => ?_)
                      refine lv_iconst (v := nI 0) hx hb dM_permuted_323 (by decide) ?_
                      refine lv_istore (lv' := [(9, .int (nI 0)), (7, .long (lN 0)), (6, .int (nI (adist (2 * sm) (mm * (n + 1))))), (0, .ref b), (1, .int (nI j)), (2, .int (nI pt)), (3, .int (nI n)), (4, .int (nI mm)), (5, .int (nI sm))]) hx hb dM_permuted_324 hl (by decide) rfl (fun ls hl => ?_)
                      exact loop6 (5 * mm + 2) 0 (by omega) (by omega) ls (lv_sub hl [3, 4, 5, 6, 7, 2, 1, 0] rfl)
                    · have loop4 : ∀ (fu : Nat) (z : Nat) (N : Nat → Int64) (H : Heap) (locs : List Loc), (z ≤ 5 * mm + 1) → (∀ w, w < z → N w = lN (cG n (t + 1) w)) → va_P D vwCl [(b, .inr (3, [.long sd, .int (nI nT), .int (nI nS), .ref (b + 1), .ref (b + 2), .ref (b + 3), .ref (b + 4), .ref (b + 5), .ref (b + 6), .ref (b + 7), .ref (b + 8), .int (nI 0)])), ((b + 1), .inl (κ 0, 40, .inl (fun j => nI (mk j)))), ((b + 2), .inl (κ 0, 40, .inl (fun j => nI (ms j)))), ((b + 3), .inl (κ 0, 1040, .inl (fun x => nI (ma x)))), ((b + 4), .inl (κ 0, 5200, .inl (fun x => nI (mr x)))), ((b + 5), .inl (κ 0, 416, .inl (fun x => nI (mt x)))), ((b + 6), .inl (κ 0, 120, .inl F)), ((b + 7), .inl (κ 2, 140, .inr (.inl S))), ((b + 8), .inl (κ 2, 140, .inr (.inl N)))] H → va_D A [(b, .inr (3, [.long sd, .int (nI nT), .int (nI nS), .ref (b + 1), .ref (b + 2), .ref (b + 3), .ref (b + 4), .ref (b + 5), .ref (b + 6), .ref (b + 7), .ref (b + 8), .int (nI 0)])), ((b + 1), .inl (κ 0, 40, .inl (fun j => nI (mk j)))), ((b + 2), .inl (κ 0, 40, .inl (fun j => nI (ms j)))), ((b + 3), .inl (κ 0, 1040, .inl (fun x => nI (ma x)))), ((b + 4), .inl (κ 0, 5200, .inl (fun x => nI (mr x)))), ((b + 5), .inl (κ 0, 416, .inl (fun x => nI (mt x)))), ((b + 6), .inl (κ 0, 120, .inl F)), ((b + 7), .inl (κ 2, 140, .inr (.inl S))), ((b + 8), .inl (κ 2, 140, .inr (.inl N)))] → va_S A s.heap H locs → 5 * mm + 1 - z < fu → ∀ ls : Array Slot, lv_has ls 10 [(0, .ref b), (1, .int (nI j)), (2, .int (nI pt)), (3, .int (nI n)), (4, .int (nI mm)), (5, .int (nI sm)), (6, .int (nI t)), (7, .int (nI z))] → W p l e (headSpec wM_permuted ({ frames := 1, cells := 0, slots := 0, locals := 120 })).room s m ([.ref b, .int (nI j), .int (nI pt)] : List Value).toArray below meth c H locs 0 0 (MQ below (q_W (fun v H => v = some (.long r) ∧ RMo D κ base b sd nT nS mk ms ma mr mt 0 H ∧ FrM b s.heap H)) ([.ref b, .int (nI j), .int (nI pt)] : List Value).toArray s 0 0 (OwnM b s.heap.size)) (F0 m 214 ls []) := by
                        intro fu
                        induction fu with
                        | zero =>
                          intro z N H locs hz hN hP hD hS hmu
                          exact absurd hmu (Nat.not_lt_zero _)
                        | succ fu ih4 =>
                          intro z N H locs hz hN hP hD hS hmu ls hl
                          refine lv_iload hx hb dM_permuted_214 (lv_at hl 7 rfl) ?_
                          refine lv_iconst (v := nI 5) hx hb dM_permuted_216 (by decide) ?_
                          refine lv_iload hx hb dM_permuted_217 (lv_at hl 4 rfl) ?_
                          refine x_imul (v := nI (5 * mm)) hx hb dM_permuted_219 (pk_mul _ _) ?_
                          refine x_cgt (a := z) (b := 5 * mm) (tgt := 279) hx hb dM_permuted_220 (by decide) (by omega) (by omega) (fun g3 => ?_) (fun g3 => ?_)
                          · refine lv_aload_n hx hb dM_permuted_279 rfl (lv_at hl 0 rfl) ?_
                            refine va_get (D := D) (ci := 3) (v := .ref (b + 8)) (C := RM) (T := FM) (N := 12) hx hb hT inM hown hK hP 0 rfl rfl 10 (by decide) (hT _ kM32) (fun _ h9 => h9) rfl dM_permuted_280 ?_
                            refine lv_iconst (v := nI 0) hx hb dM_permuted_283 (by decide) ?_
                            refine lv_aload_n hx hb dM_permuted_284 rfl (lv_at hl 0 rfl) ?_
                            refine va_get (D := D) (ci := 3) (v := .ref (b + 7)) (C := RM) (T := FM) (N := 12) hx hb hT inM hown hK hP 0 rfl rfl 9 (by decide) (hT _ kM28) (fun _ h9 => h9) rfl dM_permuted_285 ?_
                            refine lv_iconst (v := nI 0) hx hb dM_permuted_288 (by decide) ?_
                            refine lv_iconst (v := nI 5) hx hb dM_permuted_289 (by decide) ?_
                            refine lv_iload hx hb dM_permuted_290 (lv_at hl 4 rfl) ?_
                            refine x_imul (v := nI (5 * mm)) hx hb dM_permuted_292 (pk_mul _ _) ?_
                            refine lv_iconst (v := nI 1) hx hb dM_permuted_293 (by decide) ?_
                            refine x_iadd (v := nI ((5 * mm) + 1)) hx hb dM_permuted_294 (nI_add _ _) ?_
                            refine x_cpyl (k := (5 * mm) + 1) hx hb (hml.trans hl.1.symm) hown (hT _ kM112) (hT _ kv_cpy) (hT _ kt_cpy) (hT _ kn_sys) hK hP hD hS 8 7 2 rfl rfl rfl (by omega) (by omega) (by omega) (Nat.le_of_ble_eq_true rfl) (Nat.le_of_ble_eq_true rfl) dM_permuted_295 (fun H locs hP hD hS => ?_)
                            have hP : va_P D vwCl [(b, .inr (3, [.long sd, .int (nI nT), .int (nI nS), .ref (b + 1), .ref (b + 2), .ref (b + 3), .ref (b + 4), .ref (b + 5), .ref (b + 6), .ref (b + 7), .ref (b + 8), .int (nI 0)])), ((b + 1), .inl (κ 0, 40, .inl (fun j => nI (mk j)))), ((b + 2), .inl (κ 0, 40, .inl (fun j => nI (ms j)))), ((b + 3), .inl (κ 0, 1040, .inl (fun x => nI (ma x)))), ((b + 4), .inl (κ 0, 5200, .inl (fun x => nI (mr x)))), ((b + 5), .inl (κ 0, 416, .inl (fun x => nI (mt x)))), ((b + 6), .inl (κ 0, 120, .inl F)), ((b + 7), .inl (κ 2, 140, .inr (.inl (va_cpy N S 0 0 ((5 * mm) + 1))))), ((b + 8), .inl (κ 2, 140, .inr (.inl N)))] H := hP
                            have hD : va_D A [(b, .inr (3, [.long sd, .int (nI nT), .int (nI nS), .ref (b + 1), .ref (b + 2), .ref (b + 3), .ref (b + 4), .ref (b + 5), .ref (b + 6), .ref (b + 7), .ref (b + 8), .int (nI 0)])), ((b + 1), .inl (κ 0, 40, .inl (fun j => nI (mk j)))), ((b + 2), .inl (κ 0, 40, .inl (fun j => nI (ms j)))), ((b + 3), .inl (κ 0, 1040, .inl (fun x => nI (ma x)))), ((b + 4), .inl (κ 0, 5200, .inl (fun x => nI (mr x)))), ((b + 5), .inl (κ 0, 416, .inl (fun x => nI (mt x)))), ((b + 6), .inl (κ 0, 120, .inl F)), ((b + 7), .inl (κ 2, 140, .inr (.inl (va_cpy N S 0 0 ((5 * mm) + 1))))), ((b + 8), .inl (κ 2, 140, .inr (.inl N)))] := hD
                            refine lv_iinc (v := nI (t + 1)) (lv' := [(6, .int (nI (t + 1))), (0, .ref b), (1, .int (nI j)), (2, .int (nI pt)), (3, .int (nI n)), (4, .int (nI mm)), (5, .int (nI sm)), (7, .int (nI z))]) hx hb dM_permuted_298 hl (k := 6) rfl (nI_add _ _) (by decide) rfl (fun ls hl => ?_)
                            refine lv_goto (tgt := 204) hx hb dM_permuted_301 (by decide) ?_
                            exact ih3 (t + 1) _ N _ _ (by omega) (fun w hw => by rw [cpy_in (by omega)]; exact hN w (by omega)) hP hD hS (by omega) ls (lv_sub hl [1, 2, 3, 4, 5, 6, 0] rfl)
                          · have loop5 : ∀ (fu : Nat) (rr : Nat) (N : Nat → Int64) (H : Heap) (locs : List Loc), (rr ≤ n) → (rr ≤ z) → (∀ w, w < z → N w = lN (cG n (t + 1) w)) → (N z = lN (sgS (cG n t) z rr)) → va_P D vwCl [(b, .inr (3, [.long sd, .int (nI nT), .int (nI nS), .ref (b + 1), .ref (b + 2), .ref (b + 3), .ref (b + 4), .ref (b + 5), .ref (b + 6), .ref (b + 7), .ref (b + 8), .int (nI 0)])), ((b + 1), .inl (κ 0, 40, .inl (fun j => nI (mk j)))), ((b + 2), .inl (κ 0, 40, .inl (fun j => nI (ms j)))), ((b + 3), .inl (κ 0, 1040, .inl (fun x => nI (ma x)))), ((b + 4), .inl (κ 0, 5200, .inl (fun x => nI (mr x)))), ((b + 5), .inl (κ 0, 416, .inl (fun x => nI (mt x)))), ((b + 6), .inl (κ 0, 120, .inl F)), ((b + 7), .inl (κ 2, 140, .inr (.inl S))), ((b + 8), .inl (κ 2, 140, .inr (.inl N)))] H → va_D A [(b, .inr (3, [.long sd, .int (nI nT), .int (nI nS), .ref (b + 1), .ref (b + 2), .ref (b + 3), .ref (b + 4), .ref (b + 5), .ref (b + 6), .ref (b + 7), .ref (b + 8), .int (nI 0)])), ((b + 1), .inl (κ 0, 40, .inl (fun j => nI (mk j)))), ((b + 2), .inl (κ 0, 40, .inl (fun j => nI (ms j)))), ((b + 3), .inl (κ 0, 1040, .inl (fun x => nI (ma x)))), ((b + 4), .inl (κ 0, 5200, .inl (fun x => nI (mr x)))), ((b + 5), .inl (κ 0, 416, .inl (fun x => nI (mt x)))), ((b + 6), .inl (κ 0, 120, .inl F)), ((b + 7), .inl (κ 2, 140, .inr (.inl S))), ((b + 8), .inl (κ 2, 140, .inr (.inl N)))] → va_S A s.heap H locs → n - rr < fu → ∀ ls : Array Slot, lv_has ls 10 [(0, .ref b), (1, .int (nI j)), (2, .int (nI pt)), (3, .int (nI n)), (4, .int (nI mm)), (5, .int (nI sm)), (6, .int (nI t)), (7, .int (nI z)), (8, .int (nI (rr + 1)))] → W p l e (headSpec wM_permuted ({ frames := 1, cells := 0, slots := 0, locals := 120 })).room s m ([.ref b, .int (nI j), .int (nI pt)] : List Value).toArray below meth c H locs 0 0 (MQ below (q_W (fun v H => v = some (.long r) ∧ RMo D κ base b sd nT nS mk ms ma mr mt 0 H ∧ FrM b s.heap H)) ([.ref b, .int (nI j), .int (nI pt)] : List Value).toArray s 0 0 (OwnM b s.heap.size)) (F0 m 234 ls []) := by
                              intro fu
                              induction fu with
                              | zero =>
                                intro rr N H locs hr1 hr2 hN hNz hP hD hS hmu
                                exact absurd hmu (Nat.not_lt_zero _)
                              | succ fu ih5 =>
                                intro rr N H locs hr1 hr2 hN hNz hP hD hS hmu ls hl
                                refine lv_iload hx hb dM_permuted_234 (lv_at hl 8 rfl) ?_
                                refine lv_iload_n hx hb dM_permuted_236 rfl (lv_at hl 3 rfl) ?_
                                refine x_cgt (a := rr + 1) (b := n) (tgt := 273) hx hb dM_permuted_237 (by decide) (by omega) (by omega) (fun g4 => ?_) (fun g4 => ?_)
                                · refine lv_iinc (v := nI (z + 1)) (lv' := [(7, .int (nI (z + 1))), (0, .ref b), (1, .int (nI j)), (2, .int (nI pt)), (3, .int (nI n)), (4, .int (nI mm)), (5, .int (nI sm)), (6, .int (nI t)), (8, .int (nI (rr + 1)))]) hx hb dM_permuted_273 hl (k := 7) rfl (nI_add _ _) (by decide) rfl (fun ls hl => ?_)
                                  refine lv_goto (tgt := 214) hx hb dM_permuted_276 (by decide) ?_
                                  exact ih4 (z + 1) N _ _ (by omega) (perm_nx (by omega) hN hNz) hP hD hS (by omega) ls (lv_sub hl [1, 2, 3, 4, 5, 6, 7, 0] rfl)
                                · refine lv_iload hx hb dM_permuted_240 (lv_at hl 8 rfl) ?_
                                  refine lv_iload hx hb dM_permuted_242 (lv_at hl 7 rfl) ?_
                                  refine x_cgt (a := rr + 1) (b := z) (tgt := 273) hx hb dM_permuted_244 (by decide) (by omega) (by omega) (fun g5 => ?_) (fun g5 => ?_)
                                  · refine lv_iinc (v := nI (z + 1)) (lv' := [(7, .int (nI (z + 1))), (0, .ref b), (1, .int (nI j)), (2, .int (nI pt)), (3, .int (nI n)), (4, .int (nI mm)), (5, .int (nI sm)), (6, .int (nI t)), (8, .int (nI (rr + 1)))]) hx hb dM_permuted_273 hl (k := 7) rfl (nI_add _ _) (by decide) rfl (fun ls hl => ?_)
                                    refine lv_goto (tgt := 214) hx hb dM_permuted_276 (by decide) ?_
                                    exact ih4 (z + 1) N _ _ (by omega) (perm_nx (by omega) hN hNz) hP hD hS (by omega) ls (lv_sub hl [1, 2, 3, 4, 5, 6, 7, 0] rfl)
                                  · refine lv_aload_n hx hb dM_permuted_247 rfl (lv_at hl 0 rfl) ?_
                                    refine va_get (D := D) (ci := 3) (v := .ref (b + 8)) (C := RM) (T := FM) (N := 12) hx hb hT inM hown hK hP 0 rfl rfl 10 (by decide) (hT _ kM32) (fun _ h9 => h9) rfl dM_permuted_248 ?_
                                    refine lv_iload hx hb dM_permuted_251 (lv_at hl 7 rfl) ?_
                                    refine lv_dup2_11 hx hb dM_permuted_253 rfl rfl ?_
                                    refine x_lald hx hb hK hP 8 2 (j := z) (v := N z) rfl rfl (by omega) (by decide) (rfl) dM_permuted_254 ?_
                                    refine lv_aload_n hx hb dM_permuted_255 rfl (lv_at hl 0 rfl) ?_
                                    refine va_get (D := D) (ci := 3) (v := .ref (b + 7)) (C := RM) (T := FM) (N := 12) hx hb hT inM hown hK hP 0 rfl rfl 9 (by decide) (hT _ kM28) (fun _ h9 => h9) rfl dM_permuted_256 ?_
                                    refine lv_iload hx hb dM_permuted_259 (lv_at hl 7 rfl) ?_
                                    refine lv_iload hx hb dM_permuted_261 (lv_at hl 8 rfl) ?_
                                    refine x_isub (v := nI (z - (rr + 1))) hx hb dM_permuted_263 (pk_sub (by omega)) ?_
                                    refine x_lald hx hb hK hP 7 2 (j := z - (rr + 1)) (v := S (z - (rr + 1))) rfl rfl (by omega) (by decide) (rfl) dM_permuted_264 ?_
                                    refine x_ladd (v := (N z) + (S (z - (rr + 1)))) hx hb dM_permuted_265 (rfl) ?_
                                    refine x_topl (y := lN (sgS (cG n t) z (rr + 1))) (by rw [hNz, hW _ (by omega), lN_add]; rfl) ?_
                                    refine x_last hx hb hK hP hD hS 8 2 (j := z) rfl rfl (by omega) (by decide) dM_permuted_266 (fun H locs hP hD hS => ?_)
                                    have hP : va_P D vwCl [(b, .inr (3, [.long sd, .int (nI nT), .int (nI nS), .ref (b + 1), .ref (b + 2), .ref (b + 3), .ref (b + 4), .ref (b + 5), .ref (b + 6), .ref (b + 7), .ref (b + 8), .int (nI 0)])), ((b + 1), .inl (κ 0, 40, .inl (fun j => nI (mk j)))), ((b + 2), .inl (κ 0, 40, .inl (fun j => nI (ms j)))), ((b + 3), .inl (κ 0, 1040, .inl (fun x => nI (ma x)))), ((b + 4), .inl (κ 0, 5200, .inl (fun x => nI (mr x)))), ((b + 5), .inl (κ 0, 416, .inl (fun x => nI (mt x)))), ((b + 6), .inl (κ 0, 120, .inl F)), ((b + 7), .inl (κ 2, 140, .inr (.inl S))), ((b + 8), .inl (κ 2, 140, .inr (.inl (vp_updL N z (lN (sgS (cG n t) z (rr + 1)))))))] H := hP
                                    have hD : va_D A [(b, .inr (3, [.long sd, .int (nI nT), .int (nI nS), .ref (b + 1), .ref (b + 2), .ref (b + 3), .ref (b + 4), .ref (b + 5), .ref (b + 6), .ref (b + 7), .ref (b + 8), .int (nI 0)])), ((b + 1), .inl (κ 0, 40, .inl (fun j => nI (mk j)))), ((b + 2), .inl (κ 0, 40, .inl (fun j => nI (ms j)))), ((b + 3), .inl (κ 0, 1040, .inl (fun x => nI (ma x)))), ((b + 4), .inl (κ 0, 5200, .inl (fun x => nI (mr x)))), ((b + 5), .inl (κ 0, 416, .inl (fun x => nI (mt x)))), ((b + 6), .inl (κ 0, 120, .inl F)), ((b + 7), .inl (κ 2, 140, .inr (.inl S))), ((b + 8), .inl (κ 2, 140, .inr (.inl (vp_updL N z (lN (sgS (cG n t) z (rr + 1)))))))] := hD
                                    refine lv_iinc (v := nI (rr + 1 + 1)) (lv' := [(8, .int (nI (rr + 1 + 1))), (0, .ref b), (1, .int (nI j)), (2, .int (nI pt)), (3, .int (nI n)), (4, .int (nI mm)), (5, .int (nI sm)), (6, .int (nI t)), (7, .int (nI z))]) hx hb dM_permuted_267 hl (k := 8) rfl (nI_add _ _) (by decide) rfl (fun ls hl => ?_)
                                    refine lv_goto (tgt := 234) hx hb dM_permuted_270 (by decide) ?_
                                    exact ih5 (rr + 1) _ _ _ (by omega) (by omega) (fun w hw => by rw [updL_ne (by omega)]; exact hN w hw) updL_eq hP hD hS (by omega) ls (lv_sub hl [1, 2, 3, 4, 5, 6, 7, 8, 0] rfl)
                            refine lv_aload_n hx hb dM_permuted_223 rfl (lv_at hl 0 rfl) ?_
                            refine va_get (D := D) (ci := 3) (v := .ref (b + 8)) (C := RM) (T := FM) (N := 12) hx hb hT inM hown hK hP 0 rfl rfl 10 (by decide) (hT _ kM32) (fun _ h9 => h9) rfl dM_permuted_224 ?_
                            refine lv_iload hx hb dM_permuted_227 (lv_at hl 7 rfl) ?_
                            refine lv_lconst (v := lN 0) hx hb dM_permuted_229 (by decide) ?_
                            refine x_last hx hb hK hP hD hS 8 2 (j := z) rfl rfl (by omega) (by decide) dM_permuted_230 (fun H locs hP hD hS => ?_)
                            have hP : va_P D vwCl [(b, .inr (3, [.long sd, .int (nI nT), .int (nI nS), .ref (b + 1), .ref (b + 2), .ref (b + 3), .ref (b + 4), .ref (b + 5), .ref (b + 6), .ref (b + 7), .ref (b + 8), .int (nI 0)])), ((b + 1), .inl (κ 0, 40, .inl (fun j => nI (mk j)))), ((b + 2), .inl (κ 0, 40, .inl (fun j => nI (ms j)))), ((b + 3), .inl (κ 0, 1040, .inl (fun x => nI (ma x)))), ((b + 4), .inl (κ 0, 5200, .inl (fun x => nI (mr x)))), ((b + 5), .inl (κ 0, 416, .inl (fun x => nI (mt x)))), ((b + 6), .inl (κ 0, 120, .inl F)), ((b + 7), .inl (κ 2, 140, .inr (.inl S))), ((b + 8), .inl (κ 2, 140, .inr (.inl (vp_updL N z (lN 0)))))] H := hP
                            have hD : va_D A [(b, .inr (3, [.long sd, .int (nI nT), .int (nI nS), .ref (b + 1), .ref (b + 2), .ref (b + 3), .ref (b + 4), .ref (b + 5), .ref (b + 6), .ref (b + 7), .ref (b + 8), .int (nI 0)])), ((b + 1), .inl (κ 0, 40, .inl (fun j => nI (mk j)))), ((b + 2), .inl (κ 0, 40, .inl (fun j => nI (ms j)))), ((b + 3), .inl (κ 0, 1040, .inl (fun x => nI (ma x)))), ((b + 4), .inl (κ 0, 5200, .inl (fun x => nI (mr x)))), ((b + 5), .inl (κ 0, 416, .inl (fun x => nI (mt x)))), ((b + 6), .inl (κ 0, 120, .inl F)), ((b + 7), .inl (κ 2, 140, .inr (.inl S))), ((b + 8), .inl (κ 2, 140, .inr (.inl (vp_updL N z (lN 0)))))] := hD
                            refine lv_iconst (v := nI 1) hx hb dM_permuted_231 (by decide) ?_
                            refine lv_istore (lv' := [(8, .int (nI 1)), (0, .ref b), (1, .int (nI j)), (2, .int (nI pt)), (3, .int (nI n)), (4, .int (nI mm)), (5, .int (nI sm)), (6, .int (nI t)), (7, .int (nI z))]) hx hb dM_permuted_232 hl (by decide) rfl (fun ls hl => ?_)
                            exact loop5 (n + 1) 0 _ _ _ (by omega) (by omega) (fun w hw => by rw [updL_ne (by omega)]; exact hN w hw) updL_eq hP hD hS (by omega) ls (lv_sub hl [1, 2, 3, 4, 5, 6, 7, 8, 0] rfl)
                      refine lv_iconst (v := nI 0) hx hb dM_permuted_211 (by decide) ?_
                      refine lv_istore (lv' := [(7, .int (nI 0)), (0, .ref b), (1, .int (nI j)), (2, .int (nI pt)), (3, .int (nI n)), (4, .int (nI mm)), (5, .int (nI sm)), (6, .int (nI t))]) hx hb dM_permuted_212 hl (by decide) rfl (fun ls hl => ?_)
                      exact loop4 (5 * mm + 2) 0 N _ _ (by omega) (fun w hw => absurd hw (Nat.not_lt_zero _)) hP hD hS (by omega) ls (lv_sub hl [1, 2, 3, 4, 5, 6, 7, 0] rfl)
                have loop2 : ∀ (fu : Nat) (k : Nat) (S : Nat → Int64) (H : Heap) (locs : List Loc), (k ≤ 5 * mm + 1) → (∀ w, w < k → S w = lN (cG n 0 w)) → va_P D vwCl [(b, .inr (3, [.long sd, .int (nI nT), .int (nI nS), .ref (b + 1), .ref (b + 2), .ref (b + 3), .ref (b + 4), .ref (b + 5), .ref (b + 6), .ref (b + 7), .ref (b + 8), .int (nI 0)])), ((b + 1), .inl (κ 0, 40, .inl (fun j => nI (mk j)))), ((b + 2), .inl (κ 0, 40, .inl (fun j => nI (ms j)))), ((b + 3), .inl (κ 0, 1040, .inl (fun x => nI (ma x)))), ((b + 4), .inl (κ 0, 5200, .inl (fun x => nI (mr x)))), ((b + 5), .inl (κ 0, 416, .inl (fun x => nI (mt x)))), ((b + 6), .inl (κ 0, 120, .inl F)), ((b + 7), .inl (κ 2, 140, .inr (.inl S))), ((b + 8), .inl (κ 2, 140, .inr (.inl nx)))] H → va_D A [(b, .inr (3, [.long sd, .int (nI nT), .int (nI nS), .ref (b + 1), .ref (b + 2), .ref (b + 3), .ref (b + 4), .ref (b + 5), .ref (b + 6), .ref (b + 7), .ref (b + 8), .int (nI 0)])), ((b + 1), .inl (κ 0, 40, .inl (fun j => nI (mk j)))), ((b + 2), .inl (κ 0, 40, .inl (fun j => nI (ms j)))), ((b + 3), .inl (κ 0, 1040, .inl (fun x => nI (ma x)))), ((b + 4), .inl (κ 0, 5200, .inl (fun x => nI (mr x)))), ((b + 5), .inl (κ 0, 416, .inl (fun x => nI (mt x)))), ((b + 6), .inl (κ 0, 120, .inl F)), ((b + 7), .inl (κ 2, 140, .inr (.inl S))), ((b + 8), .inl (κ 2, 140, .inr (.inl nx)))] → va_S A s.heap H locs → 5 * mm + 1 - k < fu → ∀ ls : Array Slot, lv_has ls 10 [(0, .ref b), (1, .int (nI j)), (2, .int (nI pt)), (3, .int (nI n)), (4, .int (nI mm)), (5, .int (nI sm)), (6, .int (nI k))] → W p l e (headSpec wM_permuted ({ frames := 1, cells := 0, slots := 0, locals := 120 })).room s m ([.ref b, .int (nI j), .int (nI pt)] : List Value).toArray below meth c H locs 0 0 (MQ below (q_W (fun v H => v = some (.long r) ∧ RMo D κ base b sd nT nS mk ms ma mr mt 0 H ∧ FrM b s.heap H)) ([.ref b, .int (nI j), .int (nI pt)] : List Value).toArray s 0 0 (OwnM b s.heap.size)) (F0 m 169 ls []) := by
                  intro fu
                  induction fu with
                  | zero =>
                    intro k S H locs hk hW hP hD hS hmu
                    exact absurd hmu (Nat.not_lt_zero _)
                  | succ fu ih2 =>
                    intro k S H locs hk hW hP hD hS hmu ls hl
                    refine lv_iload hx hb dM_permuted_169 (lv_at hl 6 rfl) ?_
                    refine lv_iconst (v := nI 5) hx hb dM_permuted_171 (by decide) ?_
                    refine lv_iload hx hb dM_permuted_172 (lv_at hl 4 rfl) ?_
                    refine x_imul (v := nI (5 * mm)) hx hb dM_permuted_174 (pk_mul _ _) ?_
                    refine x_cgt (a := k) (b := 5 * mm) (tgt := 201) hx hb dM_permuted_175 (by decide) (by omega) (by omega) (fun g1x => ?_) (fun g1x => ?_)
                    · have hW2 : ∀ w, w ≤ 5 * mm → S w = lN (cG n 0 w) := fun w hw => hW w (by omega)
                      refine lv_iconst (v := nI 0) hx hb dM_permuted_201 (by decide) ?_
                      refine lv_istore (lv' := [(6, .int (nI 0)), (0, .ref b), (1, .int (nI j)), (2, .int (nI pt)), (3, .int (nI n)), (4, .int (nI mm)), (5, .int (nI sm))]) hx hb dM_permuted_202 hl (by decide) rfl (fun ls hl => ?_)
                      exact loop3 (mm + 1) 0 S nx _ _ (by omega) hW2 hP hD hS (by omega) ls (lv_sub hl [1, 2, 3, 4, 5, 6, 0] rfl)
                    · refine lv_aload_n hx hb dM_permuted_178 rfl (lv_at hl 0 rfl) ?_
                      refine va_get (D := D) (ci := 3) (v := .ref (b + 7)) (C := RM) (T := FM) (N := 12) hx hb hT inM hown hK hP 0 rfl rfl 9 (by decide) (hT _ kM28) (fun _ h9 => h9) rfl dM_permuted_179 ?_
                      refine lv_iload hx hb dM_permuted_182 (lv_at hl 6 rfl) ?_
                      refine lv_iload hx hb dM_permuted_184 (lv_at hl 6 rfl) ?_
                      refine x_zne (a := k) (tgt := 193) hx hb dM_permuted_186 (by decide) (by omega) (fun g2 => ?_) (fun g2 => ?_)
                      · refine lv_lconst (v := lN 0) hx hb dM_permuted_193 (by decide) ?_
                        refine x_last hx hb hK hP hD hS 7 2 (j := k) rfl rfl (by omega) (by decide) dM_permuted_194 (fun H locs hP hD hS => ?_)
                        have hP : va_P D vwCl [(b, .inr (3, [.long sd, .int (nI nT), .int (nI nS), .ref (b + 1), .ref (b + 2), .ref (b + 3), .ref (b + 4), .ref (b + 5), .ref (b + 6), .ref (b + 7), .ref (b + 8), .int (nI 0)])), ((b + 1), .inl (κ 0, 40, .inl (fun j => nI (mk j)))), ((b + 2), .inl (κ 0, 40, .inl (fun j => nI (ms j)))), ((b + 3), .inl (κ 0, 1040, .inl (fun x => nI (ma x)))), ((b + 4), .inl (κ 0, 5200, .inl (fun x => nI (mr x)))), ((b + 5), .inl (κ 0, 416, .inl (fun x => nI (mt x)))), ((b + 6), .inl (κ 0, 120, .inl F)), ((b + 7), .inl (κ 2, 140, .inr (.inl (vp_updL S k (lN 0))))), ((b + 8), .inl (κ 2, 140, .inr (.inl nx)))] H := hP
                        have hD : va_D A [(b, .inr (3, [.long sd, .int (nI nT), .int (nI nS), .ref (b + 1), .ref (b + 2), .ref (b + 3), .ref (b + 4), .ref (b + 5), .ref (b + 6), .ref (b + 7), .ref (b + 8), .int (nI 0)])), ((b + 1), .inl (κ 0, 40, .inl (fun j => nI (mk j)))), ((b + 2), .inl (κ 0, 40, .inl (fun j => nI (ms j)))), ((b + 3), .inl (κ 0, 1040, .inl (fun x => nI (ma x)))), ((b + 4), .inl (κ 0, 5200, .inl (fun x => nI (mr x)))), ((b + 5), .inl (κ 0, 416, .inl (fun x => nI (mt x)))), ((b + 6), .inl (κ 0, 120, .inl F)), ((b + 7), .inl (κ 2, 140, .inr (.inl (vp_updL S k (lN 0))))), ((b + 8), .inl (κ 2, 140, .inr (.inl nx)))] := hD
                        refine lv_iinc (v := nI (k + 1)) (lv' := [(6, .int (nI (k + 1))), (0, .ref b), (1, .int (nI j)), (2, .int (nI pt)), (3, .int (nI n)), (4, .int (nI mm)), (5, .int (nI sm))]) hx hb dM_permuted_195 hl (k := 6) rfl (nI_add _ _) (by decide) rfl (fun ls hl => ?_)
                        refine lv_goto (tgt := 169) hx hb dM_permuted_198 (by decide) ?_
                        exact ih2 (k + 1) _ _ _ (by omega) (cg_0 (n := n) hW (by simp [cG, g2])) hP hD hS (by omega) ls (lv_sub hl [1, 2, 3, 4, 5, 6, 0] rfl)
                      · refine lv_lconst (v := lN 1) hx hb dM_permuted_189 (by decide) ?_
                        refine lv_goto (tgt := 194) hx hb dM_permuted_190 (by decide) ?_
                        refine x_last hx hb hK hP hD hS 7 2 (j := k) rfl rfl (by omega) (by decide) dM_permuted_194 (fun H locs hP hD hS => ?_)
                        have hP : va_P D vwCl [(b, .inr (3, [.long sd, .int (nI nT), .int (nI nS), .ref (b + 1), .ref (b + 2), .ref (b + 3), .ref (b + 4), .ref (b + 5), .ref (b + 6), .ref (b + 7), .ref (b + 8), .int (nI 0)])), ((b + 1), .inl (κ 0, 40, .inl (fun j => nI (mk j)))), ((b + 2), .inl (κ 0, 40, .inl (fun j => nI (ms j)))), ((b + 3), .inl (κ 0, 1040, .inl (fun x => nI (ma x)))), ((b + 4), .inl (κ 0, 5200, .inl (fun x => nI (mr x)))), ((b + 5), .inl (κ 0, 416, .inl (fun x => nI (mt x)))), ((b + 6), .inl (κ 0, 120, .inl F)), ((b + 7), .inl (κ 2, 140, .inr (.inl (vp_updL S k (lN 1))))), ((b + 8), .inl (κ 2, 140, .inr (.inl nx)))] H := hP
                        have hD : va_D A [(b, .inr (3, [.long sd, .int (nI nT), .int (nI nS), .ref (b + 1), .ref (b + 2), .ref (b + 3), .ref (b + 4), .ref (b + 5), .ref (b + 6), .ref (b + 7), .ref (b + 8), .int (nI 0)])), ((b + 1), .inl (κ 0, 40, .inl (fun j => nI (mk j)))), ((b + 2), .inl (κ 0, 40, .inl (fun j => nI (ms j)))), ((b + 3), .inl (κ 0, 1040, .inl (fun x => nI (ma x)))), ((b + 4), .inl (κ 0, 5200, .inl (fun x => nI (mr x)))), ((b + 5), .inl (κ 0, 416, .inl (fun x => nI (mt x)))), ((b + 6), .inl (κ 0, 120, .inl F)), ((b + 7), .inl (κ 2, 140, .inr (.inl (vp_updL S k (lN 1))))), ((b + 8), .inl (κ 2, 140, .inr (.inl nx)))] := hD
                        refine lv_iinc (v := nI (k + 1)) (lv' := [(6, .int (nI (k + 1))), (0, .ref b), (1, .int (nI j)), (2, .int (nI pt)), (3, .int (nI n)), (4, .int (nI mm)), (5, .int (nI sm))]) hx hb dM_permuted_195 hl (k := 6) rfl (nI_add _ _) (by decide) rfl (fun ls hl => ?_)
                        refine lv_goto (tgt := 169) hx hb dM_permuted_198 (by decide) ?_
                        exact ih2 (k + 1) _ _ _ (by omega) (cg_0 (n := n) hW (by simp [cG, g2])) hP hD hS (by omega) ls (lv_sub hl [1, 2, 3, 4, 5, 6, 0] rfl)
                refine lv_iconst (v := nI 0) hx hb dM_permuted_166 (by decide) ?_
                refine lv_istore (lv' := [(6, .int (nI 0)), (0, .ref b), (1, .int (nI j)), (2, .int (nI pt)), (3, .int (nI n)), (4, .int (nI mm)), (5, .int (nI sm))]) hx hb dM_permuted_167 hl (by decide) rfl (fun ls hl => ?_)
                exact loop2 (5 * mm + 2) 0 wy _ _ (by omega) (fun w hw => absurd hw (Nat.not_lt_zero _)) hP hD hS (by omega) ls (lv_sub hl [1, 2, 3, 4, 5, 6, 0] rfl)
              · refine lv_ldc2 (v := -1) hx hb hown (hT _ kM98) dM_permuted_162 ?_
                have hP := hP.sub (ws' := [(b, .inr (3, [.long sd, .int (nI nT), .int (nI nS), .ref (b + 1), .ref (b + 2), .ref (b + 3), .ref (b + 4), .ref (b + 5), .ref (b + 6), .ref (b + 7), .ref (b + 8), .int (nI 0)])), ((b + 1), .inl (κ 0, 40, .inl (fun j => nI (mk j)))), ((b + 2), .inl (κ 0, 40, .inl (fun j => nI (ms j)))), ((b + 3), .inl (κ 0, 1040, .inl (fun x => nI (ma x)))), ((b + 4), .inl (κ 0, 5200, .inl (fun x => nI (mr x)))), ((b + 5), .inl (κ 0, 416, .inl (fun x => nI (mt x)))), ((b + 6), .inl (κ 0, 120, .inl F)), ((b + 7), .inl (κ 2, 140, .inr (.inl wy))), ((b + 8), .inl (κ 2, 140, .inr (.inl nx)))]) [0, 1, 2, 3, 4, 5, 6, 7, 8] rfl
                have hD := hD.sub (ws' := [(b, .inr (3, [.long sd, .int (nI nT), .int (nI nS), .ref (b + 1), .ref (b + 2), .ref (b + 3), .ref (b + 4), .ref (b + 5), .ref (b + 6), .ref (b + 7), .ref (b + 8), .int (nI 0)])), ((b + 1), .inl (κ 0, 40, .inl (fun j => nI (mk j)))), ((b + 2), .inl (κ 0, 40, .inl (fun j => nI (ms j)))), ((b + 3), .inl (κ 0, 1040, .inl (fun x => nI (ma x)))), ((b + 4), .inl (κ 0, 5200, .inl (fun x => nI (mr x)))), ((b + 5), .inl (κ 0, 416, .inl (fun x => nI (mt x)))), ((b + 6), .inl (κ 0, 120, .inl F)), ((b + 7), .inl (κ 2, 140, .inr (.inl wy))), ((b + 8), .inl (κ 2, 140, .inr (.inl nx)))]) [0, 1, 2, 3, 4, 5, 6, 7, 8] (by decide) rfl
                exact W.lret (v := -1) hx hb hr (fun t9 ht9 hW9 => ⟨some (.long (-1)), rfl, by rw [ht9]; exact ⟨by rw [p3 j hj rfl (by rw [← hmm]; exact g9)], ⟨⟨_, _, _, hP⟩, ⟨⟨hnT, hnS, hba, Nat.le_trans hbh hS.1, by omega⟩, hmk, hma, hmr, hmt⟩⟩, ⟨hS.1, fun q h1 h2 => hS.2.1 q h1 (fun z => h2 (hAO q z))⟩⟩⟩) (fun q h => hAO _ (hS.2.2 q h)) dM_permuted_165
            · have loop1a : ∀ (fu : Nat) (t : Nat), (t ≤ n) → n - t < fu → ∀ ls : Array Slot, lv_has ls 10 [(0, .ref b), (1, .int (nI j)), (2, .int (nI pt)), (3, .int (nI n)), (4, .int (nI (rkC (fun x => mr (130 * j + x)) n pp))), (5, .int (nI (rkS (fun x => mr (130 * j + x)) n pp))), (6, .int (nI pp)), (7, .int (nI (5 * (26 * j + pp)))), (8, .int (nI (alB (fun x => mr (130 * j + x)) pp t))), (9, .int (nI t))] → W p l e (headSpec wM_permuted ({ frames := 1, cells := 0, slots := 0, locals := 120 })).room s m ([.ref b, .int (nI j), .int (nI pt)] : List Value).toArray below meth c H locs 0 0 (MQ below (q_W (fun v H => v = some (.long r) ∧ RMo D κ base b sd nT nS mk ms ma mr mt 0 H ∧ FrM b s.heap H)) ([.ref b, .int (nI j), .int (nI pt)] : List Value).toArray s 0 0 (OwnM b s.heap.size)) (F0 m 78 ls []) := by
                intro fu
                induction fu with
                | zero =>
                  intro t ht hmu
                  exact absurd hmu (Nat.not_lt_zero _)
                | succ fu ih1a =>
                  intro t ht hmu ls hl
                  have f1 := alB_le (fun x => mr (130 * j + x)) pp t
                  refine lv_iload hx hb dM_permuted_78 (lv_at hl 9 rfl) ?_
                  refine lv_iload_n hx hb dM_permuted_80 rfl (lv_at hl 3 rfl) ?_
                  refine x_cge (a := t) (b := n) (tgt := 115) hx hb dM_permuted_81 (by decide) (by omega) (by omega) (fun g4 => ?_) (fun g4 => ?_)
                  · have e6 : t = n := by omega
                    rw [e6] at hl f1
                    refine lv_iload hx hb dM_permuted_115 (lv_at hl 4 rfl) ?_
                    refine lv_iload hx hb dM_permuted_117 (lv_at hl 8 rfl) ?_
                    have c8 := rkC_le (fun x => mr (130 * j + x)) n pp
                    have c9 := rkS_le (fun x => mr (130 * j + x)) n hf5 pp (by omega)
                    have hb7 := hmr (5 * (26 * j + pp)) (by omega)
                    refine x_zeq (a := alB (fun x => mr (130 * j + x)) pp n) (tgt := 126) hx hb dM_permuted_119 (by decide) (by omega) (fun g5 => ?_) (fun g5 => ?_)
                    · refine lv_iconst (v := nI 0) hx hb dM_permuted_126 (by decide) ?_
                      refine x_iadd (v := nI ((rkC (fun x => mr (130 * j + x)) n pp) + 0)) hx hb dM_permuted_127 (nI_add _ _) ?_
                      refine x_topn (b := rkC (fun x => mr (130 * j + x)) n (pp + 1)) (by rw [rkC, if_neg (alB_not g5)]) ?_
                      refine lv_istore (lv' := [(4, .int (nI (rkC (fun x => mr (130 * j + x)) n (pp + 1)))), (0, .ref b), (1, .int (nI j)), (2, .int (nI pt)), (3, .int (nI n)), (5, .int (nI (rkS (fun x => mr (130 * j + x)) n pp))), (6, .int (nI pp)), (7, .int (nI (5 * (26 * j + pp)))), (8, .int (nI (alB (fun x => mr (130 * j + x)) pp n))), (9, .int (nI n))]) hx hb dM_permuted_128 hl (by decide) rfl (fun ls hl => ?_)
                      refine lv_iload hx hb dM_permuted_130 (lv_at hl 5 rfl) ?_
                      refine lv_iload hx hb dM_permuted_132 (lv_at hl 8 rfl) ?_
                      refine x_zeq (a := alB (fun x => mr (130 * j + x)) pp n) (tgt := 147) hx hb dM_permuted_134 (by decide) (by omega) (fun h8 => ?_) (fun h8 => absurd g5 h8)
                      refine lv_iconst (v := nI 0) hx hb dM_permuted_147 (by decide) ?_
                      refine x_iadd (v := nI ((rkS (fun x => mr (130 * j + x)) n pp) + 0)) hx hb dM_permuted_148 (nI_add _ _) ?_
                      refine x_topn (b := rkS (fun x => mr (130 * j + x)) n (pp + 1)) (by rw [rkS, if_neg (alB_not g5)]) ?_
                      refine lv_istore (lv' := [(5, .int (nI (rkS (fun x => mr (130 * j + x)) n (pp + 1)))), (4, .int (nI (rkC (fun x => mr (130 * j + x)) n (pp + 1)))), (0, .ref b), (1, .int (nI j)), (2, .int (nI pt)), (3, .int (nI n)), (6, .int (nI pp)), (7, .int (nI (5 * (26 * j + pp)))), (8, .int (nI (alB (fun x => mr (130 * j + x)) pp n))), (9, .int (nI n))]) hx hb dM_permuted_149 hl (by decide) rfl (fun ls hl => ?_)
                      refine lv_iinc (v := nI (pp + 1)) (lv' := [(6, .int (nI (pp + 1))), (5, .int (nI (rkS (fun x => mr (130 * j + x)) n (pp + 1)))), (4, .int (nI (rkC (fun x => mr (130 * j + x)) n (pp + 1)))), (0, .ref b), (1, .int (nI j)), (2, .int (nI pt)), (3, .int (nI n)), (7, .int (nI (5 * (26 * j + pp)))), (8, .int (nI (alB (fun x => mr (130 * j + x)) pp n))), (9, .int (nI n))]) hx hb dM_permuted_151 hl (k := 6) rfl (nI_add _ _) (by decide) rfl (fun ls hl => ?_)
                      refine lv_goto (tgt := 52) hx hb dM_permuted_154 (by decide) ?_
                      exact ih1 (pp + 1) (by omega) (by omega) ls (lv_sub hl [3, 4, 5, 6, 2, 1, 0] rfl)
                    · refine lv_iconst (v := nI 1) hx hb dM_permuted_122 (by decide) ?_
                      refine lv_goto (tgt := 127) hx hb dM_permuted_123 (by decide) ?_
                      refine x_iadd (v := nI ((rkC (fun x => mr (130 * j + x)) n pp) + 1)) hx hb dM_permuted_127 (nI_add _ _) ?_
                      refine x_topn (b := rkC (fun x => mr (130 * j + x)) n (pp + 1)) (by rw [rkC, if_pos (alB_all g5)]) ?_
                      refine lv_istore (lv' := [(4, .int (nI (rkC (fun x => mr (130 * j + x)) n (pp + 1)))), (0, .ref b), (1, .int (nI j)), (2, .int (nI pt)), (3, .int (nI n)), (5, .int (nI (rkS (fun x => mr (130 * j + x)) n pp))), (6, .int (nI pp)), (7, .int (nI (5 * (26 * j + pp)))), (8, .int (nI (alB (fun x => mr (130 * j + x)) pp n))), (9, .int (nI n))]) hx hb dM_permuted_128 hl (by decide) rfl (fun ls hl => ?_)
                      refine lv_iload hx hb dM_permuted_130 (lv_at hl 5 rfl) ?_
                      refine lv_iload hx hb dM_permuted_132 (lv_at hl 8 rfl) ?_
                      refine x_zeq (a := alB (fun x => mr (130 * j + x)) pp n) (tgt := 147) hx hb dM_permuted_134 (by decide) (by omega) (fun h9 => absurd h9 g5) (fun h9 => ?_)
                      refine lv_aload_n hx hb dM_permuted_137 rfl (lv_at hl 1 rfl) ?_
                      refine va_get (D := D) (ci := 3) (v := .ref (b + 4)) (C := RM) (T := FM) (N := 12) hx hb hT inM hown hK hP 0 rfl rfl 6 (by decide) (hT _ kM19) (fun _ h9 => h9) rfl dM_permuted_138 ?_
                      refine lv_iload hx hb dM_permuted_141 (lv_at hl 7 rfl) ?_
                      refine x_iald hx hb hK hP 4 0 (j := 5 * (26 * j + pp)) (v := nI (mr (5 * (26 * j + pp)))) rfl rfl (by omega) (by decide) (rfl) dM_permuted_143 ?_
                      refine lv_goto (tgt := 148) hx hb dM_permuted_144 (by decide) ?_
                      refine x_iadd (v := nI ((rkS (fun x => mr (130 * j + x)) n pp) + (mr (5 * (26 * j + pp))))) hx hb dM_permuted_148 (nI_add _ _) ?_
                      refine x_topn (b := rkS (fun x => mr (130 * j + x)) n (pp + 1)) (by rw [rkS, if_pos (alB_all g5)]; show _ = _ + mr (130 * j + pp * 5); rw [show 130 * j + pp * 5 = 5 * (26 * j + pp) by omega]) ?_
                      refine lv_istore (lv' := [(5, .int (nI (rkS (fun x => mr (130 * j + x)) n (pp + 1)))), (4, .int (nI (rkC (fun x => mr (130 * j + x)) n (pp + 1)))), (0, .ref b), (1, .int (nI j)), (2, .int (nI pt)), (3, .int (nI n)), (6, .int (nI pp)), (7, .int (nI (5 * (26 * j + pp)))), (8, .int (nI (alB (fun x => mr (130 * j + x)) pp n))), (9, .int (nI n))]) hx hb dM_permuted_149 hl (by decide) rfl (fun ls hl => ?_)
                      refine lv_iinc (v := nI (pp + 1)) (lv' := [(6, .int (nI (pp + 1))), (5, .int (nI (rkS (fun x => mr (130 * j + x)) n (pp + 1)))), (4, .int (nI (rkC (fun x => mr (130 * j + x)) n (pp + 1)))), (0, .ref b), (1, .int (nI j)), (2, .int (nI pt)), (3, .int (nI n)), (7, .int (nI (5 * (26 * j + pp)))), (8, .int (nI (alB (fun x => mr (130 * j + x)) pp n))), (9, .int (nI n))]) hx hb dM_permuted_151 hl (k := 6) rfl (nI_add _ _) (by decide) rfl (fun ls hl => ?_)
                      refine lv_goto (tgt := 52) hx hb dM_permuted_154 (by decide) ?_
                      exact ih1 (pp + 1) (by omega) (by omega) ls (lv_sub hl [3, 4, 5, 6, 2, 1, 0] rfl)
                  · have hb6 := hmr (5 * (26 * j + pp) + t) (by omega)
                    have e5 : mr (130 * j + (pp * 5 + t)) = mr (5 * (26 * j + pp) + t) := by rw [show 130 * j + (pp * 5 + t) = 5 * (26 * j + pp) + t by omega]
                    refine lv_iload hx hb dM_permuted_84 (lv_at hl 8 rfl) ?_
                    refine x_zeq (a := alB (fun x => mr (130 * j + x)) pp t) (tgt := 106) hx hb dM_permuted_86 (by decide) (by omega) (fun g6 => ?_) (fun g6 => ?_)
                    · refine lv_iconst (v := nI 0) hx hb dM_permuted_106 (by decide) ?_
                      refine x_topn (b := alB (fun x => mr (130 * j + x)) pp (t + 1)) (by rw [alB, if_neg (fun q => q.1 g6)]) ?_
                      refine lv_istore (lv' := [(8, .int (nI (alB (fun x => mr (130 * j + x)) pp (t + 1)))), (0, .ref b), (1, .int (nI j)), (2, .int (nI pt)), (3, .int (nI n)), (4, .int (nI (rkC (fun x => mr (130 * j + x)) n pp))), (5, .int (nI (rkS (fun x => mr (130 * j + x)) n pp))), (6, .int (nI pp)), (7, .int (nI (5 * (26 * j + pp)))), (9, .int (nI t))]) hx hb dM_permuted_107 hl (by decide) rfl (fun ls hl => ?_)
                      refine lv_iinc (v := nI (t + 1)) (lv' := [(9, .int (nI (t + 1))), (8, .int (nI (alB (fun x => mr (130 * j + x)) pp (t + 1)))), (0, .ref b), (1, .int (nI j)), (2, .int (nI pt)), (3, .int (nI n)), (4, .int (nI (rkC (fun x => mr (130 * j + x)) n pp))), (5, .int (nI (rkS (fun x => mr (130 * j + x)) n pp))), (6, .int (nI pp)), (7, .int (nI (5 * (26 * j + pp))))]) hx hb dM_permuted_109 hl (k := 9) rfl (nI_add _ _) (by decide) rfl (fun ls hl => ?_)
                      refine lv_goto (tgt := 78) hx hb dM_permuted_112 (by decide) ?_
                      exact ih1a (t + 1) (by omega) (by omega) ls (lv_sub hl [2, 3, 4, 5, 6, 7, 8, 9, 1, 0] rfl)
                    · refine lv_aload_n hx hb dM_permuted_89 rfl (lv_at hl 0 rfl) ?_
                      refine va_get (D := D) (ci := 3) (v := .ref (b + 4)) (C := RM) (T := FM) (N := 12) hx hb hT inM hown hK hP 0 rfl rfl 6 (by decide) (hT _ kM19) (fun _ h9 => h9) rfl dM_permuted_90 ?_
                      refine lv_iload hx hb dM_permuted_93 (lv_at hl 7 rfl) ?_
                      refine lv_iload hx hb dM_permuted_95 (lv_at hl 9 rfl) ?_
                      refine x_iadd (v := nI ((5 * (26 * j + pp)) + t)) hx hb dM_permuted_97 (nI_add _ _) ?_
                      refine x_iald hx hb hK hP 4 0 (j := (5 * (26 * j + pp)) + t) (v := nI (mr ((5 * (26 * j + pp)) + t))) rfl rfl (by omega) (by decide) (rfl) dM_permuted_98 ?_
                      refine x_zle (a := mr ((5 * (26 * j + pp)) + t)) (tgt := 106) hx hb dM_permuted_99 (by decide) (by omega) (fun g7 => ?_) (fun g7 => ?_)
                      · refine lv_iconst (v := nI 0) hx hb dM_permuted_106 (by decide) ?_
                        refine x_topn (b := alB (fun x => mr (130 * j + x)) pp (t + 1)) (by rw [alB, if_neg (fun q => q.2 (by rw [e5]; exact g7))]) ?_
                        refine lv_istore (lv' := [(8, .int (nI (alB (fun x => mr (130 * j + x)) pp (t + 1)))), (0, .ref b), (1, .int (nI j)), (2, .int (nI pt)), (3, .int (nI n)), (4, .int (nI (rkC (fun x => mr (130 * j + x)) n pp))), (5, .int (nI (rkS (fun x => mr (130 * j + x)) n pp))), (6, .int (nI pp)), (7, .int (nI (5 * (26 * j + pp)))), (9, .int (nI t))]) hx hb dM_permuted_107 hl (by decide) rfl (fun ls hl => ?_)
                        refine lv_iinc (v := nI (t + 1)) (lv' := [(9, .int (nI (t + 1))), (8, .int (nI (alB (fun x => mr (130 * j + x)) pp (t + 1)))), (0, .ref b), (1, .int (nI j)), (2, .int (nI pt)), (3, .int (nI n)), (4, .int (nI (rkC (fun x => mr (130 * j + x)) n pp))), (5, .int (nI (rkS (fun x => mr (130 * j + x)) n pp))), (6, .int (nI pp)), (7, .int (nI (5 * (26 * j + pp))))]) hx hb dM_permuted_109 hl (k := 9) rfl (nI_add _ _) (by decide) rfl (fun ls hl => ?_)
                        refine lv_goto (tgt := 78) hx hb dM_permuted_112 (by decide) ?_
                        exact ih1a (t + 1) (by omega) (by omega) ls (lv_sub hl [2, 3, 4, 5, 6, 7, 8, 9, 1, 0] rfl)
                      · refine lv_iconst (v := nI 1) hx hb dM_permuted_102 (by decide) ?_
                        refine lv_goto (tgt := 107) hx hb dM_permuted_103 (by decide) ?_
                        refine x_topn (b := alB (fun x => mr (130 * j + x)) pp (t + 1)) (by rw [alB, if_pos ⟨g6, by rw [e5]; omega⟩]) ?_
                        refine lv_istore (lv' := [(8, .int (nI (alB (fun x => mr (130 * j + x)) pp (t + 1)))), (0, .ref b), (1, .int (nI j)), (2, .int (nI pt)), (3, .int (nI n)), (4, .int (nI (rkC (fun x => mr (130 * j + x)) n pp))), (5, .int (nI (rkS (fun x => mr (130 * j + x)) n pp))), (6, .int (nI pp)), (7, .int (nI (5 * (26 * j + pp)))), (9, .int (nI t))]) hx hb dM_permuted_107 hl (by decide) rfl (fun ls hl => ?_)
                        refine lv_iinc (v := nI (t + 1)) (lv' := [(9, .int (nI (t + 1))), (8, .int (nI (alB (fun x => mr (130 * j + x)) pp (t + 1)))), (0, .ref b), (1, .int (nI j)), (2, .int (nI pt)), (3, .int (nI n)), (4, .int (nI (rkC (fun x => mr (130 * j + x)) n pp))), (5, .int (nI (rkS (fun x => mr (130 * j + x)) n pp))), (6, .int (nI pp)), (7, .int (nI (5 * (26 * j + pp))))]) hx hb dM_permuted_109 hl (k := 9) rfl (nI_add _ _) (by decide) rfl (fun ls hl => ?_)
                        refine lv_goto (tgt := 78) hx hb dM_permuted_112 (by decide) ?_
                        exact ih1a (t + 1) (by omega) (by omega) ls (lv_sub hl [2, 3, 4, 5, 6, 7, 8, 9, 1, 0] rfl)
              refine lv_iconst (v := nI 5) hx hb dM_permuted_61 (by decide) ?_
              refine lv_bipush (v := nI 26) hx hb dM_permuted_62 (by decide) ?_
              refine lv_iload_n hx hb dM_permuted_64 rfl (lv_at hl 1 rfl) ?_
              refine x_imul (v := nI (26 * j)) hx hb dM_permuted_65 (pk_mul _ _) ?_
              refine lv_iload hx hb dM_permuted_66 (lv_at hl 6 rfl) ?_
              refine x_iadd (v := nI ((26 * j) + pp)) hx hb dM_permuted_68 (nI_add _ _) ?_
              refine x_imul (v := nI (5 * ((26 * j) + pp))) hx hb dM_permuted_69 (pk_mul _ _) ?_
              refine lv_istore (lv' := [(7, .int (nI (5 * ((26 * j) + pp)))), (0, .ref b), (1, .int (nI j)), (2, .int (nI pt)), (3, .int (nI n)), (4, .int (nI (rkC (fun x => mr (130 * j + x)) n pp))), (5, .int (nI (rkS (fun x => mr (130 * j + x)) n pp))), (6, .int (nI pp))]) hx hb dM_permuted_70 hl (by decide) rfl (fun ls hl => ?_)
              refine lv_iconst (v := nI 1) hx hb dM_permuted_72 (by decide) ?_
              refine x_topn (b := alB (fun x => mr (130 * j + x)) pp 0) (rfl) ?_
              refine lv_istore (lv' := [(8, .int (nI (alB (fun x => mr (130 * j + x)) pp 0))), (7, .int (nI (5 * ((26 * j) + pp)))), (0, .ref b), (1, .int (nI j)), (2, .int (nI pt)), (3, .int (nI n)), (4, .int (nI (rkC (fun x => mr (130 * j + x)) n pp))), (5, .int (nI (rkS (fun x => mr (130 * j + x)) n pp))), (6, .int (nI pp))]) hx hb dM_permuted_73 hl (by decide) rfl (fun ls hl => ?_)
              refine lv_iconst (v := nI 0) hx hb dM_permuted_75 (by decide) ?_
              refine lv_istore (lv' := [(9, .int (nI 0)), (8, .int (nI (alB (fun x => mr (130 * j + x)) pp 0))), (7, .int (nI (5 * ((26 * j) + pp)))), (0, .ref b), (1, .int (nI j)), (2, .int (nI pt)), (3, .int (nI n)), (4, .int (nI (rkC (fun x => mr (130 * j + x)) n pp))), (5, .int (nI (rkS (fun x => mr (130 * j + x)) n pp))), (6, .int (nI pp))]) hx hb dM_permuted_76 hl (by decide) rfl (fun ls hl => ?_)
              exact loop1a (n + 1) 0 (by omega) (by omega) ls (lv_sub hl [3, 4, 5, 6, 7, 8, 9, 2, 1, 0] rfl)
        refine lv_aload_n hx hb dM_permuted_36 rfl (lv_at hl 0 rfl) ?_
        refine va_get (D := D) (ci := 3) (v := .ref (b + 2)) (C := RM) (T := FM) (N := 12) hx hb hT inM hown hK hP 0 rfl rfl 4 (by decide) (hT _ kM13) (fun _ h9 => h9) rfl dM_permuted_37 ?_
        refine lv_iload_n hx hb dM_permuted_40 rfl (lv_at hl 1 rfl) ?_
        refine x_iald hx hb hK hP 2 0 (j := j) (v := nI (ms j)) rfl rfl (by omega) (by decide) (rfl) dM_permuted_41 ?_
        refine x_topn (b := n) (hn.symm) ?_
        refine lv_istore_n (lv' := [(3, .int (nI n)), (0, .ref b), (1, .int (nI j)), (2, .int (nI pt))]) hx hb dM_permuted_42 rfl hl (by decide) rfl (fun ls hl => ?_)
        refine lv_iconst (v := nI 0) hx hb dM_permuted_43 (by decide) ?_
        refine lv_istore (lv' := [(4, .int (nI 0)), (3, .int (nI n)), (0, .ref b), (1, .int (nI j)), (2, .int (nI pt))]) hx hb dM_permuted_44 hl (by decide) rfl (fun ls hl => ?_)
        refine lv_iconst (v := nI 0) hx hb dM_permuted_46 (by decide) ?_
        refine lv_istore (lv' := [(5, .int (nI 0)), (4, .int (nI 0)), (3, .int (nI n)), (0, .ref b), (1, .int (nI j)), (2, .int (nI pt))]) hx hb dM_permuted_47 hl (by decide) rfl (fun ls hl => ?_)
        refine lv_iconst (v := nI 0) hx hb dM_permuted_49 (by decide) ?_
        refine lv_istore (lv' := [(6, .int (nI 0)), (5, .int (nI 0)), (4, .int (nI 0)), (3, .int (nI n)), (0, .ref b), (1, .int (nI j)), (2, .int (nI pt))]) hx hb dM_permuted_50 hl (by decide) rfl (fun ls hl => ?_)
        exact loop1 (nT + 1) 0 (by omega) (by omega) ls (lv_sub hl [4, 5, 6, 3, 2, 1, 0] rfl)
