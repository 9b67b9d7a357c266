/-! taster, test -/
theorem ordv_at {n : Nat} (sd : Int64) (t : Nat) {b pl : Nat} (h : pl < n) : ordv n sd t (b * n + pl) = mixR n sd t b pl := by
  unfold ordv
  have h1 : (b * n + pl) / n = b := by
    rw [Nat.add_comm, Nat.add_mul_div_right _ _ (by omega), Nat.div_eq_of_lt h, Nat.zero_add]
  have h2 : (b * n + pl) % n = pl := by
    rw [Nat.add_comm, Nat.add_mul_mod_self_right, Nat.mod_eq_of_lt h]
  rw [h1, h2]
def ur (f : Nat → Nat → Nat) (i : Nat) (g : Nat → Nat) : Nat → Nat → Nat := fun i' => if i' = i then g else f i'
theorem ur_eq {f : Nat → Nat → Nat} {i : Nat} {g : Nat → Nat} : ur f i g i = g := by simp [ur]
theorem ur_ne {f : Nat → Nat → Nat} {i i' : Nat} {g : Nat → Nat} (h : i' ≠ i) : ur f i g i' = f i' := by simp [ur, h]
theorem ord_nx {G : Nat → Int32} {n i b pl : Nat} {sd : Int64} {t : Nat} {v : Int32} (hG : ∀ x, x < i → G x = nI (ordv n sd t x)) (hi : i = b * n + pl) (hp : pl < n) (hv : v = nI (mixR n sd t b pl)) : ∀ x, x < i + 1 → upd G i v x = nI (ordv n sd t x) := by
  intro x hx
  by_cases h : x = i
  · subst h
    simp only [upd, if_pos]
    rw [hv, hi, ordv_at sd t hp]
  · simp only [upd, if_neg h]
    exact hG x (by omega)
theorem okK_nat {x y : Int32} (h : okK x y = true) : ∃ k n : Nat, okN k n ∧ x = nI k ∧ y = nI n := by
  have h := of_decide_eq_true h
  rcases h with ⟨rfl, rfl⟩ | ⟨rfl | rfl, rfl⟩ | ⟨rfl, h1, h2⟩
  · exact ⟨0, 3, Or.inl ⟨rfl, rfl⟩, rfl, rfl⟩
  · exact ⟨1, 2, Or.inr (Or.inl ⟨Or.inl rfl, rfl⟩), rfl, rfl⟩
  · exact ⟨2, 2, Or.inr (Or.inl ⟨Or.inr rfl, rfl⟩), rfl, rfl⟩
  · obtain ⟨j, hj, e⟩ := nI_of2 (x := y) (M := 5) (n := 5) (by decide) (fun q => absurd (Int32.lt_of_le_of_lt h1 q) (by decide)) h2
    refine ⟨3, j, Or.inr (Or.inr ⟨rfl, ?_, hj⟩), rfl, e⟩
    rw [e] at h1
    exact (nI_leI (by decide) (by omega)).mp h1
theorem okK_of {k n : Nat} (h : okN k n) : okK (nI k) (nI n) = true := by
  rcases h with ⟨rfl, rfl⟩ | ⟨rfl | rfl, rfl⟩ | ⟨rfl, h1, h2⟩
  · decide
  · decide
  · decide
  · rcases (show n = 2 ∨ n = 3 ∨ n = 4 ∨ n = 5 by omega) with rfl | rfl | rfl | rfl <;> decide
set_option maxHeartbeats 400000 in
set_option maxRecDepth 100000 in
theorem c_P_giveOrders (l : Launch) (D : va_G) (κ : Nat → ClassId) (base : Nat) (H0 : Heap) {a q kd sp nT nS : Nat} {sd : Int64} {Fz Gz : Nat → Int32} (n t : Nat) (hok : okN kd sp) (hn : n = cntO kd sp) (ht : t < 2 ^ 31) (hP : va_P D vwCl [(a, .inr (2, [.long sd, .ref (a + 1), .ref (a + 2), .int (nI nT), .int (nI nS), .ref (a + 3), .ref (a + 4)])), ((a + 3), .inl (κ 0, 120, .inl Fz)), (q, .inr (1, [.int (nI kd), .int (nI sp), .ref (q + 1), .ref (q + 2), .ref (q + 3), .int (nI 0), .int (nI 0)])), ((q + 1), .inl (κ 0, 26, .inl Gz))] H0) (hD0 : va_D (fun q => base ≤ q) [(a, .inr (2, [.long sd, .ref (a + 1), .ref (a + 2), .int (nI nT), .int (nI nS), .ref (a + 3), .ref (a + 4)])), ((a + 3), .inl (κ 0, 120, .inl Fz)), (q, .inr (1, [.int (nI kd), .int (nI sp), .ref (q + 1), .ref (q + 2), .ref (q + 3), .int (nI 0), .int (nI 0)])), ((q + 1), .inl (κ 0, 26, .inl Gz))]) (hbs : base ≤ H0.size)  : Met l yP_giveOrders wP_giveOrders ({ frames := 1, cells := 0, slots := 0, locals := 28 }) (Pq D κ base [.ref a, .ref q, .int (nI t)] H0) (q_W (fun v H => ∃ F G : Nat → Int32, Pst D (va_A [(a, .inr (2, [.long sd, .ref (a + 1), .ref (a + 2), .int (nI nT), .int (nI nS), .ref (a + 3), .ref (a + 4)])), ((a + 3), .inl (κ 0, 120, .inl Fz)), (q, .inr (1, [.int (nI kd), .int (nI sp), .ref (q + 1), .ref (q + 2), .ref (q + 3), .int (nI 0), .int (nI 0)])), ((q + 1), .inl (κ 0, 26, .inl Gz))] H0.size) H0 none [(a, .inr (2, [.long sd, .ref (a + 1), .ref (a + 2), .int (nI nT), .int (nI nS), .ref (a + 3), .ref (a + 4)])), ((a + 3), .inl (κ 0, 120, .inl F)), (q, .inr (1, [.int (nI kd), .int (nI sp), .ref (q + 1), .ref (q + 2), .ref (q + 3), .int (nI 0), .int (nI 0)])), ((q + 1), .inl (κ 0, 26, .inl G))] v H ∧ ∀ i, i < 26 → G i = nI (ordv n sd t i))) 0 0 (va_A [(a, .inr (2, [.long sd, .ref (a + 1), .ref (a + 2), .int (nI nT), .int (nI nS), .ref (a + 3), .ref (a + 4)])), ((a + 3), .inl (κ 0, 120, .inl Fz)), (q, .inr (1, [.int (nI kd), .int (nI sp), .ref (q + 1), .ref (q + 2), .ref (q + 3), .int (nI 0), .int (nI 0)])), ((q + 1), .inl (κ 0, 26, .inl Gz))] H0.size) := by
  refine Met.ofW (cc := bP_giveOrders) (maxL := 7) (ret := none) (by decide) rfl ?_
  intro p e s m args below meth c s₁ B hml hv
  obtain ⟨rfl, hH, hE⟩ := hv
  subst hH
  have hx := B.exec
  have hb := B.bytes
  have hr := B.returns
  have hT : ∀ w ∈ TT, w.before _ s = true := fun w h => atoms_spec (ws := wP_giveOrders) B.pre w (List.mem_cons_of_mem _ h)
  have hown : s.vm.findClass "TasterPanels" = some m.cls := findClass_of_methodNamed B.named
  have hlocks := B.notSynchronized
  have hK := hE.1
  have hD := hD0.self (sz := s.heap.size)
  have hAb : ∀ x9, va_A [(a, .inr (2, [.long sd, .ref (a + 1), .ref (a + 2), .int (nI nT), .int (nI nS), .ref (a + 3), .ref (a + 4)])), ((a + 3), .inl (κ 0, 120, .inl Fz)), (q, .inr (1, [.int (nI kd), .int (nI sp), .ref (q + 1), .ref (q + 2), .ref (q + 3), .int (nI 0), .int (nI 0)])), ((q + 1), .inl (κ 0, 26, .inl Gz))] s.heap.size x9 → base ≤ x9 := fun x9 h => by rcases h with ⟨k, e, h⟩ | h; exact hD0.2 k _ h; exact Nat.le_trans hbs h
  generalize hAe : va_A [(a, .inr (2, [.long sd, .ref (a + 1), .ref (a + 2), .int (nI nT), .int (nI nS), .ref (a + 3), .ref (a + 4)])), ((a + 3), .inl (κ 0, 120, .inl Fz)), (q, .inr (1, [.int (nI kd), .int (nI sp), .ref (q + 1), .ref (q + 2), .ref (q + 3), .int (nI 0), .int (nI 0)])), ((q + 1), .inl (κ 0, 26, .inl Gz))] s.heap.size = A at hD hAb ⊢
  have hA : ∀ x9, s.heap.size ≤ x9 → A x9 := fun x9 h => by rw [← hAe]; exact Or.inr h
  have hS : va_S A s.heap s.heap [] := va_S.rf
  have hl := lv_entry ([.ref a, .ref q, .int (nI t)]) (n := 7) (Nat.le_of_ble_eq_true rfl)
  rw [lg_entry_eq]
  generalize (lg_sl ([.ref a, .ref q, .int (nI t)]) ++ List.replicate (7 - (lg_sl ([.ref a, .ref q, .int (nI t)])).length) Slot.unset).toArray = ls at hl ⊢
  have hl : lv_has ls 7 [(0, .ref a), (1, .ref q), (2, .int (nI t))] := hl
  have hsp := hok.lt
  have hn1 : 1 ≤ n ∧ n ≤ 120 := by rw [hn]; exact cntO_le hok
  have loop : ∀ (fu : Nat) (i b pl : Nat) (F G : Nat → Int32) (H : Heap) (locs : List Loc), (i ≤ 26) → (pl ≤ n) → (i = b * n + pl) → (b ≤ 26) → (∀ k, k < n → F k = nI (mixR n sd t b k)) → (∀ x, x < i → G x = nI (ordv n sd t x)) → va_P D vwCl [(a, .inr (2, [.long sd, .ref (a + 1), .ref (a + 2), .int (nI nT), .int (nI nS), .ref (a + 3), .ref (a + 4)])), ((a + 3), .inl (κ 0, 120, .inl F)), (q, .inr (1, [.int (nI kd), .int (nI sp), .ref (q + 1), .ref (q + 2), .ref (q + 3), .int (nI 0), .int (nI 0)])), ((q + 1), .inl (κ 0, 26, .inl G))] H → va_D A [(a, .inr (2, [.long sd, .ref (a + 1), .ref (a + 2), .int (nI nT), .int (nI nS), .ref (a + 3), .ref (a + 4)])), ((a + 3), .inl (κ 0, 120, .inl F)), (q, .inr (1, [.int (nI kd), .int (nI sp), .ref (q + 1), .ref (q + 2), .ref (q + 3), .int (nI 0), .int (nI 0)])), ((q + 1), .inl (κ 0, 26, .inl G))] → va_S A s.heap H locs → 26 - i < fu → ∀ ls : Array Slot, lv_has ls 7 [(0, .ref a), (1, .ref q), (2, .int (nI t)), (3, .int (nI n)), (4, .int (nI b)), (5, .int (nI pl)), (6, .int (nI i))] → W p l e (headSpec wP_giveOrders ({ frames := 1, cells := 0, slots := 0, locals := 28 })).room s m ([.ref a, .ref q, .int (nI t)] : List Value).toArray below meth c H locs 0 0 (MQ below (q_W (fun v H => ∃ F G : Nat → Int32, Pst D A s.heap none [(a, .inr (2, [.long sd, .ref (a + 1), .ref (a + 2), .int (nI nT), .int (nI nS), .ref (a + 3), .ref (a + 4)])), ((a + 3), .inl (κ 0, 120, .inl F)), (q, .inr (1, [.int (nI kd), .int (nI sp), .ref (q + 1), .ref (q + 2), .ref (q + 3), .int (nI 0), .int (nI 0)])), ((q + 1), .inl (κ 0, 26, .inl G))] v H ∧ ∀ i, i < 26 → G i = nI (ordv n sd t i))) ([.ref a, .ref q, .int (nI t)] : List Value).toArray s 0 0 A) (F0 m 22 ls []) := by
    intro fu
    induction fu with
    | zero =>
      intro i b pl F G H locs hi hpl hib hbb hF hG hP hD hS hmu
      exact absurd hmu (Nat.not_lt_zero _)
    | succ fu ih =>
      intro i b pl F G H locs hi hpl hib hbb hF hG hP hD hS hmu ls hl
      refine lv_iload hx hb dP_giveOrders_22 (lv_at hl 6 rfl) ?_
      refine lv_bipush (v := nI 26) hx hb dP_giveOrders_24 (by decide) ?_
      refine x_cge (a := i) (b := 26) (tgt := 72) hx hb dP_giveOrders_26 (by decide) (by omega) (by omega) (fun g1 => ?_) (fun g1 => ?_)
      · exact W.vret hx hb hr (fun t9 ht9 hW9 => ⟨none, rfl, by rw [ht9]; exact ⟨F, G, ⟨rfl, hP, hD, hS.1, hS.2.1⟩, fun x hx => hG x (by omega)⟩⟩) hS.2.2 dP_giveOrders_72
      · refine lv_iload hx hb dP_giveOrders_29 (lv_at hl 5 rfl) ?_
        refine lv_iload_n hx hb dP_giveOrders_31 rfl (lv_at hl 3 rfl) ?_
        refine x_clt (a := pl) (b := n) (tgt := 49) hx hb dP_giveOrders_32 (by decide) (by omega) (by omega) (fun g2 => ?_) (fun g2 => ?_)
        · have hi0 : i = b * n + pl := hib
          refine lv_aload_n hx hb dP_giveOrders_49 rfl (lv_at hl 1 rfl) ?_
          refine va_getN (D := D) (ci := 1) (v := .ref (q + 1)) (C := RS) (T := FS) (N := 7) hx hb hT inS hown hK hP 2 rfl rfl 2 (by decide) (va_Nw.use rfl (kN64 hE.2.1)) (fun _ h9 => h9) rfl dP_giveOrders_50 ?_
          refine lv_iload hx hb dP_giveOrders_53 (lv_at hl 6 rfl) ?_
          refine lv_aload_n hx hb dP_giveOrders_55 rfl (lv_at hl 0 rfl) ?_
          refine va_get (D := D) (ci := 2) (v := .ref (a + 3)) (C := RP) (T := FP) (N := 7) hx hb hT inP hown hK hP 0 rfl rfl 5 (by decide) (hT _ kP21) (fun _ h9 => h9) rfl dP_giveOrders_56 ?_
          refine lv_iload hx hb dP_giveOrders_59 (lv_at hl 5 rfl) ?_
          refine x_iald hx hb hK hP 1 0 (j := pl) (v := F pl) rfl rfl (by omega) (by decide) (rfl) dP_giveOrders_61 ?_
          refine x_iast hx hb hK hP hD hS 3 0 (j := i) rfl rfl (by omega) (by decide) dP_giveOrders_62 (fun H locs hP hD hS => ?_)
          have hP : va_P D vwCl [(a, .inr (2, [.long sd, .ref (a + 1), .ref (a + 2), .int (nI nT), .int (nI nS), .ref (a + 3), .ref (a + 4)])), ((a + 3), .inl (κ 0, 120, .inl F)), (q, .inr (1, [.int (nI kd), .int (nI sp), .ref (q + 1), .ref (q + 2), .ref (q + 3), .int (nI 0), .int (nI 0)])), ((q + 1), .inl (κ 0, 26, .inl (upd G i (F pl))))] H := hP
          have hD : va_D A [(a, .inr (2, [.long sd, .ref (a + 1), .ref (a + 2), .int (nI nT), .int (nI nS), .ref (a + 3), .ref (a + 4)])), ((a + 3), .inl (κ 0, 120, .inl F)), (q, .inr (1, [.int (nI kd), .int (nI sp), .ref (q + 1), .ref (q + 2), .ref (q + 3), .int (nI 0), .int (nI 0)])), ((q + 1), .inl (κ 0, 26, .inl (upd G i (F pl))))] := hD
          refine lv_iinc (v := nI (pl + 1)) (lv' := [(5, .int (nI (pl + 1))), (0, .ref a), (1, .ref q), (2, .int (nI t)), (3, .int (nI n)), (4, .int (nI b)), (6, .int (nI i))]) hx hb dP_giveOrders_63 hl (k := 5) rfl (nI_add _ _) (by decide) rfl (fun ls hl => ?_)
          refine lv_iinc (v := nI (i + 1)) (lv' := [(6, .int (nI (i + 1))), (5, .int (nI (pl + 1))), (0, .ref a), (1, .ref q), (2, .int (nI t)), (3, .int (nI n)), (4, .int (nI b))]) hx hb dP_giveOrders_66 hl (k := 6) rfl (nI_add _ _) (by decide) rfl (fun ls hl => ?_)
          refine lv_goto (tgt := 22) hx hb dP_giveOrders_69 (by decide) ?_
          exact ih (i + 1) b (pl + 1) F (upd G i (F pl)) _ _ (by omega) (by omega) (by omega) (by omega) hF (ord_nx (b := b) (pl := pl) hG (by have := hi0; omega) (by omega) (hF _ (by omega))) hP hD hS (by omega) ls (lv_sub hl [2, 3, 4, 5, 6, 1, 0] rfl)
        · have e1 : pl = n := by omega
          have e2 : (b + 1) * n = b * n + n := by rw [Nat.add_mul, Nat.one_mul]
          have hi0 : i = (b + 1) * n + 0 := by omega
          have e3 : b + 1 ≤ (b + 1) * n := Nat.le_mul_of_pos_right _ (by omega)
          refine lv_iinc (v := nI (b + 1)) (lv' := [(4, .int (nI (b + 1))), (0, .ref a), (1, .ref q), (2, .int (nI t)), (3, .int (nI n)), (5, .int (nI pl)), (6, .int (nI i))]) hx hb dP_giveOrders_35 hl (k := 4) rfl (nI_add _ _) (by decide) rfl (fun ls hl => ?_)
          refine lv_iconst (v := nI 0) hx hb dP_giveOrders_38 (by decide) ?_
          refine lv_istore (lv' := [(5, .int (nI 0)), (4, .int (nI (b + 1))), (0, .ref a), (1, .ref q), (2, .int (nI t)), (3, .int (nI n)), (6, .int (nI i))]) hx hb dP_giveOrders_39 hl (by decide) rfl (fun ls hl => ?_)
          refine lv_aload_n hx hb dP_giveOrders_41 rfl (lv_at hl 2 rfl) ?_
          refine lv_iload_n hx hb dP_giveOrders_42 rfl (lv_at hl 5 rfl) ?_
          refine lv_iload_n hx hb dP_giveOrders_43 rfl (lv_at hl 4 rfl) ?_
          refine lv_iload hx hb dP_giveOrders_44 (lv_at hl 1 rfl) ?_
          have hFc := va_free (wc := [(a, .inr (2, [.long sd, .ref (a + 1), .ref (a + 2), .int (nI nT), .int (nI nS), .ref (a + 3), .ref (a + 4)])), ((a + 3), .inl (κ 0, 120, .inl F))]) hD hS hA [0, 1] rfl
          have hPc := hP.sub (ws' := [(a, .inr (2, [.long sd, .ref (a + 1), .ref (a + 2), .int (nI nT), .int (nI nS), .ref (a + 3), .ref (a + 4)])), ((a + 3), .inl (κ 0, 120, .inl F))]) [0, 1] rfl
          have hDc := (hD.sub (ws' := [(a, .inr (2, [.long sd, .ref (a + 1), .ref (a + 2), .int (nI nT), .int (nI nS), .ref (a + 3), .ref (a + 4)])), ((a + 3), .inl (κ 0, 120, .inl F))]) [0, 1] (by decide) rfl).weaken (fun _ _ _ h => hAb _ h)
          have hbc : base ≤ H.size := Nat.le_trans hbs hS.1
          refine x_callW (va_runV (As := [.int (nI n), .int (nI t), .int (nI (b + 1))]) (rest := []) ⟨hx, hb, hml, hown, hT⟩ (c_P_mixOrders l D κ base H n t (b + 1) hn1.1 hn1.2 ht (by omega) hPc hDc hbc) (cwV 3 hT (TT_V kP163 kiP_mixOrders ksP_mixOrders knP kcP_mixOrders) rfl rfl rfl (by decide +kernel) ⟨Nat.le_of_ble_eq_true rfl, Nat.le_of_ble_eq_true rfl⟩) (pcV hE hS hAb (va_recv hK hP (ci := 2) (q0 := 0) rfl rfl)) rfl rfl hl.1 rfl (lv_room (Nat.le_of_ble_eq_true rfl)) dP_giveOrders_46 ⟨Nat.le_of_ble_eq_true rfl, Nat.le_of_ble_eq_true rfl⟩) hS (fun q h => hFc q h) (fun v H1 h => by obtain ⟨F9, h9, -⟩ := h; exact Pst.fr hFc h9) (fun v H locs hpost hS => ?_)
          obtain ⟨F2, ⟨rfl, hP1, hD1, hz1, hk1⟩, hF2⟩ := hpost
          obtain ⟨hP, hD⟩ := va_join (wr := [(q, .inr (1, [.int (nI kd), .int (nI sp), .ref (q + 1), .ref (q + 2), .ref (q + 3), .int (nI 0), .int (nI 0)])), ((q + 1), .inl (κ 0, 26, .inl G))]) (w1 := [(a, .inr (2, [.long sd, .ref (a + 1), .ref (a + 2), .int (nI nT), .int (nI nS), .ref (a + 3), .ref (a + 4)])), ((a + 3), .inl (κ 0, 120, .inl F2))]) hP hD [0, 1] [2, 3] rfl rfl (by decide) (by decide) hk1 hFc hP1 hD1
          have hP : va_P D vwCl [(q, .inr (1, [.int (nI kd), .int (nI sp), .ref (q + 1), .ref (q + 2), .ref (q + 3), .int (nI 0), .int (nI 0)])), ((q + 1), .inl (κ 0, 26, .inl G)), (a, .inr (2, [.long sd, .ref (a + 1), .ref (a + 2), .int (nI nT), .int (nI nS), .ref (a + 3), .ref (a + 4)])), ((a + 3), .inl (κ 0, 120, .inl F2))] H := hP
          have hD : va_D A [(q, .inr (1, [.int (nI kd), .int (nI sp), .ref (q + 1), .ref (q + 2), .ref (q + 3), .int (nI 0), .int (nI 0)])), ((q + 1), .inl (κ 0, 26, .inl G)), (a, .inr (2, [.long sd, .ref (a + 1), .ref (a + 2), .int (nI nT), .int (nI nS), .ref (a + 3), .ref (a + 4)])), ((a + 3), .inl (κ 0, 120, .inl F2))] := hD
          refine W.eq (g2 := F0 m 49 ls []) rfl ?_
          have hP := hP.sub (ws' := [(a, .inr (2, [.long sd, .ref (a + 1), .ref (a + 2), .int (nI nT), .int (nI nS), .ref (a + 3), .ref (a + 4)])), ((a + 3), .inl (κ 0, 120, .inl F2)), (q, .inr (1, [.int (nI kd), .int (nI sp), .ref (q + 1), .ref (q + 2), .ref (q + 3), .int (nI 0), .int (nI 0)])), ((q + 1), .inl (κ 0, 26, .inl G))]) [2, 3, 0, 1] rfl
          have hD := hD.sub (ws' := [(a, .inr (2, [.long sd, .ref (a + 1), .ref (a + 2), .int (nI nT), .int (nI nS), .ref (a + 3), .ref (a + 4)])), ((a + 3), .inl (κ 0, 120, .inl F2)), (q, .inr (1, [.int (nI kd), .int (nI sp), .ref (q + 1), .ref (q + 2), .ref (q + 3), .int (nI 0), .int (nI 0)])), ((q + 1), .inl (κ 0, 26, .inl G))]) [2, 3, 0, 1] (by decide) rfl
          refine lv_aload_n hx hb dP_giveOrders_49 rfl (lv_at hl 3 rfl) ?_
          refine va_getN (D := D) (ci := 1) (v := .ref (q + 1)) (C := RS) (T := FS) (N := 7) hx hb hT inS hown hK hP 2 rfl rfl 2 (by decide) (va_Nw.use rfl (kN64 hE.2.1)) (fun _ h9 => h9) rfl dP_giveOrders_50 ?_
          refine lv_iload hx hb dP_giveOrders_53 (lv_at hl 6 rfl) ?_
          refine lv_aload_n hx hb dP_giveOrders_55 rfl (lv_at hl 2 rfl) ?_
          refine va_get (D := D) (ci := 2) (v := .ref (a + 3)) (C := RP) (T := FP) (N := 7) hx hb hT inP hown hK hP 0 rfl rfl 5 (by decide) (hT _ kP21) (fun _ h9 => h9) rfl dP_giveOrders_56 ?_
          refine lv_iload hx hb dP_giveOrders_59 (lv_at hl 0 rfl) ?_
          refine x_iald hx hb hK hP 1 0 (j := 0) (v := F2 0) rfl rfl (by omega) (by decide) (rfl) dP_giveOrders_61 ?_
          refine x_iast hx hb hK hP hD hS 3 0 (j := i) rfl rfl (by omega) (by decide) dP_giveOrders_62 (fun H locs hP hD hS => ?_)
          have hP : va_P D vwCl [(a, .inr (2, [.long sd, .ref (a + 1), .ref (a + 2), .int (nI nT), .int (nI nS), .ref (a + 3), .ref (a + 4)])), ((a + 3), .inl (κ 0, 120, .inl F2)), (q, .inr (1, [.int (nI kd), .int (nI sp), .ref (q + 1), .ref (q + 2), .ref (q + 3), .int (nI 0), .int (nI 0)])), ((q + 1), .inl (κ 0, 26, .inl (upd G i (F2 0))))] H := hP
          have hD : va_D A [(a, .inr (2, [.long sd, .ref (a + 1), .ref (a + 2), .int (nI nT), .int (nI nS), .ref (a + 3), .ref (a + 4)])), ((a + 3), .inl (κ 0, 120, .inl F2)), (q, .inr (1, [.int (nI kd), .int (nI sp), .ref (q + 1), .ref (q + 2), .ref (q + 3), .int (nI 0), .int (nI 0)])), ((q + 1), .inl (κ 0, 26, .inl (upd G i (F2 0))))] := hD
          refine lv_iinc (v := nI (0 + 1)) (lv' := [(5, .int (nI (0 + 1))), (4, .int (nI (b + 1))), (0, .ref a), (1, .ref q), (2, .int (nI t)), (3, .int (nI n)), (6, .int (nI i))]) hx hb dP_giveOrders_63 hl (k := 0) rfl (nI_add _ _) (by decide) rfl (fun ls hl => ?_)
          refine lv_iinc (v := nI (i + 1)) (lv' := [(6, .int (nI (i + 1))), (5, .int (nI (0 + 1))), (4, .int (nI (b + 1))), (0, .ref a), (1, .ref q), (2, .int (nI t)), (3, .int (nI n))]) hx hb dP_giveOrders_66 hl (k := 6) rfl (nI_add _ _) (by decide) rfl (fun ls hl => ?_)
          refine lv_goto (tgt := 22) hx hb dP_giveOrders_69 (by decide) ?_
          exact ih (i + 1) (b + 1) (0 + 1) F2 (upd G i (F2 0)) _ _ (by omega) (by omega) (by omega) (by omega) hF2 (ord_nx (b := b + 1) (pl := 0) hG (by have := hi0; omega) (by omega) (hF2 _ (by omega))) hP hD hS (by omega) ls (lv_sub hl [3, 4, 5, 6, 2, 1, 0] rfl)
  refine lv_aload_n hx hb dP_giveOrders_0 rfl (lv_at hl 1 rfl) ?_
  refine x_callP (v := .int (nI (cntO kd sp))) (va_runS (As := [.ref q]) (rest := []) ⟨hx, hb, hml, hown, hT⟩ (c_P_orderCount l D κ base s.heap (hP.sub [2] rfl) hsp.1 hsp.2.2) (va_cwS 1 hT (TT_S kP160 ktP_orderCount knP kcP_orderCount) rfl rfl rfl (by decide +kernel) ⟨Nat.le_of_ble_eq_true rfl, Nat.le_of_ble_eq_true rfl⟩) (pcS hE hS hAb) rfl rfl hl.1 rfl (lv_room (Nat.le_of_ble_eq_true rfl)) dP_giveOrders_1 ⟨Nat.le_of_ble_eq_true rfl, Nat.le_of_ble_eq_true rfl⟩) ?_
  refine x_topn (b := n) (hn.symm) ?_
  refine lv_istore_n (lv' := [(3, .int (nI n)), (0, .ref a), (1, .ref q), (2, .int (nI t))]) hx hb dP_giveOrders_4 rfl hl (by decide) rfl (fun ls hl => ?_)
  refine lv_iconst (v := nI 0) hx hb dP_giveOrders_5 (by decide) ?_
  refine lv_istore (lv' := [(4, .int (nI 0)), (3, .int (nI n)), (0, .ref a), (1, .ref q), (2, .int (nI t))]) hx hb dP_giveOrders_6 hl (by decide) rfl (fun ls hl => ?_)
  refine lv_iconst (v := nI 0) hx hb dP_giveOrders_8 (by decide) ?_
  refine lv_istore (lv' := [(5, .int (nI 0)), (4, .int (nI 0)), (3, .int (nI n)), (0, .ref a), (1, .ref q), (2, .int (nI t))]) hx hb dP_giveOrders_9 hl (by decide) rfl (fun ls hl => ?_)
  refine lv_aload_n hx hb dP_giveOrders_11 rfl (lv_at hl 3 rfl) ?_
  refine lv_iload_n hx hb dP_giveOrders_12 rfl (lv_at hl 2 rfl) ?_
  refine lv_iload_n hx hb dP_giveOrders_13 rfl (lv_at hl 5 rfl) ?_
  refine lv_iload hx hb dP_giveOrders_14 (lv_at hl 1 rfl) ?_
  have hFc := va_free (wc := [(a, .inr (2, [.long sd, .ref (a + 1), .ref (a + 2), .int (nI nT), .int (nI nS), .ref (a + 3), .ref (a + 4)])), ((a + 3), .inl (κ 0, 120, .inl Fz))]) hD hS hA [0, 1] rfl
  have hPc := hP.sub (ws' := [(a, .inr (2, [.long sd, .ref (a + 1), .ref (a + 2), .int (nI nT), .int (nI nS), .ref (a + 3), .ref (a + 4)])), ((a + 3), .inl (κ 0, 120, .inl Fz))]) [0, 1] rfl
  have hDc := (hD.sub (ws' := [(a, .inr (2, [.long sd, .ref (a + 1), .ref (a + 2), .int (nI nT), .int (nI nS), .ref (a + 3), .ref (a + 4)])), ((a + 3), .inl (κ 0, 120, .inl Fz))]) [0, 1] (by decide) rfl).weaken (fun _ _ _ h => hAb _ h)
  have hbc : base ≤ s.heap.size := Nat.le_trans hbs hS.1
  refine x_callW (va_runV (As := [.int (nI n), .int (nI t), .int (nI 0)]) (rest := []) ⟨hx, hb, hml, hown, hT⟩ (c_P_mixOrders l D κ base s.heap n t (0) hn1.1 hn1.2 ht (by omega) hPc hDc hbc) (cwV 3 hT (TT_V kP163 kiP_mixOrders ksP_mixOrders knP kcP_mixOrders) rfl rfl rfl (by decide +kernel) ⟨Nat.le_of_ble_eq_true rfl, Nat.le_of_ble_eq_true rfl⟩) (pcV hE hS hAb (va_recv hK hP (ci := 2) (q0 := 0) rfl rfl)) rfl rfl hl.1 rfl (lv_room (Nat.le_of_ble_eq_true rfl)) dP_giveOrders_16 ⟨Nat.le_of_ble_eq_true rfl, Nat.le_of_ble_eq_true rfl⟩) hS (fun q h => hFc q h) (fun v H1 h => by obtain ⟨F9, h9, -⟩ := h; exact Pst.fr hFc h9) (fun v H locs hpost hS => ?_)
  obtain ⟨F2, ⟨rfl, hP1, hD1, hz1, hk1⟩, hF2⟩ := hpost
  obtain ⟨hP, hD⟩ := va_join (wr := [(q, .inr (1, [.int (nI kd), .int (nI sp), .ref (q + 1), .ref (q + 2), .ref (q + 3), .int (nI 0), .int (nI 0)])), ((q + 1), .inl (κ 0, 26, .inl Gz))]) (w1 := [(a, .inr (2, [.long sd, .ref (a + 1), .ref (a + 2), .int (nI nT), .int (nI nS), .ref (a + 3), .ref (a + 4)])), ((a + 3), .inl (κ 0, 120, .inl F2))]) hP hD [0, 1] [2, 3] rfl rfl (by decide) (by decide) hk1 hFc hP1 hD1
  have hP : va_P D vwCl [(q, .inr (1, [.int (nI kd), .int (nI sp), .ref (q + 1), .ref (q + 2), .ref (q + 3), .int (nI 0), .int (nI 0)])), ((q + 1), .inl (κ 0, 26, .inl Gz)), (a, .inr (2, [.long sd, .ref (a + 1), .ref (a + 2), .int (nI nT), .int (nI nS), .ref (a + 3), .ref (a + 4)])), ((a + 3), .inl (κ 0, 120, .inl F2))] H := hP
  have hD : va_D A [(q, .inr (1, [.int (nI kd), .int (nI sp), .ref (q + 1), .ref (q + 2), .ref (q + 3), .int (nI 0), .int (nI 0)])), ((q + 1), .inl (κ 0, 26, .inl Gz)), (a, .inr (2, [.long sd, .ref (a + 1), .ref (a + 2), .int (nI nT), .int (nI nS), .ref (a + 3), .ref (a + 4)])), ((a + 3), .inl (κ 0, 120, .inl F2))] := hD
  refine W.eq (g2 := F0 m 19 ls []) rfl ?_
  have hP := hP.sub (ws' := [(a, .inr (2, [.long sd, .ref (a + 1), .ref (a + 2), .int (nI nT), .int (nI nS), .ref (a + 3), .ref (a + 4)])), ((a + 3), .inl (κ 0, 120, .inl F2)), (q, .inr (1, [.int (nI kd), .int (nI sp), .ref (q + 1), .ref (q + 2), .ref (q + 3), .int (nI 0), .int (nI 0)])), ((q + 1), .inl (κ 0, 26, .inl Gz))]) [2, 3, 0, 1] rfl
  have hD := hD.sub (ws' := [(a, .inr (2, [.long sd, .ref (a + 1), .ref (a + 2), .int (nI nT), .int (nI nS), .ref (a + 3), .ref (a + 4)])), ((a + 3), .inl (κ 0, 120, .inl F2)), (q, .inr (1, [.int (nI kd), .int (nI sp), .ref (q + 1), .ref (q + 2), .ref (q + 3), .int (nI 0), .int (nI 0)])), ((q + 1), .inl (κ 0, 26, .inl Gz))]) [2, 3, 0, 1] (by decide) rfl
  refine lv_iconst (v := nI 0) hx hb dP_giveOrders_19 (by decide) ?_
  refine lv_istore (lv' := [(6, .int (nI 0)), (5, .int (nI 0)), (4, .int (nI 0)), (3, .int (nI n)), (0, .ref a), (1, .ref q), (2, .int (nI t))]) hx hb dP_giveOrders_20 hl (by decide) rfl (fun ls hl => ?_)
  exact loop 27 0 0 0 F2 Gz _ _ (by omega) (by omega) (by omega) (by omega) hF2 (fun x hx => absurd hx (Nat.not_lt_zero _)) hP hD hS (by omega) ls (lv_sub hl [4, 5, 6, 3, 2, 1, 0] rfl)
