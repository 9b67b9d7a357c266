/-! the model: constructor, private methods that use its rows -/
theorem va_Sm {A Z : Nat → Prop} {H0 H : Heap} {locs : List Loc} (h : va_S A H0 H locs) (hAZ : ∀ q, A q → Z q) : va_S Z H0 H locs := ⟨h.1, fun q h1 h2 => h.2.1 q h1 (fun z => h2 (hAZ q z)), fun l hl => hAZ _ (h.2.2 l hl)⟩
theorem rgt_eq0 : ∀ o, o < 6 → tRIGHT.getD (fstN 0 + o) 0 = rgtN 0 o := by decide
theorem rgt_eq1 : ∀ o, o < 2 → tRIGHT.getD (fstN 1 + o) 0 = rgtN 1 o := by decide
theorem rgt_eq2 : ∀ o, o < 4 → tRIGHT.getD (fstN 2 + o) 0 = rgtN 2 o := by decide
theorem rgt_eq {k o : Nat} (hk : k < 3) (ho : o < cntO k 0) : tRIGHT.getD (fstN k + o) 0 = rgtN k o ∧ fstN k + o < 12 := by
  rcases (show k = 0 ∨ k = 1 ∨ k = 2 by omega) with rfl | rfl | rfl
  · have h : o < 6 := ho
    exact ⟨rgt_eq0 o h, by show 0 + o < 12; omega⟩
  · have h : o < 2 := ho
    exact ⟨rgt_eq1 o h, by show 6 + o < 12; omega⟩
  · have h : o < 4 := ho
    exact ⟨rgt_eq2 o h, by show 8 + o < 12; omega⟩
/-- the right place for taster pp in test t -/
def rgV (sd : Int64) (k n t pp : Nat) : Nat := rgtN k (ordv (cntO k n) sd t pp)
def cnR (ma : Nat → Nat) (rg : Nat → Nat) (t : Nat) : Nat → Nat
  | 0 => 0
  | p + 1 => cnR ma rg t p + (if 0 < ma (26 * t + p) ∧ ma (26 * t + p) = 1 + rg p then 1 else 0)
theorem cnR_le (ma rg : Nat → Nat) (t : Nat) : ∀ p, cnR ma rg t p ≤ p
  | 0 => Nat.le_refl 0
  | p + 1 => by
    have := cnR_le ma rg t p
    unfold cnR
    split <;> omega
def pG (c : Nat) : Nat → Nat → Nat
  | 0 => fun x => if x = 0 then 1 else 0
  | t + 1 => fun x => pG c t x * (c - 1) + (if 0 < x then pG c t (x - 1) else 0)
def atS (g : Nat → Nat) (r : Nat) : Nat → Nat
  | 0 => 0
  | k + 1 => atS g r k + g (r + k)
def atl (n r c : Nat) : Nat := atS (pG c n) r (n + 1 - r)
theorem pg_put {S : Nat → Int64} {g g2 : Nat → Nat} {y n : Nat} (hS : ∀ x, x ≤ n → S x = lN (if y + 1 ≤ x then g2 x else g x)) : ∀ x, x ≤ n → vp_updL S y (lN (g2 y)) x = lN (if y ≤ x then g2 x else g x) := by
  intro x hx
  by_cases h : x = y
  · subst h
    simp [vp_updL]
  · simp only [vp_updL, if_neg h]
    rw [hS x hx]
    by_cases h1 : y + 1 ≤ x
    · rw [if_pos h1, if_pos (by omega)]
    · rw [if_neg h1, if_neg (by omega)]
theorem pg_0 {S : Nat → Int64} {c k v : Nat} (h : ∀ x, x < k → S x = lN (pG c 0 x)) (hv : v = pG c 0 k) : ∀ x, x < k + 1 → vp_updL S k (lN v) x = lN (pG c 0 x) := by
  intro x hx
  by_cases e : x = k
  · simp [vp_updL, e, hv]
  · simp only [vp_updL, if_neg e]
    exact h x (by omega)
set_option maxHeartbeats 400000 in
set_option maxRecDepth 100000 in
theorem c_M_init (l : Launch) (D : va_G) (κ : Nat → ClassId) (base : Nat) (H0 : Heap) {b : Nat} (sd : Int64) (hz : H0.size = (b + 1)) (hP : va_P D vwCl [(b, .inr (3, [.long (lN 0), .int (nI 0), .int (nI 0), .null, .null, .null, .null, .null, .null, .null, .null, .int (nI 0)]))] H0) (hD0 : va_D (fun q => base ≤ q) [(b, .inr (3, [.long (lN 0), .int (nI 0), .int (nI 0), .null, .null, .null, .null, .null, .null, .null, .null, .int (nI 0)]))]) (hbs : base ≤ H0.size)  : Met l yM_init wM_init ({ frames := 1, cells := 8, slots := 7136, locals := 12 }) (Pq D κ base [.ref b, .long sd] H0) (q_W (fun v H => Pst D (va_A [(b, .inr (3, [.long (lN 0), .int (nI 0), .int (nI 0), .null, .null, .null, .null, .null, .null, .null, .null, .int (nI 0)]))] H0.size) H0 none [(b, .inr (3, [.long sd, .int (nI 0), .int (nI 0), .ref (b + 1), .ref (b + 2), .ref (b + 3), .ref (b + 4), .ref (b + 5), .ref (b + 6), .ref (b + 7), .ref (b + 8), .int (nI 0)])), ((b + 1), .inl (κ 0, 40, .inl (fun _ => nI 0))), ((b + 2), .inl (κ 0, 40, .inl (fun _ => nI 0))), ((b + 3), .inl (κ 0, 1040, .inl (fun _ => nI 0))), ((b + 4), .inl (κ 0, 5200, .inl (fun _ => nI 0))), ((b + 5), .inl (κ 0, 416, .inl (fun _ => nI 0))), ((b + 6), .inl (κ 0, 120, .inl (fun _ => nI 0))), ((b + 7), .inl (κ 2, 140, .inr (.inl (fun _ => lN 0)))), ((b + 8), .inl (κ 2, 140, .inr (.inl (fun _ => lN 0))))] v H ∧ H.size = b + 9)) 8 7136 (va_A [(b, .inr (3, [.long (lN 0), .int (nI 0), .int (nI 0), .null, .null, .null, .null, .null, .null, .null, .null, .int (nI 0)]))] H0.size) := by
  refine Met.ofW (cc := bM_init) (maxL := 3) (ret := none) (by decide) rfl ?_
  intro p e s m args below meth c s₁ B hml hv
  obtain ⟨rfl, hH, hE⟩ := hv
  subst hH
  have hx := B.exec
  have hb := B.bytes
  have hr := B.returns
  have hT : ∀ w ∈ TT, w.before _ s = true := fun w h => atoms_spec (ws := wM_init) B.pre w (List.mem_cons_of_mem _ h)
  have hown : s.vm.findClass "TasterPanelsModel" = some m.cls := findClass_of_methodNamed B.named
  have hlocks := B.notSynchronized
  have hin : meth.name = "<init>" := (name_of_methodNamed B.named B.method).1
  have hK := hE.1
  have hD := hD0.self (sz := s.heap.size)
  have hAb : ∀ x9, va_A [(b, .inr (3, [.long (lN 0), .int (nI 0), .int (nI 0), .null, .null, .null, .null, .null, .null, .null, .null, .int (nI 0)]))] s.heap.size x9 → base ≤ x9 := fun x9 h => by rcases h with ⟨k, e, h⟩ | h; exact hD0.2 k _ h; exact Nat.le_trans hbs h
  generalize hAe : va_A [(b, .inr (3, [.long (lN 0), .int (nI 0), .int (nI 0), .null, .null, .null, .null, .null, .null, .null, .null, .int (nI 0)]))] s.heap.size = A at hD hAb ⊢
  have hA : ∀ x9, s.heap.size ≤ x9 → A x9 := fun x9 h => by rw [← hAe]; exact Or.inr h
  have hS : va_S A s.heap s.heap [] := va_S.rf
  have hl := lv_entry ([.ref b, .long sd]) (n := 3) (Nat.le_of_ble_eq_true rfl)
  rw [lg_entry_eq]
  generalize (lg_sl ([.ref b, .long sd]) ++ List.replicate (3 - (lg_sl ([.ref b, .long sd])).length) Slot.unset).toArray = ls at hl ⊢
  have hl : lv_has ls 3 [(0, .ref b), (1, .long sd)] := hl
  refine lv_aload_n hx hb dM_init_0 rfl (lv_at hl 0 rfl) ?_
  refine W.objInit hx hb hown (hT _ kM1) (hT _ ki_obj) (hT _ kc_obj') rfl (by rw [hml]; exact hl.1) rfl dM_init_1 (Nat.le_of_ble_eq_true rfl) (Nat.le_of_ble_eq_true rfl) ?_
  refine W.eq (g2 := F0 m 4 ls []) rfl ?_
  refine lv_aload_n hx hb dM_init_4 rfl (lv_at hl 0 rfl) ?_
  refine lv_bipush (v := nI 40) hx hb dM_init_5 (by decide) ?_
  refine x_newa (atype := .int) (a0 := (40, .inl (fun _ => nI 0))) hx hb (hT _ ka_int) rfl (fun C h => by cases h) hK hP hD hS hA 0 rfl (fun _ => rfl) (by decide) (by decide) (Nat.le_of_ble_eq_true rfl) (Nat.le_of_ble_eq_true rfl) hz dM_init_7 (fun H hP hD hS hz => ?_)
  have hP : va_P D vwCl [(b, .inr (3, [.long (lN 0), .int (nI 0), .int (nI 0), .null, .null, .null, .null, .null, .null, .null, .null, .int (nI 0)])), ((b + 1), .inl (κ 0, 40, .inl (fun _ => nI 0)))] H := hP
  have hD : va_D A [(b, .inr (3, [.long (lN 0), .int (nI 0), .int (nI 0), .null, .null, .null, .null, .null, .null, .null, .null, .int (nI 0)])), ((b + 1), .inl (κ 0, 40, .inl (fun _ => nI 0)))] := hD
  refine x_putF (D := D) (ci := 3) (v := .ref (b + 1)) (ty := .array .int) (C := RM) (T := FM) (N := 12) hx hb hT inM tyM tyM_ok nmM hown hK hP hD hS 0 rfl rfl 3 (by decide) (hT _ kM9) (fun _ h9 => h9) rfl hin rfl (by decide +kernel) rfl rfl (Nat.le_of_ble_eq_true rfl) dM_init_9 (fun H locs hP hD hS hz9 => ?_)
  rw [hz] at hz9
  have hz := hz9
  have hP : va_P D vwCl [(b, .inr (3, [.long (lN 0), .int (nI 0), .int (nI 0), .ref (b + 1), .null, .null, .null, .null, .null, .null, .null, .int (nI 0)])), ((b + 1), .inl (κ 0, 40, .inl (fun _ => nI 0)))] H := hP
  have hD : va_D A [(b, .inr (3, [.long (lN 0), .int (nI 0), .int (nI 0), .ref (b + 1), .null, .null, .null, .null, .null, .null, .null, .int (nI 0)])), ((b + 1), .inl (κ 0, 40, .inl (fun _ => nI 0)))] := hD
  refine lv_aload_n hx hb dM_init_12 rfl (lv_at hl 0 rfl) ?_
  refine lv_bipush (v := nI 40) hx hb dM_init_13 (by decide) ?_
  refine x_newa (atype := .int) (a0 := (40, .inl (fun _ => nI 0))) hx hb (hT _ ka_int) rfl (fun C h => by cases h) hK hP hD hS hA 0 rfl (fun _ => rfl) (by decide) (by decide) (Nat.le_of_ble_eq_true rfl) (Nat.le_of_ble_eq_true rfl) hz dM_init_15 (fun H hP hD hS hz => ?_)
  have hP : va_P D vwCl [(b, .inr (3, [.long (lN 0), .int (nI 0), .int (nI 0), .ref (b + 1), .null, .null, .null, .null, .null, .null, .null, .int (nI 0)])), ((b + 1), .inl (κ 0, 40, .inl (fun _ => nI 0))), ((b + 2), .inl (κ 0, 40, .inl (fun _ => nI 0)))] H := hP
  have hD : va_D A [(b, .inr (3, [.long (lN 0), .int (nI 0), .int (nI 0), .ref (b + 1), .null, .null, .null, .null, .null, .null, .null, .int (nI 0)])), ((b + 1), .inl (κ 0, 40, .inl (fun _ => nI 0))), ((b + 2), .inl (κ 0, 40, .inl (fun _ => nI 0)))] := hD
  refine x_putF (D := D) (ci := 3) (v := .ref (b + 2)) (ty := .array .int) (C := RM) (T := FM) (N := 12) hx hb hT inM tyM tyM_ok nmM hown hK hP hD hS 0 rfl rfl 4 (by decide) (hT _ kM13) (fun _ h9 => h9) rfl hin rfl (by decide +kernel) rfl rfl (Nat.le_of_ble_eq_true rfl) dM_init_17 (fun H locs hP hD hS hz9 => ?_)
  rw [hz] at hz9
  have hz := hz9
  have hP : va_P D vwCl [(b, .inr (3, [.long (lN 0), .int (nI 0), .int (nI 0), .ref (b + 1), .ref (b + 2), .null, .null, .null, .null, .null, .null, .int (nI 0)])), ((b + 1), .inl (κ 0, 40, .inl (fun _ => nI 0))), ((b + 2), .inl (κ 0, 40, .inl (fun _ => nI 0)))] H := hP
  have hD : va_D A [(b, .inr (3, [.long (lN 0), .int (nI 0), .int (nI 0), .ref (b + 1), .ref (b + 2), .null, .null, .null, .null, .null, .null, .int (nI 0)])), ((b + 1), .inl (κ 0, 40, .inl (fun _ => nI 0))), ((b + 2), .inl (κ 0, 40, .inl (fun _ => nI 0)))] := hD
  refine lv_aload_n hx hb dM_init_20 rfl (lv_at hl 0 rfl) ?_
  refine lv_sipush (v := nI 1040) hx hb dM_init_21 (by decide) ?_
  refine x_newa (atype := .int) (a0 := (1040, .inl (fun _ => nI 0))) hx hb (hT _ ka_int) rfl (fun C h => by cases h) hK hP hD hS hA 0 rfl (fun _ => rfl) (by decide) (by decide) (Nat.le_of_ble_eq_true rfl) (Nat.le_of_ble_eq_true rfl) hz dM_init_24 (fun H hP hD hS hz => ?_)
  have hP : va_P D vwCl [(b, .inr (3, [.long (lN 0), .int (nI 0), .int (nI 0), .ref (b + 1), .ref (b + 2), .null, .null, .null, .null, .null, .null, .int (nI 0)])), ((b + 1), .inl (κ 0, 40, .inl (fun _ => nI 0))), ((b + 2), .inl (κ 0, 40, .inl (fun _ => nI 0))), ((b + 3), .inl (κ 0, 1040, .inl (fun _ => nI 0)))] H := hP
  have hD : va_D A [(b, .inr (3, [.long (lN 0), .int (nI 0), .int (nI 0), .ref (b + 1), .ref (b + 2), .null, .null, .null, .null, .null, .null, .int (nI 0)])), ((b + 1), .inl (κ 0, 40, .inl (fun _ => nI 0))), ((b + 2), .inl (κ 0, 40, .inl (fun _ => nI 0))), ((b + 3), .inl (κ 0, 1040, .inl (fun _ => nI 0)))] := hD
  refine x_putF (D := D) (ci := 3) (v := .ref (b + 3)) (ty := .array .int) (C := RM) (T := FM) (N := 12) hx hb hT inM tyM tyM_ok nmM hown hK hP hD hS 0 rfl rfl 5 (by decide) (hT _ kM16) (fun _ h9 => h9) rfl hin rfl (by decide +kernel) rfl rfl (Nat.le_of_ble_eq_true rfl) dM_init_26 (fun H locs hP hD hS hz9 => ?_)
  rw [hz] at hz9
  have hz := hz9
  have hP : va_P D vwCl [(b, .inr (3, [.long (lN 0), .int (nI 0), .int (nI 0), .ref (b + 1), .ref (b + 2), .ref (b + 3), .null, .null, .null, .null, .null, .int (nI 0)])), ((b + 1), .inl (κ 0, 40, .inl (fun _ => nI 0))), ((b + 2), .inl (κ 0, 40, .inl (fun _ => nI 0))), ((b + 3), .inl (κ 0, 1040, .inl (fun _ => nI 0)))] H := hP
  have hD : va_D A [(b, .inr (3, [.long (lN 0), .int (nI 0), .int (nI 0), .ref (b + 1), .ref (b + 2), .ref (b + 3), .null, .null, .null, .null, .null, .int (nI 0)])), ((b + 1), .inl (κ 0, 40, .inl (fun _ => nI 0))), ((b + 2), .inl (κ 0, 40, .inl (fun _ => nI 0))), ((b + 3), .inl (κ 0, 1040, .inl (fun _ => nI 0)))] := hD
  refine lv_aload_n hx hb dM_init_29 rfl (lv_at hl 0 rfl) ?_
  refine lv_sipush (v := nI 5200) hx hb dM_init_30 (by decide) ?_
  refine x_newa (atype := .int) (a0 := (5200, .inl (fun _ => nI 0))) hx hb (hT _ ka_int) rfl (fun C h => by cases h) hK hP hD hS hA 0 rfl (fun _ => rfl) (by decide) (by decide) (Nat.le_of_ble_eq_true rfl) (Nat.le_of_ble_eq_true rfl) hz dM_init_33 (fun H hP hD hS hz => ?_)
  have hP : va_P D vwCl [(b, .inr (3, [.long (lN 0), .int (nI 0), .int (nI 0), .ref (b + 1), .ref (b + 2), .ref (b + 3), .null, .null, .null, .null, .null, .int (nI 0)])), ((b + 1), .inl (κ 0, 40, .inl (fun _ => nI 0))), ((b + 2), .inl (κ 0, 40, .inl (fun _ => nI 0))), ((b + 3), .inl (κ 0, 1040, .inl (fun _ => nI 0))), ((b + 4), .inl (κ 0, 5200, .inl (fun _ => nI 0)))] H := hP
  have hD : va_D A [(b, .inr (3, [.long (lN 0), .int (nI 0), .int (nI 0), .ref (b + 1), .ref (b + 2), .ref (b + 3), .null, .null, .null, .null, .null, .int (nI 0)])), ((b + 1), .inl (κ 0, 40, .inl (fun _ => nI 0))), ((b + 2), .inl (κ 0, 40, .inl (fun _ => nI 0))), ((b + 3), .inl (κ 0, 1040, .inl (fun _ => nI 0))), ((b + 4), .inl (κ 0, 5200, .inl (fun _ => nI 0)))] := hD
  refine x_putF (D := D) (ci := 3) (v := .ref (b + 4)) (ty := .array .int) (C := RM) (T := FM) (N := 12) hx hb hT inM tyM tyM_ok nmM hown hK hP hD hS 0 rfl rfl 6 (by decide) (hT _ kM19) (fun _ h9 => h9) rfl hin rfl (by decide +kernel) rfl rfl (Nat.le_of_ble_eq_true rfl) dM_init_35 (fun H locs hP hD hS hz9 => ?_)
  rw [hz] at hz9
  have hz := hz9
  have hP : va_P D vwCl [(b, .inr (3, [.long (lN 0), .int (nI 0), .int (nI 0), .ref (b + 1), .ref (b + 2), .ref (b + 3), .ref (b + 4), .null, .null, .null, .null, .int (nI 0)])), ((b + 1), .inl (κ 0, 40, .inl (fun _ => nI 0))), ((b + 2), .inl (κ 0, 40, .inl (fun _ => nI 0))), ((b + 3), .inl (κ 0, 1040, .inl (fun _ => nI 0))), ((b + 4), .inl (κ 0, 5200, .inl (fun _ => nI 0)))] H := hP
  have hD : va_D A [(b, .inr (3, [.long (lN 0), .int (nI 0), .int (nI 0), .ref (b + 1), .ref (b + 2), .ref (b + 3), .ref (b + 4), .null, .null, .null, .null, .int (nI 0)])), ((b + 1), .inl (κ 0, 40, .inl (fun _ => nI 0))), ((b + 2), .inl (κ 0, 40, .inl (fun _ => nI 0))), ((b + 3), .inl (κ 0, 1040, .inl (fun _ => nI 0))), ((b + 4), .inl (κ 0, 5200, .inl (fun _ => nI 0)))] := hD
  refine lv_aload_n hx hb dM_init_38 rfl (lv_at hl 0 rfl) ?_
  refine lv_sipush (v := nI 416) hx hb dM_init_39 (by decide) ?_
  refine x_newa (atype := .int) (a0 := (416, .inl (fun _ => nI 0))) hx hb (hT _ ka_int) rfl (fun C h => by cases h) hK hP hD hS hA 0 rfl (fun _ => rfl) (by decide) (by decide) (Nat.le_of_ble_eq_true rfl) (Nat.le_of_ble_eq_true rfl) hz dM_init_42 (fun H hP hD hS hz => ?_)
  have hP : va_P D vwCl [(b, .inr (3, [.long (lN 0), .int (nI 0), .int (nI 0), .ref (b + 1), .ref (b + 2), .ref (b + 3), .ref (b + 4), .null, .null, .null, .null, .int (nI 0)])), ((b + 1), .inl (κ 0, 40, .inl (fun _ => nI 0))), ((b + 2), .inl (κ 0, 40, .inl (fun _ => nI 0))), ((b + 3), .inl (κ 0, 1040, .inl (fun _ => nI 0))), ((b + 4), .inl (κ 0, 5200, .inl (fun _ => nI 0))), ((b + 5), .inl (κ 0, 416, .inl (fun _ => nI 0)))] H := hP
  have hD : va_D A [(b, .inr (3, [.long (lN 0), .int (nI 0), .int (nI 0), .ref (b + 1), .ref (b + 2), .ref (b + 3), .ref (b + 4), .null, .null, .null, .null, .int (nI 0)])), ((b + 1), .inl (κ 0, 40, .inl (fun _ => nI 0))), ((b + 2), .inl (κ 0, 40, .inl (fun _ => nI 0))), ((b + 3), .inl (κ 0, 1040, .inl (fun _ => nI 0))), ((b + 4), .inl (κ 0, 5200, .inl (fun _ => nI 0))), ((b + 5), .inl (κ 0, 416, .inl (fun _ => nI 0)))] := hD
  refine x_putF (D := D) (ci := 3) (v := .ref (b + 5)) (ty := .array .int) (C := RM) (T := FM) (N := 12) hx hb hT inM tyM tyM_ok nmM hown hK hP hD hS 0 rfl rfl 7 (by decide) (hT _ kM22) (fun _ h9 => h9) rfl hin rfl (by decide +kernel) rfl rfl (Nat.le_of_ble_eq_true rfl) dM_init_44 (fun H locs hP hD hS hz9 => ?_)
  rw [hz] at hz9
  have hz := hz9
  have hP : va_P D vwCl [(b, .inr (3, [.long (lN 0), .int (nI 0), .int (nI 0), .ref (b + 1), .ref (b + 2), .ref (b + 3), .ref (b + 4), .ref (b + 5), .null, .null, .null, .int (nI 0)])), ((b + 1), .inl (κ 0, 40, .inl (fun _ => nI 0))), ((b + 2), .inl (κ 0, 40, .inl (fun _ => nI 0))), ((b + 3), .inl (κ 0, 1040, .inl (fun _ => nI 0))), ((b + 4), .inl (κ 0, 5200, .inl (fun _ => nI 0))), ((b + 5), .inl (κ 0, 416, .inl (fun _ => nI 0)))] H := hP
  have hD : va_D A [(b, .inr (3, [.long (lN 0), .int (nI 0), .int (nI 0), .ref (b + 1), .ref (b + 2), .ref (b + 3), .ref (b + 4), .ref (b + 5), .null, .null, .null, .int (nI 0)])), ((b + 1), .inl (κ 0, 40, .inl (fun _ => nI 0))), ((b + 2), .inl (κ 0, 40, .inl (fun _ => nI 0))), ((b + 3), .inl (κ 0, 1040, .inl (fun _ => nI 0))), ((b + 4), .inl (κ 0, 5200, .inl (fun _ => nI 0))), ((b + 5), .inl (κ 0, 416, .inl (fun _ => nI 0)))] := hD
  refine lv_aload_n hx hb dM_init_47 rfl (lv_at hl 0 rfl) ?_
  refine lv_bipush (v := nI 120) hx hb dM_init_48 (by decide) ?_
  refine x_newa (atype := .int) (a0 := (120, .inl (fun _ => nI 0))) hx hb (hT _ ka_int) rfl (fun C h => by cases h) hK hP hD hS hA 0 rfl (fun _ => rfl) (by decide) (by decide) (Nat.le_of_ble_eq_true rfl) (Nat.le_of_ble_eq_true rfl) hz dM_init_50 (fun H hP hD hS hz => ?_)
  have hP : va_P D vwCl [(b, .inr (3, [.long (lN 0), .int (nI 0), .int (nI 0), .ref (b + 1), .ref (b + 2), .ref (b + 3), .ref (b + 4), .ref (b + 5), .null, .null, .null, .int (nI 0)])), ((b + 1), .inl (κ 0, 40, .inl (fun _ => nI 0))), ((b + 2), .inl (κ 0, 40, .inl (fun _ => nI 0))), ((b + 3), .inl (κ 0, 1040, .inl (fun _ => nI 0))), ((b + 4), .inl (κ 0, 5200, .inl (fun _ => nI 0))), ((b + 5), .inl (κ 0, 416, .inl (fun _ => nI 0))), ((b + 6), .inl (κ 0, 120, .inl (fun _ => nI 0)))] H := hP
  have hD : va_D A [(b, .inr (3, [.long (lN 0), .int (nI 0), .int (nI 0), .ref (b + 1), .ref (b + 2), .ref (b + 3), .ref (b + 4), .ref (b + 5), .null, .null, .null, .int (nI 0)])), ((b + 1), .inl (κ 0, 40, .inl (fun _ => nI 0))), ((b + 2), .inl (κ 0, 40, .inl (fun _ => nI 0))), ((b + 3), .inl (κ 0, 1040, .inl (fun _ => nI 0))), ((b + 4), .inl (κ 0, 5200, .inl (fun _ => nI 0))), ((b + 5), .inl (κ 0, 416, .inl (fun _ => nI 0))), ((b + 6), .inl (κ 0, 120, .inl (fun _ => nI 0)))] := hD
  refine x_putF (D := D) (ci := 3) (v := .ref (b + 6)) (ty := .array .int) (C := RM) (T := FM) (N := 12) hx hb hT inM tyM tyM_ok nmM hown hK hP hD hS 0 rfl rfl 8 (by decide) (hT _ kM25) (fun _ h9 => h9) rfl hin rfl (by decide +kernel) rfl rfl (Nat.le_of_ble_eq_true rfl) dM_init_52 (fun H locs hP hD hS hz9 => ?_)
  rw [hz] at hz9
  have hz := hz9
  have hP : va_P D vwCl [(b, .inr (3, [.long (lN 0), .int (nI 0), .int (nI 0), .ref (b + 1), .ref (b + 2), .ref (b + 3), .ref (b + 4), .ref (b + 5), .ref (b + 6), .null, .null, .int (nI 0)])), ((b + 1), .inl (κ 0, 40, .inl (fun _ => nI 0))), ((b + 2), .inl (κ 0, 40, .inl (fun _ => nI 0))), ((b + 3), .inl (κ 0, 1040, .inl (fun _ => nI 0))), ((b + 4), .inl (κ 0, 5200, .inl (fun _ => nI 0))), ((b + 5), .inl (κ 0, 416, .inl (fun _ => nI 0))), ((b + 6), .inl (κ 0, 120, .inl (fun _ => nI 0)))] H := hP
  have hD : va_D A [(b, .inr (3, [.long (lN 0), .int (nI 0), .int (nI 0), .ref (b + 1), .ref (b + 2), .ref (b + 3), .ref (b + 4), .ref (b + 5), .ref (b + 6), .null, .null, .int (nI 0)])), ((b + 1), .inl (κ 0, 40, .inl (fun _ => nI 0))), ((b + 2), .inl (κ 0, 40, .inl (fun _ => nI 0))), ((b + 3), .inl (κ 0, 1040, .inl (fun _ => nI 0))), ((b + 4), .inl (κ 0, 5200, .inl (fun _ => nI 0))), ((b + 5), .inl (κ 0, 416, .inl (fun _ => nI 0))), ((b + 6), .inl (κ 0, 120, .inl (fun _ => nI 0)))] := hD
  refine lv_aload_n hx hb dM_init_55 rfl (lv_at hl 0 rfl) ?_
  refine lv_sipush (v := nI 140) hx hb dM_init_56 (by decide) ?_
  refine x_newa (atype := .long) (a0 := (140, .inr (.inl (fun _ => lN 0)))) hx hb (hT _ ka_long) rfl (fun C h => by cases h) hK hP hD hS hA 2 rfl (fun _ => rfl) (by decide) (by decide) (Nat.le_of_ble_eq_true rfl) (Nat.le_of_ble_eq_true rfl) hz dM_init_59 (fun H hP hD hS hz => ?_)
  have hP : va_P D vwCl [(b, .inr (3, [.long (lN 0), .int (nI 0), .int (nI 0), .ref (b + 1), .ref (b + 2), .ref (b + 3), .ref (b + 4), .ref (b + 5), .ref (b + 6), .null, .null, .int (nI 0)])), ((b + 1), .inl (κ 0, 40, .inl (fun _ => nI 0))), ((b + 2), .inl (κ 0, 40, .inl (fun _ => nI 0))), ((b + 3), .inl (κ 0, 1040, .inl (fun _ => nI 0))), ((b + 4), .inl (κ 0, 5200, .inl (fun _ => nI 0))), ((b + 5), .inl (κ 0, 416, .inl (fun _ => nI 0))), ((b + 6), .inl (κ 0, 120, .inl (fun _ => nI 0))), ((b + 7), .inl (κ 2, 140, .inr (.inl (fun _ => lN 0))))] H := hP
  have hD : va_D A [(b, .inr (3, [.long (lN 0), .int (nI 0), .int (nI 0), .ref (b + 1), .ref (b + 2), .ref (b + 3), .ref (b + 4), .ref (b + 5), .ref (b + 6), .null, .null, .int (nI 0)])), ((b + 1), .inl (κ 0, 40, .inl (fun _ => nI 0))), ((b + 2), .inl (κ 0, 40, .inl (fun _ => nI 0))), ((b + 3), .inl (κ 0, 1040, .inl (fun _ => nI 0))), ((b + 4), .inl (κ 0, 5200, .inl (fun _ => nI 0))), ((b + 5), .inl (κ 0, 416, .inl (fun _ => nI 0))), ((b + 6), .inl (κ 0, 120, .inl (fun _ => nI 0))), ((b + 7), .inl (κ 2, 140, .inr (.inl (fun _ => lN 0))))] := hD
  refine x_putF (D := D) (ci := 3) (v := .ref (b + 7)) (ty := .array .long) (C := RM) (T := FM) (N := 12) hx hb hT inM tyM tyM_ok nmM hown hK hP hD hS 0 rfl rfl 9 (by decide) (hT _ kM28) (fun _ h9 => h9) rfl hin rfl (by decide +kernel) rfl rfl (Nat.le_of_ble_eq_true rfl) dM_init_61 (fun H locs hP hD hS hz9 => ?_)
  rw [hz] at hz9
  have hz := hz9
  have hP : va_P D vwCl [(b, .inr (3, [.long (lN 0), .int (nI 0), .int (nI 0), .ref (b + 1), .ref (b + 2), .ref (b + 3), .ref (b + 4), .ref (b + 5), .ref (b + 6), .ref (b + 7), .null, .int (nI 0)])), ((b + 1), .inl (κ 0, 40, .inl (fun _ => nI 0))), ((b + 2), .inl (κ 0, 40, .inl (fun _ => nI 0))), ((b + 3), .inl (κ 0, 1040, .inl (fun _ => nI 0))), ((b + 4), .inl (κ 0, 5200, .inl (fun _ => nI 0))), ((b + 5), .inl (κ 0, 416, .inl (fun _ => nI 0))), ((b + 6), .inl (κ 0, 120, .inl (fun _ => nI 0))), ((b + 7), .inl (κ 2, 140, .inr (.inl (fun _ => lN 0))))] H := hP
  have hD : va_D A [(b, .inr (3, [.long (lN 0), .int (nI 0), .int (nI 0), .ref (b + 1), .ref (b + 2), .ref (b + 3), .ref (b + 4), .ref (b + 5), .ref (b + 6), .ref (b + 7), .null, .int (nI 0)])), ((b + 1), .inl (κ 0, 40, .inl (fun _ => nI 0))), ((b + 2), .inl (κ 0, 40, .inl (fun _ => nI 0))), ((b + 3), .inl (κ 0, 1040, .inl (fun _ => nI 0))), ((b + 4), .inl (κ 0, 5200, .inl (fun _ => nI 0))), ((b + 5), .inl (κ 0, 416, .inl (fun _ => nI 0))), ((b + 6), .inl (κ 0, 120, .inl (fun _ => nI 0))), ((b + 7), .inl (κ 2, 140, .inr (.inl (fun _ => lN 0))))] := hD
  refine lv_aload_n hx hb dM_init_64 rfl (lv_at hl 0 rfl) ?_
  refine lv_sipush (v := nI 140) hx hb dM_init_65 (by decide) ?_
  refine x_newa (atype := .long) (a0 := (140, .inr (.inl (fun _ => lN 0)))) hx hb (hT _ ka_long) rfl (fun C h => by cases h) hK hP hD hS hA 2 rfl (fun _ => rfl) (by decide) (by decide) (Nat.le_of_ble_eq_true rfl) (Nat.le_of_ble_eq_true rfl) hz dM_init_68 (fun H hP hD hS hz => ?_)
  have hP : va_P D vwCl [(b, .inr (3, [.long (lN 0), .int (nI 0), .int (nI 0), .ref (b + 1), .ref (b + 2), .ref (b + 3), .ref (b + 4), .ref (b + 5), .ref (b + 6), .ref (b + 7), .null, .int (nI 0)])), ((b + 1), .inl (κ 0, 40, .inl (fun _ => nI 0))), ((b + 2), .inl (κ 0, 40, .inl (fun _ => nI 0))), ((b + 3), .inl (κ 0, 1040, .inl (fun _ => nI 0))), ((b + 4), .inl (κ 0, 5200, .inl (fun _ => nI 0))), ((b + 5), .inl (κ 0, 416, .inl (fun _ => nI 0))), ((b + 6), .inl (κ 0, 120, .inl (fun _ => nI 0))), ((b + 7), .inl (κ 2, 140, .inr (.inl (fun _ => lN 0)))), ((b + 8), .inl (κ 2, 140, .inr (.inl (fun _ => lN 0))))] H := hP
  have hD : va_D A [(b, .inr (3, [.long (lN 0), .int (nI 0), .int (nI 0), .ref (b + 1), .ref (b + 2), .ref (b + 3), .ref (b + 4), .ref (b + 5), .ref (b + 6), .ref (b + 7), .null, .int (nI 0)])), ((b + 1), .inl (κ 0, 40, .inl (fun _ => nI 0))), ((b + 2), .inl (κ 0, 40, .inl (fun _ => nI 0))), ((b + 3), .inl (κ 0, 1040, .inl (fun _ => nI 0))), ((b + 4), .inl (κ 0, 5200, .inl (fun _ => nI 0))), ((b + 5), .inl (κ 0, 416, .inl (fun _ => nI 0))), ((b + 6), .inl (κ 0, 120, .inl (fun _ => nI 0))), ((b + 7), .inl (κ 2, 140, .inr (.inl (fun _ => lN 0)))), ((b + 8), .inl (κ 2, 140, .inr (.inl (fun _ => lN 0))))] := hD
  refine x_putF (D := D) (ci := 3) (v := .ref (b + 8)) (ty := .array .long) (C := RM) (T := FM) (N := 12) hx hb hT inM tyM tyM_ok nmM hown hK hP hD hS 0 rfl rfl 10 (by decide) (hT _ kM32) (fun _ h9 => h9) rfl hin rfl (by decide +kernel) rfl rfl (Nat.le_of_ble_eq_true rfl) dM_init_70 (fun H locs hP hD hS hz9 => ?_)
  rw [hz] at hz9
  have hz := hz9
  have hP : va_P D vwCl [(b, .inr (3, [.long (lN 0), .int (nI 0), .int (nI 0), .ref (b + 1), .ref (b + 2), .ref (b + 3), .ref (b + 4), .ref (b + 5), .ref (b + 6), .ref (b + 7), .ref (b + 8), .int (nI 0)])), ((b + 1), .inl (κ 0, 40, .inl (fun _ => nI 0))), ((b + 2), .inl (κ 0, 40, .inl (fun _ => nI 0))), ((b + 3), .inl (κ 0, 1040, .inl (fun _ => nI 0))), ((b + 4), .inl (κ 0, 5200, .inl (fun _ => nI 0))), ((b + 5), .inl (κ 0, 416, .inl (fun _ => nI 0))), ((b + 6), .inl (κ 0, 120, .inl (fun _ => nI 0))), ((b + 7), .inl (κ 2, 140, .inr (.inl (fun _ => lN 0)))), ((b + 8), .inl (κ 2, 140, .inr (.inl (fun _ => lN 0))))] H := hP
  have hD : va_D A [(b, .inr (3, [.long (lN 0), .int (nI 0), .int (nI 0), .ref (b + 1), .ref (b + 2), .ref (b + 3), .ref (b + 4), .ref (b + 5), .ref (b + 6), .ref (b + 7), .ref (b + 8), .int (nI 0)])), ((b + 1), .inl (κ 0, 40, .inl (fun _ => nI 0))), ((b + 2), .inl (κ 0, 40, .inl (fun _ => nI 0))), ((b + 3), .inl (κ 0, 1040, .inl (fun _ => nI 0))), ((b + 4), .inl (κ 0, 5200, .inl (fun _ => nI 0))), ((b + 5), .inl (κ 0, 416, .inl (fun _ => nI 0))), ((b + 6), .inl (κ 0, 120, .inl (fun _ => nI 0))), ((b + 7), .inl (κ 2, 140, .inr (.inl (fun _ => lN 0)))), ((b + 8), .inl (κ 2, 140, .inr (.inl (fun _ => lN 0))))] := hD
  refine lv_aload_n hx hb dM_init_73 rfl (lv_at hl 0 rfl) ?_
  refine lv_lload_n hx hb dM_init_74 rfl (lv_at hl 1 rfl) ?_
  refine x_putF (D := D) (ci := 3) (v := .long sd) (ty := .long) (C := RM) (T := FM) (N := 12) hx hb hT inM tyM tyM_ok nmM hown hK hP hD hS 0 rfl rfl 0 (by decide) (hT _ kM35) (fun _ h9 => h9) rfl hin rfl (by decide +kernel) rfl rfl (Nat.le_of_ble_eq_true rfl) dM_init_75 (fun H locs hP hD hS hz9 => ?_)
  rw [hz] at hz9
  have hz := hz9
  have hP : va_P D vwCl [(b, .inr (3, [.long sd, .int (nI 0), .int (nI 0), .ref (b + 1), .ref (b + 2), .ref (b + 3), .ref (b + 4), .ref (b + 5), .ref (b + 6), .ref (b + 7), .ref (b + 8), .int (nI 0)])), ((b + 1), .inl (κ 0, 40, .inl (fun _ => nI 0))), ((b + 2), .inl (κ 0, 40, .inl (fun _ => nI 0))), ((b + 3), .inl (κ 0, 1040, .inl (fun _ => nI 0))), ((b + 4), .inl (κ 0, 5200, .inl (fun _ => nI 0))), ((b + 5), .inl (κ 0, 416, .inl (fun _ => nI 0))), ((b + 6), .inl (κ 0, 120, .inl (fun _ => nI 0))), ((b + 7), .inl (κ 2, 140, .inr (.inl (fun _ => lN 0)))), ((b + 8), .inl (κ 2, 140, .inr (.inl (fun _ => lN 0))))] H := hP
  have hD : va_D A [(b, .inr (3, [.long sd, .int (nI 0), .int (nI 0), .ref (b + 1), .ref (b + 2), .ref (b + 3), .ref (b + 4), .ref (b + 5), .ref (b + 6), .ref (b + 7), .ref (b + 8), .int (nI 0)])), ((b + 1), .inl (κ 0, 40, .inl (fun _ => nI 0))), ((b + 2), .inl (κ 0, 40, .inl (fun _ => nI 0))), ((b + 3), .inl (κ 0, 1040, .inl (fun _ => nI 0))), ((b + 4), .inl (κ 0, 5200, .inl (fun _ => nI 0))), ((b + 5), .inl (κ 0, 416, .inl (fun _ => nI 0))), ((b + 6), .inl (κ 0, 120, .inl (fun _ => nI 0))), ((b + 7), .inl (κ 2, 140, .inr (.inl (fun _ => lN 0)))), ((b + 8), .inl (κ 2, 140, .inr (.inl (fun _ => lN 0))))] := hD
  exact W.vret hx hb hr (fun t9 ht9 hW9 => ⟨none, rfl, by rw [ht9]; exact ⟨⟨rfl, hP, hD, hS.1, hS.2.1⟩, hz⟩⟩) hS.2.2 dM_init_78
set_option maxHeartbeats 400000 in
set_option maxRecDepth 100000 in
theorem c_M_orderOf (l : Launch) (D : va_G) (κ : Nat → ClassId) (base : Nat) (H0 : Heap) {b : Nat} {nT : Nat} {nS : Nat} {th : Nat} {sd : Int64} {mk : Nat → Nat} {ms : Nat → Nat} {Fz : Nat → Int32} (t pp n : Nat) (ht : t < 40) (hpp : pp < 26) (hok : okN (mk t) (ms t)) (hn : n = cntO (mk t) (ms t)) (hP : va_P D vwCl [(b, .inr (3, [.long sd, .int (nI nT), .int (nI nS), .ref (b + 1), .ref (b + 2), .ref (b + 3), .ref (b + 4), .ref (b + 5), .ref (b + 6), .ref (b + 7), .ref (b + 8), .int (nI th)])), ((b + 1), .inl (κ 0, 40, .inl (fun j => nI (mk j)))), ((b + 2), .inl (κ 0, 40, .inl (fun j => nI (ms j)))), ((b + 6), .inl (κ 0, 120, .inl Fz))] H0) (hD0 : va_D (fun q => base ≤ q) [(b, .inr (3, [.long sd, .int (nI nT), .int (nI nS), .ref (b + 1), .ref (b + 2), .ref (b + 3), .ref (b + 4), .ref (b + 5), .ref (b + 6), .ref (b + 7), .ref (b + 8), .int (nI th)])), ((b + 1), .inl (κ 0, 40, .inl (fun j => nI (mk j)))), ((b + 2), .inl (κ 0, 40, .inl (fun j => nI (ms j)))), ((b + 6), .inl (κ 0, 120, .inl Fz))]) (hbs : base ≤ H0.size)  : Met l yM_orderOf wM_orderOf ({ frames := 1, cells := 0, slots := 0, locals := 23 }) (Pq D κ base [.ref b, .int (nI t), .int (nI pp)] H0) (q_W (fun v H => ∃ F : Nat → Int32, Pst D (va_A [(b, .inr (3, [.long sd, .int (nI nT), .int (nI nS), .ref (b + 1), .ref (b + 2), .ref (b + 3), .ref (b + 4), .ref (b + 5), .ref (b + 6), .ref (b + 7), .ref (b + 8), .int (nI th)])), ((b + 1), .inl (κ 0, 40, .inl (fun j => nI (mk j)))), ((b + 2), .inl (κ 0, 40, .inl (fun j => nI (ms j)))), ((b + 6), .inl (κ 0, 120, .inl Fz))] H0.size) H0 (some (.int (nI (ordv (cntO (mk t) (ms t)) sd t pp)))) [(b, .inr (3, [.long sd, .int (nI nT), .int (nI nS), .ref (b + 1), .ref (b + 2), .ref (b + 3), .ref (b + 4), .ref (b + 5), .ref (b + 6), .ref (b + 7), .ref (b + 8), .int (nI th)])), ((b + 1), .inl (κ 0, 40, .inl (fun j => nI (mk j)))), ((b + 2), .inl (κ 0, 40, .inl (fun j => nI (ms j)))), ((b + 6), .inl (κ 0, 120, .inl F))] v H)) 0 0 (va_A [(b, .inr (3, [.long sd, .int (nI nT), .int (nI nS), .ref (b + 1), .ref (b + 2), .ref (b + 3), .ref (b + 4), .ref (b + 5), .ref (b + 6), .ref (b + 7), .ref (b + 8), .int (nI th)])), ((b + 1), .inl (κ 0, 40, .inl (fun j => nI (mk j)))), ((b + 2), .inl (κ 0, 40, .inl (fun j => nI (ms j)))), ((b + 6), .inl (κ 0, 120, .inl Fz))] H0.size) := by
  refine Met.ofW (cc := bM_orderOf) (maxL := 10) (ret := (some FieldType.int)) (by decide) rfl ?_
  intro p e s m args below meth c s₁ B hml hv
  obtain ⟨rfl, hH, hE⟩ := hv
  subst hH
  have hx := B.exec
  have hb := B.bytes
  have hr := B.returns
  have hT : ∀ w ∈ TT, w.before _ s = true := fun w h => atoms_spec (ws := wM_orderOf) B.pre w (List.mem_cons_of_mem _ h)
  have hown : s.vm.findClass "TasterPanelsModel" = some m.cls := findClass_of_methodNamed B.named
  have hlocks := B.notSynchronized
  have hK := hE.1
  have hD := hD0.self (sz := s.heap.size)
  have hAb : ∀ x9, va_A [(b, .inr (3, [.long sd, .int (nI nT), .int (nI nS), .ref (b + 1), .ref (b + 2), .ref (b + 3), .ref (b + 4), .ref (b + 5), .ref (b + 6), .ref (b + 7), .ref (b + 8), .int (nI th)])), ((b + 1), .inl (κ 0, 40, .inl (fun j => nI (mk j)))), ((b + 2), .inl (κ 0, 40, .inl (fun j => nI (ms j)))), ((b + 6), .inl (κ 0, 120, .inl Fz))] s.heap.size x9 → base ≤ x9 := fun x9 h => by rcases h with ⟨k, e, h⟩ | h; exact hD0.2 k _ h; exact Nat.le_trans hbs h
  generalize hAe : va_A [(b, .inr (3, [.long sd, .int (nI nT), .int (nI nS), .ref (b + 1), .ref (b + 2), .ref (b + 3), .ref (b + 4), .ref (b + 5), .ref (b + 6), .ref (b + 7), .ref (b + 8), .int (nI th)])), ((b + 1), .inl (κ 0, 40, .inl (fun j => nI (mk j)))), ((b + 2), .inl (κ 0, 40, .inl (fun j => nI (ms j)))), ((b + 6), .inl (κ 0, 120, .inl Fz))] s.heap.size = A at hD hAb ⊢
  have hA : ∀ x9, s.heap.size ≤ x9 → A x9 := fun x9 h => by rw [← hAe]; exact Or.inr h
  have hS : va_S A s.heap s.heap [] := va_S.rf
  have hl := lv_entry ([.ref b, .int (nI t), .int (nI pp)]) (n := 10) (Nat.le_of_ble_eq_true rfl)
  rw [lg_entry_eq]
  generalize (lg_sl ([.ref b, .int (nI t), .int (nI pp)]) ++ List.replicate (10 - (lg_sl ([.ref b, .int (nI t), .int (nI pp)])).length) Slot.unset).toArray = ls at hl ⊢
  have hl : lv_has ls 10 [(0, .ref b), (1, .int (nI t)), (2, .int (nI pp))] := hl
  have hn9 : 1 ≤ n ∧ n ≤ 120 := by rw [hn]; exact cntO_le hok
  have hdv : pp / n ≤ pp := Nat.div_le_self _ _
  have hmd : pp % n < n := Nat.mod_lt _ (by omega)
  have loop2 : ∀ (fu : Nat) (x : Nat) (hh : Int64) (f : Nat → Nat) (F : Nat → Int32) (H : Heap) (locs : List Loc), (x < n) → (∀ k, k < n → F k = nI (f k)) → (mixF x hh f = mixR n sd t (pp / n)) → va_P D vwCl [(b, .inr (3, [.long sd, .int (nI nT), .int (nI nS), .ref (b + 1), .ref (b + 2), .ref (b + 3), .ref (b + 4), .ref (b + 5), .ref (b + 6), .ref (b + 7), .ref (b + 8), .int (nI th)])), ((b + 1), .inl (κ 0, 40, .inl (fun j => nI (mk j)))), ((b + 2), .inl (κ 0, 40, .inl (fun j => nI (ms j)))), ((b + 6), .inl (κ 0, 120, .inl F))] H → va_D A [(b, .inr (3, [.long sd, .int (nI nT), .int (nI nS), .ref (b + 1), .ref (b + 2), .ref (b + 3), .ref (b + 4), .ref (b + 5), .ref (b + 6), .ref (b + 7), .ref (b + 8), .int (nI th)])), ((b + 1), .inl (κ 0, 40, .inl (fun j => nI (mk j)))), ((b + 2), .inl (κ 0, 40, .inl (fun j => nI (ms j)))), ((b + 6), .inl (κ 0, 120, .inl F))] → va_S A s.heap H locs → x < fu → ∀ ls : Array Slot, lv_has ls 10 [(0, .ref b), (1, .int (nI t)), (2, .int (nI pp)), (3, .int (nI n)), (5, .long hh), (7, .int (nI x))] → W p l e (headSpec wM_orderOf ({ frames := 1, cells := 0, slots := 0, locals := 23 })).room s m ([.ref b, .int (nI t), .int (nI pp)] : List Value).toArray below meth c H locs 0 0 (MQ below (q_W (fun v H => ∃ F : Nat → Int32, Pst D A s.heap (some (.int (nI (ordv (cntO (mk t) (ms t)) sd t pp)))) [(b, .inr (3, [.long sd, .int (nI nT), .int (nI nS), .ref (b + 1), .ref (b + 2), .ref (b + 3), .ref (b + 4), .ref (b + 5), .ref (b + 6), .ref (b + 7), .ref (b + 8), .int (nI th)])), ((b + 1), .inl (κ 0, 40, .inl (fun j => nI (mk j)))), ((b + 2), .inl (κ 0, 40, .inl (fun j => nI (ms j)))), ((b + 6), .inl (κ 0, 120, .inl F))] v H)) ([.ref b, .int (nI t), .int (nI pp)] : List Value).toArray s 0 0 A) (F0 m 61 ls []) := by
    intro fu
    induction fu with
    | zero =>
      intro x hh f F H locs hx1 hF heq hP hD hS hmu
      exact absurd hmu (Nat.not_lt_zero _)
    | succ fu ih =>
      intro x hh f F H locs hx1 hF heq hP hD hS hmu ls hl
      refine lv_iload hx hb dM_orderOf_61 (lv_at hl 5 rfl) ?_
      refine x_zle (a := x) (tgt := 130) hx hb dM_orderOf_63 (by decide) (by omega) (fun h1 => ?_) (fun h1 => ?_)
      · refine lv_aload_n hx hb dM_orderOf_130 rfl (lv_at hl 0 rfl) ?_
        refine va_get (D := D) (ci := 3) (v := .ref (b + 6)) (C := RM) (T := FM) (N := 12) hx hb hT inM hown hK hP 0 rfl rfl 8 (by decide) (hT _ kM25) (fun _ h9 => h9) rfl dM_orderOf_131 ?_
        refine lv_iload_n hx hb dM_orderOf_134 rfl (lv_at hl 2 rfl) ?_
        refine lv_iload_n hx hb dM_orderOf_135 rfl (lv_at hl 3 rfl) ?_
        refine x_irem (v := nI (pp % n)) hx hb dM_orderOf_136 (nI_ne0 (by omega) (by omega)) (pk_rem (by omega) (by omega) (by omega)) ?_
        refine x_iald hx hb hK hP 3 0 (j := pp % n) (v := F (pp % n)) rfl rfl (by omega) (by decide) (rfl) dM_orderOf_137 ?_
        refine x_topi (y := nI (ordv (cntO (mk t) (ms t)) sd t pp)) (by rw [← hn, hF _ hmd, ordv, ← heq, show x = 0 by omega]; rfl) ?_
        exact W.iret (v := nI (ordv (cntO (mk t) (ms t)) sd t pp)) hx hb hr (fun t9 ht9 hW9 => ⟨some (.int (nI (ordv (cntO (mk t) (ms t)) sd t pp))), rfl, by rw [ht9]; exact ⟨F, rfl, hP, hD, hS.1, hS.2.1⟩⟩) hS.2.2 dM_orderOf_138
      · obtain ⟨y, rfl⟩ : ∃ y, x = y + 1 := ⟨x - 1, by omega⟩
        refine lv_lload hx hb dM_orderOf_66 (lv_at hl 4 rfl) ?_
        refine lv_ldc2 (v := 6364136223846793005) hx hb hown (hT _ kM57) dM_orderOf_68 ?_
        refine x_lmul (v := hh * 6364136223846793005) hx hb dM_orderOf_71 (rfl) ?_
        refine lv_ldc2 (v := 1442695040888963407) hx hb hown (hT _ kM59) dM_orderOf_72 ?_
        refine x_ladd (v := (hh * 6364136223846793005) + 1442695040888963407) hx hb dM_orderOf_75 (rfl) ?_
        refine x_topl (y := lcg hh) (rfl) ?_
        have hz33 := z33 (lcg hh)
        refine lv_lstore (lv' := [(5, .long (lcg hh)), (0, .ref b), (1, .int (nI t)), (2, .int (nI pp)), (3, .int (nI n)), (7, .int (nI (y + 1)))]) hx hb dM_orderOf_76 hl (by decide) rfl (fun ls hl => ?_)
        refine lv_lload hx hb dM_orderOf_78 (lv_at hl 0 rfl) ?_
        refine lv_bipush (v := nI 33) hx hb dM_orderOf_80 (by decide) ?_
        refine lv_lushr (v := lN ((lcg hh).toUInt64.toNat / 2 ^ 33)) hx hb dM_orderOf_82 (ushr33 _) ?_
        refine lv_iload hx hb dM_orderOf_83 (lv_at hl 5 rfl) ?_
        refine lv_iconst (v := nI 1) hx hb dM_orderOf_85 (by decide) ?_
        refine x_iadd (v := nI ((y + 1) + 1)) hx hb dM_orderOf_86 (nI_add _ _) ?_
        refine lv_i2l (v := lN ((y + 1) + 1)) hx hb dM_orderOf_87 (nI_l (by omega)) ?_
        refine x_lrem (v := lN (((lcg hh).toUInt64.toNat / 2 ^ 33) % ((y + 1) + 1))) hx hb dM_orderOf_88 (lN_ne0 (by omega) (by omega)) (pk_lRem (by omega) (by omega) (by omega)) ?_
        refine lv_l2i (v := nI (((lcg hh).toUInt64.toNat / 2 ^ 33) % ((y + 1) + 1))) hx hb dM_orderOf_89 (lN_i _) ?_
        refine x_topn (b := oth (lcg hh) (y + 1)) (rfl) ?_
        have ho : oth (lcg hh) (y + 1) < y + 1 + 1 := Nat.mod_lt _ (by omega)
        refine lv_istore (lv' := [(8, .int (nI (oth (lcg hh) (y + 1)))), (5, .long (lcg hh)), (0, .ref b), (1, .int (nI t)), (2, .int (nI pp)), (3, .int (nI n)), (7, .int (nI (y + 1)))]) hx hb dM_orderOf_90 hl (by decide) rfl (fun ls hl => ?_)
        refine lv_aload_n hx hb dM_orderOf_92 rfl (lv_at hl 2 rfl) ?_
        refine va_get (D := D) (ci := 3) (v := .ref (b + 6)) (C := RM) (T := FM) (N := 12) hx hb hT inM hown hK hP 0 rfl rfl 8 (by decide) (hT _ kM25) (fun _ h9 => h9) rfl dM_orderOf_93 ?_
        refine lv_iload hx hb dM_orderOf_96 (lv_at hl 6 rfl) ?_
        refine x_iald hx hb hK hP 3 0 (j := y + 1) (v := F (y + 1)) rfl rfl (by omega) (by decide) (rfl) dM_orderOf_98 ?_
        refine lv_istore (lv' := [(9, .int (F (y + 1))), (8, .int (nI (oth (lcg hh) (y + 1)))), (5, .long (lcg hh)), (0, .ref b), (1, .int (nI t)), (2, .int (nI pp)), (3, .int (nI n)), (7, .int (nI (y + 1)))]) hx hb dM_orderOf_99 hl (by decide) rfl (fun ls hl => ?_)
        refine lv_aload_n hx hb dM_orderOf_101 rfl (lv_at hl 3 rfl) ?_
        refine va_get (D := D) (ci := 3) (v := .ref (b + 6)) (C := RM) (T := FM) (N := 12) hx hb hT inM hown hK hP 0 rfl rfl 8 (by decide) (hT _ kM25) (fun _ h9 => h9) rfl dM_orderOf_102 ?_
        refine lv_iload hx hb dM_orderOf_105 (lv_at hl 7 rfl) ?_
        refine lv_aload_n hx hb dM_orderOf_107 rfl (lv_at hl 3 rfl) ?_
        refine va_get (D := D) (ci := 3) (v := .ref (b + 6)) (C := RM) (T := FM) (N := 12) hx hb hT inM hown hK hP 0 rfl rfl 8 (by decide) (hT _ kM25) (fun _ h9 => h9) rfl dM_orderOf_108 ?_
        refine lv_iload hx hb dM_orderOf_111 (lv_at hl 1 rfl) ?_
        refine x_iald hx hb hK hP 3 0 (j := oth (lcg hh) (y + 1)) (v := F (oth (lcg hh) (y + 1))) rfl rfl (by omega) (by decide) (rfl) dM_orderOf_113 ?_
        refine x_iast hx hb hK hP hD hS 3 0 (j := y + 1) rfl rfl (by omega) (by decide) dM_orderOf_114 (fun H locs hP hD hS => ?_)
        have hP : va_P D vwCl [(b, .inr (3, [.long sd, .int (nI nT), .int (nI nS), .ref (b + 1), .ref (b + 2), .ref (b + 3), .ref (b + 4), .ref (b + 5), .ref (b + 6), .ref (b + 7), .ref (b + 8), .int (nI th)])), ((b + 1), .inl (κ 0, 40, .inl (fun j => nI (mk j)))), ((b + 2), .inl (κ 0, 40, .inl (fun j => nI (ms j)))), ((b + 6), .inl (κ 0, 120, .inl (upd F (y + 1) (F (oth (lcg hh) (y + 1))))))] H := hP
        have hD : va_D A [(b, .inr (3, [.long sd, .int (nI nT), .int (nI nS), .ref (b + 1), .ref (b + 2), .ref (b + 3), .ref (b + 4), .ref (b + 5), .ref (b + 6), .ref (b + 7), .ref (b + 8), .int (nI th)])), ((b + 1), .inl (κ 0, 40, .inl (fun j => nI (mk j)))), ((b + 2), .inl (κ 0, 40, .inl (fun j => nI (ms j)))), ((b + 6), .inl (κ 0, 120, .inl (upd F (y + 1) (F (oth (lcg hh) (y + 1))))))] := hD
        refine lv_aload_n hx hb dM_orderOf_115 rfl (lv_at hl 3 rfl) ?_
        refine va_get (D := D) (ci := 3) (v := .ref (b + 6)) (C := RM) (T := FM) (N := 12) hx hb hT inM hown hK hP 0 rfl rfl 8 (by decide) (hT _ kM25) (fun _ h9 => h9) rfl dM_orderOf_116 ?_
        refine lv_iload hx hb dM_orderOf_119 (lv_at hl 1 rfl) ?_
        refine lv_iload hx hb dM_orderOf_121 (lv_at hl 0 rfl) ?_
        refine x_iast hx hb hK hP hD hS 3 0 (j := oth (lcg hh) (y + 1)) rfl rfl (by omega) (by decide) dM_orderOf_123 (fun H locs hP hD hS => ?_)
        have hP : va_P D vwCl [(b, .inr (3, [.long sd, .int (nI nT), .int (nI nS), .ref (b + 1), .ref (b + 2), .ref (b + 3), .ref (b + 4), .ref (b + 5), .ref (b + 6), .ref (b + 7), .ref (b + 8), .int (nI th)])), ((b + 1), .inl (κ 0, 40, .inl (fun j => nI (mk j)))), ((b + 2), .inl (κ 0, 40, .inl (fun j => nI (ms j)))), ((b + 6), .inl (κ 0, 120, .inl (upd (upd F (y + 1) (F (oth (lcg hh) (y + 1)))) (oth (lcg hh) (y + 1)) (F (y + 1)))))] H := hP
        have hD : va_D A [(b, .inr (3, [.long sd, .int (nI nT), .int (nI nS), .ref (b + 1), .ref (b + 2), .ref (b + 3), .ref (b + 4), .ref (b + 5), .ref (b + 6), .ref (b + 7), .ref (b + 8), .int (nI th)])), ((b + 1), .inl (κ 0, 40, .inl (fun j => nI (mk j)))), ((b + 2), .inl (κ 0, 40, .inl (fun j => nI (ms j)))), ((b + 6), .inl (κ 0, 120, .inl (upd (upd F (y + 1) (F (oth (lcg hh) (y + 1)))) (oth (lcg hh) (y + 1)) (F (y + 1)))))] := hD
        refine lv_iinc (v := nI y) (lv' := [(7, .int (nI y)), (9, .int (F (y + 1))), (8, .int (nI (oth (lcg hh) (y + 1)))), (5, .long (lcg hh)), (0, .ref b), (1, .int (nI t)), (2, .int (nI pp)), (3, .int (nI n))]) hx hb dM_orderOf_124 hl (k := 7) rfl (pk_m1 _) (by decide) rfl (fun ls hl => ?_)
        refine lv_goto (tgt := 61) hx hb dM_orderOf_127 (by decide) ?_
        exact ih y (lcg hh) (swp f (y + 1) (oth (lcg hh) (y + 1))) _ _ _ (by omega) (swp_F hF (by omega) (by omega)) heq hP hD hS (by omega) ls (lv_sub hl [4, 5, 6, 7, 3, 0] rfl)
  have loop1 : ∀ (fu : Nat) (i : Nat) (F : Nat → Int32) (H : Heap) (locs : List Loc), (i ≤ n) → (∀ k, k < i → F k = nI k) → va_P D vwCl [(b, .inr (3, [.long sd, .int (nI nT), .int (nI nS), .ref (b + 1), .ref (b + 2), .ref (b + 3), .ref (b + 4), .ref (b + 5), .ref (b + 6), .ref (b + 7), .ref (b + 8), .int (nI th)])), ((b + 1), .inl (κ 0, 40, .inl (fun j => nI (mk j)))), ((b + 2), .inl (κ 0, 40, .inl (fun j => nI (ms j)))), ((b + 6), .inl (κ 0, 120, .inl F))] H → va_D A [(b, .inr (3, [.long sd, .int (nI nT), .int (nI nS), .ref (b + 1), .ref (b + 2), .ref (b + 3), .ref (b + 4), .ref (b + 5), .ref (b + 6), .ref (b + 7), .ref (b + 8), .int (nI th)])), ((b + 1), .inl (κ 0, 40, .inl (fun j => nI (mk j)))), ((b + 2), .inl (κ 0, 40, .inl (fun j => nI (ms j)))), ((b + 6), .inl (κ 0, 120, .inl F))] → va_S A s.heap H locs → n - i < fu → ∀ ls : Array Slot, lv_has ls 10 [(0, .ref b), (1, .int (nI t)), (2, .int (nI pp)), (3, .int (nI n)), (4, .int (nI (pp / n))), (5, .int (nI i))] → W p l e (headSpec wM_orderOf ({ frames := 1, cells := 0, slots := 0, locals := 23 })).room s m ([.ref b, .int (nI t), .int (nI pp)] : List Value).toArray below meth c H locs 0 0 (MQ below (q_W (fun v H => ∃ F : Nat → Int32, Pst D A s.heap (some (.int (nI (ordv (cntO (mk t) (ms t)) sd t pp)))) [(b, .inr (3, [.long sd, .int (nI nT), .int (nI nS), .ref (b + 1), .ref (b + 2), .ref (b + 3), .ref (b + 4), .ref (b + 5), .ref (b + 6), .ref (b + 7), .ref (b + 8), .int (nI th)])), ((b + 1), .inl (κ 0, 40, .inl (fun j => nI (mk j)))), ((b + 2), .inl (κ 0, 40, .inl (fun j => nI (ms j)))), ((b + 6), .inl (κ 0, 120, .inl F))] v H)) ([.ref b, .int (nI t), .int (nI pp)] : List Value).toArray s 0 0 A) (F0 m 14 ls []) := by
    intro fu
    induction fu with
    | zero =>
      intro i F H locs hi hF hP hD hS hmu
      exact absurd hmu (Nat.not_lt_zero _)
    | succ fu ih =>
      intro i F H locs hi hF hP hD hS hmu ls hl
      refine lv_iload hx hb dM_orderOf_14 (lv_at hl 5 rfl) ?_
      refine lv_iload_n hx hb dM_orderOf_16 rfl (lv_at hl 3 rfl) ?_
      refine x_cge (a := i) (b := n) (tgt := 35) hx hb dM_orderOf_17 (by decide) (by omega) (by omega) (fun h2 => ?_) (fun h2 => ?_)
      · have hF2 : ∀ k, k < n → F k = nI k := fun k hk => hF k (by omega)
        refine lv_aload_n hx hb dM_orderOf_35 rfl (lv_at hl 0 rfl) ?_
        refine va_get (D := D) (ci := 3) (v := .long sd) (C := RM) (T := FM) (N := 12) hx hb hT inM hown hK hP 0 rfl rfl 0 (by decide) (hT _ kM35) (fun _ h9 => h9) rfl dM_orderOf_36 ?_
        refine lv_ldc2 (v := lN 1000003) hx hb hown (hT _ kM53) dM_orderOf_39 ?_
        refine lv_iload_n hx hb dM_orderOf_42 rfl (lv_at hl 1 rfl) ?_
        refine lv_i2l (v := lN t) hx hb dM_orderOf_43 (nI_l (by omega)) ?_
        refine x_lmul (v := lN (1000003 * t)) hx hb dM_orderOf_44 (lN_mul _ _) ?_
        refine x_ladd (v := sd + (lN (1000003 * t))) hx hb dM_orderOf_45 (rfl) ?_
        refine lv_ldc2 (v := lN 7919) hx hb hown (hT _ kM55) dM_orderOf_46 ?_
        refine lv_iload hx hb dM_orderOf_49 (lv_at hl 4 rfl) ?_
        refine lv_i2l (v := lN (pp / n)) hx hb dM_orderOf_51 (nI_l (by omega)) ?_
        refine x_lmul (v := lN (7919 * (pp / n))) hx hb dM_orderOf_52 (lN_mul _ _) ?_
        refine x_ladd (v := (sd + (lN (1000003 * t))) + (lN (7919 * (pp / n)))) hx hb dM_orderOf_53 (rfl) ?_
        refine x_topl (y := mixH sd t (pp / n)) (rfl) ?_
        refine lv_lstore (lv' := [(5, .long (mixH sd t (pp / n))), (0, .ref b), (1, .int (nI t)), (2, .int (nI pp)), (3, .int (nI n)), (4, .int (nI (pp / n)))]) hx hb dM_orderOf_54 hl (by decide) rfl (fun ls hl => ?_)
        refine lv_iload_n hx hb dM_orderOf_56 rfl (lv_at hl 4 rfl) ?_
        refine lv_iconst (v := nI 1) hx hb dM_orderOf_57 (by decide) ?_
        refine x_isub (v := nI (n - 1)) hx hb dM_orderOf_58 (pk_sub (by omega)) ?_
        refine lv_istore (lv' := [(7, .int (nI (n - 1))), (5, .long (mixH sd t (pp / n))), (0, .ref b), (1, .int (nI t)), (2, .int (nI pp)), (3, .int (nI n)), (4, .int (nI (pp / n)))]) hx hb dM_orderOf_59 hl (by decide) rfl (fun ls hl => ?_)
        exact loop2 (n + 1) (n - 1) (mixH sd t (pp / n)) (fun k => k) F _ _ (by omega) hF2 rfl hP hD hS (by omega) ls (lv_sub hl [2, 3, 4, 5, 1, 0] rfl)
      · refine lv_aload_n hx hb dM_orderOf_20 rfl (lv_at hl 0 rfl) ?_
        refine va_get (D := D) (ci := 3) (v := .ref (b + 6)) (C := RM) (T := FM) (N := 12) hx hb hT inM hown hK hP 0 rfl rfl 8 (by decide) (hT _ kM25) (fun _ h9 => h9) rfl dM_orderOf_21 ?_
        refine lv_iload hx hb dM_orderOf_24 (lv_at hl 5 rfl) ?_
        refine lv_iload hx hb dM_orderOf_26 (lv_at hl 5 rfl) ?_
        refine x_iast hx hb hK hP hD hS 3 0 (j := i) rfl rfl (by omega) (by decide) dM_orderOf_28 (fun H locs hP hD hS => ?_)
        have hP : va_P D vwCl [(b, .inr (3, [.long sd, .int (nI nT), .int (nI nS), .ref (b + 1), .ref (b + 2), .ref (b + 3), .ref (b + 4), .ref (b + 5), .ref (b + 6), .ref (b + 7), .ref (b + 8), .int (nI th)])), ((b + 1), .inl (κ 0, 40, .inl (fun j => nI (mk j)))), ((b + 2), .inl (κ 0, 40, .inl (fun j => nI (ms j)))), ((b + 6), .inl (κ 0, 120, .inl (upd F i (nI i))))] H := hP
        have hD : va_D A [(b, .inr (3, [.long sd, .int (nI nT), .int (nI nS), .ref (b + 1), .ref (b + 2), .ref (b + 3), .ref (b + 4), .ref (b + 5), .ref (b + 6), .ref (b + 7), .ref (b + 8), .int (nI th)])), ((b + 1), .inl (κ 0, 40, .inl (fun j => nI (mk j)))), ((b + 2), .inl (κ 0, 40, .inl (fun j => nI (ms j)))), ((b + 6), .inl (κ 0, 120, .inl (upd F i (nI i))))] := hD
        refine lv_iinc (v := nI (i + 1)) (lv' := [(5, .int (nI (i + 1))), (0, .ref b), (1, .int (nI t)), (2, .int (nI pp)), (3, .int (nI n)), (4, .int (nI (pp / n)))]) hx hb dM_orderOf_29 hl (k := 5) rfl (nI_add _ _) (by decide) rfl (fun ls hl => ?_)
        refine lv_goto (tgt := 14) hx hb dM_orderOf_32 (by decide) ?_
        exact ih (i + 1) (upd F i (nI i)) _ _ (by omega) (upd_nx hF) hP hD hS (by omega) ls (lv_sub hl [1, 2, 3, 4, 5, 0] rfl)
  refine lv_aload_n hx hb dM_orderOf_0 rfl (lv_at hl 0 rfl) ?_
  refine lv_iload_n hx hb dM_orderOf_1 rfl (lv_at hl 1 rfl) ?_
  refine x_callP (v := .int (nI (cntO (mk t) (ms t)))) (va_runV (As := [.int (nI t)]) (rest := []) ⟨hx, hb, hml, hown, hT⟩ (c_M_orders l D κ base s.heap (hP.sub [0, 1, 2] rfl) t ht hok) (cwV 1 hT (TT_V kM49 kiM_orders ksM_orders knM kcM_orders) rfl rfl rfl (by decide +kernel) ⟨Nat.le_of_ble_eq_true rfl, Nat.le_of_ble_eq_true rfl⟩) (pcV hE hS hAb (va_recv hK hP (ci := 3) (q0 := 0) rfl rfl)) rfl rfl hl.1 rfl (lv_room (Nat.le_of_ble_eq_true rfl)) dM_orderOf_2 ⟨Nat.le_of_ble_eq_true rfl, Nat.le_of_ble_eq_true rfl⟩) ?_
  refine x_topn (b := n) (hn.symm) ?_
  refine lv_istore_n (lv' := [(3, .int (nI n)), (0, .ref b), (1, .int (nI t)), (2, .int (nI pp))]) hx hb dM_orderOf_5 rfl hl (by decide) rfl (fun ls hl => ?_)
  refine lv_iload_n hx hb dM_orderOf_6 rfl (lv_at hl 3 rfl) ?_
  refine lv_iload_n hx hb dM_orderOf_7 rfl (lv_at hl 0 rfl) ?_
  refine x_idiv (v := nI (pp / n)) hx hb dM_orderOf_8 (nI_ne0 (by omega) (by omega)) (pk_div (by omega) (by omega) (by omega)) ?_
  refine lv_istore (lv' := [(4, .int (nI (pp / n))), (3, .int (nI n)), (0, .ref b), (1, .int (nI t)), (2, .int (nI pp))]) hx hb dM_orderOf_9 hl (by decide) rfl (fun ls hl => ?_)
  refine lv_iconst (v := nI 0) hx hb dM_orderOf_11 (by decide) ?_
  refine lv_istore (lv' := [(5, .int (nI 0)), (4, .int (nI (pp / n))), (3, .int (nI n)), (0, .ref b), (1, .int (nI t)), (2, .int (nI pp))]) hx hb dM_orderOf_12 hl (by decide) rfl (fun ls hl => ?_)
  exact loop1 (n + 1) 0 Fz _ _ (by omega) (fun k hk => absurd hk (Nat.not_lt_zero _)) hP hD hS (by omega) ls (lv_sub hl [3, 4, 5, 2, 1, 0] rfl)
set_option maxHeartbeats 400000 in
set_option maxRecDepth 100000 in
theorem c_M_isRight (l : Launch) (D : va_G) (κ : Nat → ClassId) (base : Nat) (H0 : Heap) {b : Nat} {nT : Nat} {nS : Nat} {th : Nat} {sd : Int64} {mk : Nat → Nat} {ms : Nat → Nat} {ma : Nat → Nat} {Fz : Nat → Int32} (t pp : Nat) (ht : t < 40) (hpp : pp < 26) (hok : okN (mk t) (ms t)) (hk3 : mk t < 3) (hma : ∀ x, x < 1040 → ma x ≤ 5) (r : Nat) (q1 : ma (26 * t + pp) = 1 + rgV sd (mk t) (ms t) t pp → r = 1) (q0 : ¬ ma (26 * t + pp) = 1 + rgV sd (mk t) (ms t) t pp → r = 0) (hP : va_P D vwCl [(b, .inr (3, [.long sd, .int (nI nT), .int (nI nS), .ref (b + 1), .ref (b + 2), .ref (b + 3), .ref (b + 4), .ref (b + 5), .ref (b + 6), .ref (b + 7), .ref (b + 8), .int (nI th)])), ((b + 1), .inl (κ 0, 40, .inl (fun j => nI (mk j)))), ((b + 2), .inl (κ 0, 40, .inl (fun j => nI (ms j)))), ((b + 3), .inl (κ 0, 1040, .inl (fun x => nI (ma x)))), ((b + 6), .inl (κ 0, 120, .inl Fz))] H0) (hD0 : va_D (fun q => base ≤ q) [(b, .inr (3, [.long sd, .int (nI nT), .int (nI nS), .ref (b + 1), .ref (b + 2), .ref (b + 3), .ref (b + 4), .ref (b + 5), .ref (b + 6), .ref (b + 7), .ref (b + 8), .int (nI th)])), ((b + 1), .inl (κ 0, 40, .inl (fun j => nI (mk j)))), ((b + 2), .inl (κ 0, 40, .inl (fun j => nI (ms j)))), ((b + 3), .inl (κ 0, 1040, .inl (fun x => nI (ma x)))), ((b + 6), .inl (κ 0, 120, .inl Fz))]) (hbs : base ≤ H0.size)  : Met l yM_isRight wM_isRight ({ frames := 2, cells := 0, slots := 0, locals := 52 }) (Pq D κ base [.ref b, .int (nI t), .int (nI pp)] H0) (q_W (fun v H => ∃ F : Nat → Int32, Pst D (va_A [(b, .inr (3, [.long sd, .int (nI nT), .int (nI nS), .ref (b + 1), .ref (b + 2), .ref (b + 3), .ref (b + 4), .ref (b + 5), .ref (b + 6), .ref (b + 7), .ref (b + 8), .int (nI th)])), ((b + 1), .inl (κ 0, 40, .inl (fun j => nI (mk j)))), ((b + 2), .inl (κ 0, 40, .inl (fun j => nI (ms j)))), ((b + 3), .inl (κ 0, 1040, .inl (fun x => nI (ma x)))), ((b + 6), .inl (κ 0, 120, .inl Fz))] H0.size) H0 (some (.int (nI r))) [(b, .inr (3, [.long sd, .int (nI nT), .int (nI nS), .ref (b + 1), .ref (b + 2), .ref (b + 3), .ref (b + 4), .ref (b + 5), .ref (b + 6), .ref (b + 7), .ref (b + 8), .int (nI th)])), ((b + 1), .inl (κ 0, 40, .inl (fun j => nI (mk j)))), ((b + 2), .inl (κ 0, 40, .inl (fun j => nI (ms j)))), ((b + 3), .inl (κ 0, 1040, .inl (fun x => nI (ma x)))), ((b + 6), .inl (κ 0, 120, .inl F))] v H)) 0 0 (va_A [(b, .inr (3, [.long sd, .int (nI nT), .int (nI nS), .ref (b + 1), .ref (b + 2), .ref (b + 3), .ref (b + 4), .ref (b + 5), .ref (b + 6), .ref (b + 7), .ref (b + 8), .int (nI th)])), ((b + 1), .inl (κ 0, 40, .inl (fun j => nI (mk j)))), ((b + 2), .inl (κ 0, 40, .inl (fun j => nI (ms j)))), ((b + 3), .inl (κ 0, 1040, .inl (fun x => nI (ma x)))), ((b + 6), .inl (κ 0, 120, .inl Fz))] H0.size) := by
  refine Met.ofW (cc := bM_isRight) (maxL := 3) (ret := (some FieldType.boolean)) (by decide) rfl ?_
  intro p e s m args below meth c s₁ B hml hv
  obtain ⟨rfl, hH, hE⟩ := hv
  subst hH
  have hx := B.exec
  have hb := B.bytes
  have hr := B.returns
  have hT : ∀ w ∈ TT, w.before _ s = true := fun w h => atoms_spec (ws := wM_isRight) B.pre w (List.mem_cons_of_mem _ h)
  have hown : s.vm.findClass "TasterPanelsModel" = some m.cls := findClass_of_methodNamed B.named
  have hlocks := B.notSynchronized
  have hK := hE.1
  have hD := hD0.self (sz := s.heap.size)
  have hAb : ∀ x9, va_A [(b, .inr (3, [.long sd, .int (nI nT), .int (nI nS), .ref (b + 1), .ref (b + 2), .ref (b + 3), .ref (b + 4), .ref (b + 5), .ref (b + 6), .ref (b + 7), .ref (b + 8), .int (nI th)])), ((b + 1), .inl (κ 0, 40, .inl (fun j => nI (mk j)))), ((b + 2), .inl (κ 0, 40, .inl (fun j => nI (ms j)))), ((b + 3), .inl (κ 0, 1040, .inl (fun x => nI (ma x)))), ((b + 6), .inl (κ 0, 120, .inl Fz))] s.heap.size x9 → base ≤ x9 := fun x9 h => by rcases h with ⟨k, e, h⟩ | h; exact hD0.2 k _ h; exact Nat.le_trans hbs h
  generalize hAe : va_A [(b, .inr (3, [.long sd, .int (nI nT), .int (nI nS), .ref (b + 1), .ref (b + 2), .ref (b + 3), .ref (b + 4), .ref (b + 5), .ref (b + 6), .ref (b + 7), .ref (b + 8), .int (nI th)])), ((b + 1), .inl (κ 0, 40, .inl (fun j => nI (mk j)))), ((b + 2), .inl (κ 0, 40, .inl (fun j => nI (ms j)))), ((b + 3), .inl (κ 0, 1040, .inl (fun x => nI (ma x)))), ((b + 6), .inl (κ 0, 120, .inl Fz))] s.heap.size = A at hD hAb ⊢
  have hA : ∀ x9, s.heap.size ≤ x9 → A x9 := fun x9 h => by rw [← hAe]; exact Or.inr h
  have hS : va_S A s.heap s.heap [] := va_S.rf
  have hl := lv_entry ([.ref b, .int (nI t), .int (nI pp)]) (n := 3) (Nat.le_of_ble_eq_true rfl)
  rw [lg_entry_eq]
  generalize (lg_sl ([.ref b, .int (nI t), .int (nI pp)]) ++ List.replicate (3 - (lg_sl ([.ref b, .int (nI t), .int (nI pp)])).length) Slot.unset).toArray = ls at hl ⊢
  have hl : lv_has ls 3 [(0, .ref b), (1, .int (nI t)), (2, .int (nI pp))] := hl
  obtain ⟨t8, hZ8, hT8⟩ := hE.2.2 8 _ rfl
  dsimp only at hZ8 hT8
  have hb9 := hma (26 * t + pp) (by omega)
  have ho9 : ordv (cntO (mk t) (ms t)) sd t pp < cntO (mk t) 0 := by rw [← cntO_k (n := ms t) hk3]; exact ordv_lt _ _ _ (cntO_le hok).1
  obtain ⟨hr9, hr8⟩ := rgt_eq hk3 ho9
  have hrl := rgtN_lt hk3 ho9
  refine lv_aload_n hx hb dM_isRight_0 rfl (lv_at hl 0 rfl) ?_
  refine va_get (D := D) (ci := 3) (v := .ref (b + 3)) (C := RM) (T := FM) (N := 12) hx hb hT inM hown hK hP 0 rfl rfl 5 (by decide) (hT _ kM16) (fun _ h9 => h9) rfl dM_isRight_1 ?_
  refine lv_bipush (v := nI 26) hx hb dM_isRight_4 (by decide) ?_
  refine lv_iload_n hx hb dM_isRight_6 rfl (lv_at hl 1 rfl) ?_
  refine x_imul (v := nI (26 * t)) hx hb dM_isRight_7 (pk_mul _ _) ?_
  refine lv_iload_n hx hb dM_isRight_8 rfl (lv_at hl 2 rfl) ?_
  refine x_iadd (v := nI ((26 * t) + pp)) hx hb dM_isRight_9 (nI_add _ _) ?_
  refine x_iald hx hb hK hP 3 0 (j := (26 * t) + pp) (v := nI (ma ((26 * t) + pp))) rfl rfl (by omega) (by decide) (rfl) dM_isRight_10 ?_
  refine lv_iconst (v := nI 1) hx hb dM_isRight_11 (by decide) ?_
  refine va_gets hx hb hZ8 (va_Sm hS hAb) hown (hT _ kM85) (fun _ h9 => h9) dM_isRight_12 ?_
  refine lv_aload_n hx hb dM_isRight_15 rfl (lv_at hl 0 rfl) ?_
  refine lv_iload_n hx hb dM_isRight_16 rfl (lv_at hl 1 rfl) ?_
  refine x_callP (v := .int (nI (fstN (mk t)))) (va_runV (As := [.int (nI t)]) (rest := [.ref t8, .int (nI 1), .int (nI (ma ((26 * t) + pp)))]) ⟨hx, hb, hml, hown, hT⟩ (c_M_first l D κ base s.heap (hP.sub [0, 1] rfl) t ht (by omega)) (cwV 1 hT (TT_V kM82 kiM_first ksM_first knM kcM_first) rfl rfl rfl (by decide +kernel) ⟨Nat.le_of_ble_eq_true rfl, Nat.le_of_ble_eq_true rfl⟩) (pcV hE hS hAb (va_recv hK hP (ci := 3) (q0 := 0) rfl rfl)) rfl rfl hl.1 rfl (lv_room (Nat.le_of_ble_eq_true rfl)) dM_isRight_17 ⟨Nat.le_of_ble_eq_true rfl, Nat.le_of_ble_eq_true rfl⟩) ?_
  refine lv_aload_n hx hb dM_isRight_20 rfl (lv_at hl 0 rfl) ?_
  refine lv_iload_n hx hb dM_isRight_21 rfl (lv_at hl 1 rfl) ?_
  refine lv_iload_n hx hb dM_isRight_22 rfl (lv_at hl 2 rfl) ?_
  have hFc := va_free (wc := [(b, .inr (3, [.long sd, .int (nI nT), .int (nI nS), .ref (b + 1), .ref (b + 2), .ref (b + 3), .ref (b + 4), .ref (b + 5), .ref (b + 6), .ref (b + 7), .ref (b + 8), .int (nI th)])), ((b + 1), .inl (κ 0, 40, .inl (fun j => nI (mk j)))), ((b + 2), .inl (κ 0, 40, .inl (fun j => nI (ms j)))), ((b + 6), .inl (κ 0, 120, .inl Fz))]) hD hS hA [0, 1, 2, 4] rfl
  have hPc := hP.sub (ws' := [(b, .inr (3, [.long sd, .int (nI nT), .int (nI nS), .ref (b + 1), .ref (b + 2), .ref (b + 3), .ref (b + 4), .ref (b + 5), .ref (b + 6), .ref (b + 7), .ref (b + 8), .int (nI th)])), ((b + 1), .inl (κ 0, 40, .inl (fun j => nI (mk j)))), ((b + 2), .inl (κ 0, 40, .inl (fun j => nI (ms j)))), ((b + 6), .inl (κ 0, 120, .inl Fz))]) [0, 1, 2, 4] rfl
  have hDc := (hD.sub (ws' := [(b, .inr (3, [.long sd, .int (nI nT), .int (nI nS), .ref (b + 1), .ref (b + 2), .ref (b + 3), .ref (b + 4), .ref (b + 5), .ref (b + 6), .ref (b + 7), .ref (b + 8), .int (nI th)])), ((b + 1), .inl (κ 0, 40, .inl (fun j => nI (mk j)))), ((b + 2), .inl (κ 0, 40, .inl (fun j => nI (ms j)))), ((b + 6), .inl (κ 0, 120, .inl Fz))]) [0, 1, 2, 4] (by decide) rfl).weaken (fun _ _ _ h => hAb _ h)
  have hbc : base ≤ s.heap.size := Nat.le_trans hbs hS.1
  refine x_callW (va_runV (As := [.int (nI t), .int (nI pp)]) (rest := [.int (nI (fstN (mk t))), .ref t8, .int (nI 1), .int (nI (ma ((26 * t) + pp)))]) ⟨hx, hb, hml, hown, hT⟩ (c_M_orderOf l D κ base s.heap t pp (cntO (mk t) (ms t)) ht hpp hok rfl hPc hDc hbc) (cwV 2 hT (TT_V kM71 kiM_orderOf ksM_orderOf knM kcM_orderOf) rfl rfl rfl (by decide +kernel) ⟨Nat.le_of_ble_eq_true rfl, Nat.le_of_ble_eq_true rfl⟩) (pcV hE hS hAb (va_recv hK hP (ci := 3) (q0 := 0) rfl rfl)) rfl rfl hl.1 rfl (lv_room (Nat.le_of_ble_eq_true rfl)) dM_isRight_23 ⟨Nat.le_of_ble_eq_true rfl, Nat.le_of_ble_eq_true rfl⟩) hS (fun q h => hFc q h) (fun v H1 h => by obtain ⟨S9, h9⟩ := h; exact Pst.fr hFc h9) (fun v H locs hpost hS => ?_)
  obtain ⟨F2, rfl, hP1, hD1, hz1, hk1⟩ := hpost
  obtain ⟨hP, hD⟩ := va_join (wr := [((b + 3), .inl (κ 0, 1040, .inl (fun x => nI (ma x))))]) (w1 := [(b, .inr (3, [.long sd, .int (nI nT), .int (nI nS), .ref (b + 1), .ref (b + 2), .ref (b + 3), .ref (b + 4), .ref (b + 5), .ref (b + 6), .ref (b + 7), .ref (b + 8), .int (nI th)])), ((b + 1), .inl (κ 0, 40, .inl (fun j => nI (mk j)))), ((b + 2), .inl (κ 0, 40, .inl (fun j => nI (ms j)))), ((b + 6), .inl (κ 0, 120, .inl F2))]) hP hD [0, 1, 2, 4] [3] rfl rfl (by decide) (by decide) hk1 hFc hP1 hD1
  have hP : va_P D vwCl [((b + 3), .inl (κ 0, 1040, .inl (fun x => nI (ma x)))), (b, .inr (3, [.long sd, .int (nI nT), .int (nI nS), .ref (b + 1), .ref (b + 2), .ref (b + 3), .ref (b + 4), .ref (b + 5), .ref (b + 6), .ref (b + 7), .ref (b + 8), .int (nI th)])), ((b + 1), .inl (κ 0, 40, .inl (fun j => nI (mk j)))), ((b + 2), .inl (κ 0, 40, .inl (fun j => nI (ms j)))), ((b + 6), .inl (κ 0, 120, .inl F2))] H := hP
  have hD : va_D A [((b + 3), .inl (κ 0, 1040, .inl (fun x => nI (ma x)))), (b, .inr (3, [.long sd, .int (nI nT), .int (nI nS), .ref (b + 1), .ref (b + 2), .ref (b + 3), .ref (b + 4), .ref (b + 5), .ref (b + 6), .ref (b + 7), .ref (b + 8), .int (nI th)])), ((b + 1), .inl (κ 0, 40, .inl (fun j => nI (mk j)))), ((b + 2), .inl (κ 0, 40, .inl (fun j => nI (ms j)))), ((b + 6), .inl (κ 0, 120, .inl F2))] := hD
  refine W.eq (g2 := F0 m 26 ls [.int (nI (ordv (cntO (mk t) (ms t)) sd t pp)), .int (nI (fstN (mk t))), .ref t8, .int (nI 1), .int (nI (ma ((26 * t) + pp)))]) rfl ?_
  refine x_iadd (v := nI ((fstN (mk t)) + (ordv (cntO (mk t) (ms t)) sd t pp))) hx hb dM_isRight_26 (nI_add _ _) ?_
  refine x_ti (v := .int (nI (tRIGHT.getD ((fstN (mk t)) + (ordv (cntO (mk t) (ms t)) sd t pp)) 0))) hx hb hT8 (va_Sm hS hAb) (j := (fstN (mk t)) + (ordv (cntO (mk t) (ms t)) sd t pp)) (show (fstN (mk t)) + (ordv (cntO (mk t) (ms t)) sd t pp) < 12 by omega) (by decide) rfl dM_isRight_27 ?_
  refine x_topn (b := rgV sd (mk t) (ms t) t pp) (hr9) ?_
  have hrl2 : rgV sd (mk t) (ms t) t pp < 3 := hrl
  refine x_iadd (v := nI (1 + (rgV sd (mk t) (ms t) t pp))) hx hb dM_isRight_28 (nI_add _ _) ?_
  refine x_cne (a := ma ((26 * t) + pp)) (b := 1 + (rgV sd (mk t) (ms t) t pp)) (tgt := 36) hx hb dM_isRight_29 (by decide) (by omega) (by omega) (fun g1 => ?_) (fun g1 => ?_)
  · refine lv_iconst (v := nI 0) hx hb dM_isRight_36 (by decide) ?_
    have hP := hP.sub (ws' := [(b, .inr (3, [.long sd, .int (nI nT), .int (nI nS), .ref (b + 1), .ref (b + 2), .ref (b + 3), .ref (b + 4), .ref (b + 5), .ref (b + 6), .ref (b + 7), .ref (b + 8), .int (nI th)])), ((b + 1), .inl (κ 0, 40, .inl (fun j => nI (mk j)))), ((b + 2), .inl (κ 0, 40, .inl (fun j => nI (ms j)))), ((b + 3), .inl (κ 0, 1040, .inl (fun x => nI (ma x)))), ((b + 6), .inl (κ 0, 120, .inl F2))]) [1, 2, 3, 0, 4] rfl
    have hD := hD.sub (ws' := [(b, .inr (3, [.long sd, .int (nI nT), .int (nI nS), .ref (b + 1), .ref (b + 2), .ref (b + 3), .ref (b + 4), .ref (b + 5), .ref (b + 6), .ref (b + 7), .ref (b + 8), .int (nI th)])), ((b + 1), .inl (κ 0, 40, .inl (fun j => nI (mk j)))), ((b + 2), .inl (κ 0, 40, .inl (fun j => nI (ms j)))), ((b + 3), .inl (κ 0, 1040, .inl (fun x => nI (ma x)))), ((b + 6), .inl (κ 0, 120, .inl F2))]) [1, 2, 3, 0, 4] (by decide) rfl
    exact W.zret (v := nI 0) hx hb hr (by decide) (fun t9 ht9 hW9 => ⟨some (.int (nI 0)), rfl, by rw [ht9]; exact ⟨F2, by rw [q0 g1], hP, hD, hS.1, hS.2.1⟩⟩) hS.2.2 dM_isRight_37
  · refine lv_iconst (v := nI 1) hx hb dM_isRight_32 (by decide) ?_
    refine lv_goto (tgt := 37) hx hb dM_isRight_33 (by decide) ?_
    have hP := hP.sub (ws' := [(b, .inr (3, [.long sd, .int (nI nT), .int (nI nS), .ref (b + 1), .ref (b + 2), .ref (b + 3), .ref (b + 4), .ref (b + 5), .ref (b + 6), .ref (b + 7), .ref (b + 8), .int (nI th)])), ((b + 1), .inl (κ 0, 40, .inl (fun j => nI (mk j)))), ((b + 2), .inl (κ 0, 40, .inl (fun j => nI (ms j)))), ((b + 3), .inl (κ 0, 1040, .inl (fun x => nI (ma x)))), ((b + 6), .inl (κ 0, 120, .inl F2))]) [1, 2, 3, 0, 4] rfl
    have hD := hD.sub (ws' := [(b, .inr (3, [.long sd, .int (nI nT), .int (nI nS), .ref (b + 1), .ref (b + 2), .ref (b + 3), .ref (b + 4), .ref (b + 5), .ref (b + 6), .ref (b + 7), .ref (b + 8), .int (nI th)])), ((b + 1), .inl (κ 0, 40, .inl (fun j => nI (mk j)))), ((b + 2), .inl (κ 0, 40, .inl (fun j => nI (ms j)))), ((b + 3), .inl (κ 0, 1040, .inl (fun x => nI (ma x)))), ((b + 6), .inl (κ 0, 120, .inl F2))]) [1, 2, 3, 0, 4] (by decide) rfl
    exact W.zret (v := nI 1) hx hb hr (by decide) (fun t9 ht9 hW9 => ⟨some (.int (nI 1)), rfl, by rw [ht9]; exact ⟨F2, by rw [q1 g1], hP, hD, hS.1, hS.2.1⟩⟩) hS.2.2 dM_isRight_37
set_option maxHeartbeats 400000 in
set_option maxRecDepth 100000 in
theorem c_M_rightOnes (l : Launch) (D : va_G) (κ : Nat → ClassId) (base : Nat) (H0 : Heap) {b : Nat} {nT : Nat} {nS : Nat} {th : Nat} {sd : Int64} {mk : Nat → Nat} {ms : Nat → Nat} {ma : Nat → Nat} {Fz : Nat → Int32} (t : Nat) (hnT : nT ≤ 26) (ht : t < 40) (hok : okN (mk t) (ms t)) (hk3 : mk t < 3) (hma : ∀ x, x < 1040 → ma x ≤ 5) (hP : va_P D vwCl [(b, .inr (3, [.long sd, .int (nI nT), .int (nI nS), .ref (b + 1), .ref (b + 2), .ref (b + 3), .ref (b + 4), .ref (b + 5), .ref (b + 6), .ref (b + 7), .ref (b + 8), .int (nI th)])), ((b + 1), .inl (κ 0, 40, .inl (fun j => nI (mk j)))), ((b + 2), .inl (κ 0, 40, .inl (fun j => nI (ms j)))), ((b + 3), .inl (κ 0, 1040, .inl (fun x => nI (ma x)))), ((b + 6), .inl (κ 0, 120, .inl Fz))] H0) (hD0 : va_D (fun q => base ≤ q) [(b, .inr (3, [.long sd, .int (nI nT), .int (nI nS), .ref (b + 1), .ref (b + 2), .ref (b + 3), .ref (b + 4), .ref (b + 5), .ref (b + 6), .ref (b + 7), .ref (b + 8), .int (nI th)])), ((b + 1), .inl (κ 0, 40, .inl (fun j => nI (mk j)))), ((b + 2), .inl (κ 0, 40, .inl (fun j => nI (ms j)))), ((b + 3), .inl (κ 0, 1040, .inl (fun x => nI (ma x)))), ((b + 6), .inl (κ 0, 120, .inl Fz))]) (hbs : base ≤ H0.size)  : Met l yM_rightOnes wM_rightOnes ({ frames := 3, cells := 0, slots := 0, locals := 74 }) (Pq D κ base [.ref b, .int (nI t)] H0) (q_W (fun v H => ∃ F : Nat → Int32, Pst D (va_A [(b, .inr (3, [.long sd, .int (nI nT), .int (nI nS), .ref (b + 1), .ref (b + 2), .ref (b + 3), .ref (b + 4), .ref (b + 5), .ref (b + 6), .ref (b + 7), .ref (b + 8), .int (nI th)])), ((b + 1), .inl (κ 0, 40, .inl (fun j => nI (mk j)))), ((b + 2), .inl (κ 0, 40, .inl (fun j => nI (ms j)))), ((b + 3), .inl (κ 0, 1040, .inl (fun x => nI (ma x)))), ((b + 6), .inl (κ 0, 120, .inl Fz))] H0.size) H0 (some (.int (nI (cnR ma (rgV sd (mk t) (ms t) t) t nT)))) [(b, .inr (3, [.long sd, .int (nI nT), .int (nI nS), .ref (b + 1), .ref (b + 2), .ref (b + 3), .ref (b + 4), .ref (b + 5), .ref (b + 6), .ref (b + 7), .ref (b + 8), .int (nI th)])), ((b + 1), .inl (κ 0, 40, .inl (fun j => nI (mk j)))), ((b + 2), .inl (κ 0, 40, .inl (fun j => nI (ms j)))), ((b + 3), .inl (κ 0, 1040, .inl (fun x => nI (ma x)))), ((b + 6), .inl (κ 0, 120, .inl F))] v H)) 0 0 (va_A [(b, .inr (3, [.long sd, .int (nI nT), .int (nI nS), .ref (b + 1), .ref (b + 2), .ref (b + 3), .ref (b + 4), .ref (b + 5), .ref (b + 6), .ref (b + 7), .ref (b + 8), .int (nI th)])), ((b + 1), .inl (κ 0, 40, .inl (fun j => nI (mk j)))), ((b + 2), .inl (κ 0, 40, .inl (fun j => nI (ms j)))), ((b + 3), .inl (κ 0, 1040, .inl (fun x => nI (ma x)))), ((b + 6), .inl (κ 0, 120, .inl Fz))] H0.size) := by
  refine Met.ofW (cc := bM_rightOnes) (maxL := 4) (ret := (some FieldType.int)) (by decide) rfl ?_
  intro p e s m args below meth c s₁ B hml hv
  obtain ⟨rfl, hH, hE⟩ := hv
  subst hH
  have hx := B.exec
  have hb := B.bytes
  have hr := B.returns
  have hT : ∀ w ∈ TT, w.before _ s = true := fun w h => atoms_spec (ws := wM_rightOnes) B.pre w (List.mem_cons_of_mem _ h)
  have hown : s.vm.findClass "TasterPanelsModel" = some m.cls := findClass_of_methodNamed B.named
  have hlocks := B.notSynchronized
  have hK := hE.1
  have hD := hD0.self (sz := s.heap.size)
  have hAb : ∀ x9, va_A [(b, .inr (3, [.long sd, .int (nI nT), .int (nI nS), .ref (b + 1), .ref (b + 2), .ref (b + 3), .ref (b + 4), .ref (b + 5), .ref (b + 6), .ref (b + 7), .ref (b + 8), .int (nI th)])), ((b + 1), .inl (κ 0, 40, .inl (fun j => nI (mk j)))), ((b + 2), .inl (κ 0, 40, .inl (fun j => nI (ms j)))), ((b + 3), .inl (κ 0, 1040, .inl (fun x => nI (ma x)))), ((b + 6), .inl (κ 0, 120, .inl Fz))] s.heap.size x9 → base ≤ x9 := fun x9 h => by rcases h with ⟨k, e, h⟩ | h; exact hD0.2 k _ h; exact Nat.le_trans hbs h
  generalize hAe : va_A [(b, .inr (3, [.long sd, .int (nI nT), .int (nI nS), .ref (b + 1), .ref (b + 2), .ref (b + 3), .ref (b + 4), .ref (b + 5), .ref (b + 6), .ref (b + 7), .ref (b + 8), .int (nI th)])), ((b + 1), .inl (κ 0, 40, .inl (fun j => nI (mk j)))), ((b + 2), .inl (κ 0, 40, .inl (fun j => nI (ms j)))), ((b + 3), .inl (κ 0, 1040, .inl (fun x => nI (ma x)))), ((b + 6), .inl (κ 0, 120, .inl Fz))] s.heap.size = A at hD hAb ⊢
  have hA : ∀ x9, s.heap.size ≤ x9 → A x9 := fun x9 h => by rw [← hAe]; exact Or.inr h
  have hS : va_S A s.heap s.heap [] := va_S.rf
  have hl := lv_entry ([.ref b, .int (nI t)]) (n := 4) (Nat.le_of_ble_eq_true rfl)
  rw [lg_entry_eq]
  generalize (lg_sl ([.ref b, .int (nI t)]) ++ List.replicate (4 - (lg_sl ([.ref b, .int (nI t)])).length) Slot.unset).toArray = ls at hl ⊢
  have hl : lv_has ls 4 [(0, .ref b), (1, .int (nI t))] := hl
  have loop : ∀ (fu : Nat) (pp : Nat) (F : Nat → Int32) (H : Heap) (locs : List Loc), (pp ≤ nT) → va_P D vwCl [(b, .inr (3, [.long sd, .int (nI nT), .int (nI nS), .ref (b + 1), .ref (b + 2), .ref (b + 3), .ref (b + 4), .ref (b + 5), .ref (b + 6), .ref (b + 7), .ref (b + 8), .int (nI th)])), ((b + 1), .inl (κ 0, 40, .inl (fun j => nI (mk j)))), ((b + 2), .inl (κ 0, 40, .inl (fun j => nI (ms j)))), ((b + 3), .inl (κ 0, 1040, .inl (fun x => nI (ma x)))), ((b + 6), .inl (κ 0, 120, .inl F))] H → va_D A [(b, .inr (3, [.long sd, .int (nI nT), .int (nI nS), .ref (b + 1), .ref (b + 2), .ref (b + 3), .ref (b + 4), .ref (b + 5), .ref (b + 6), .ref (b + 7), .ref (b + 8), .int (nI th)])), ((b + 1), .inl (κ 0, 40, .inl (fun j => nI (mk j)))), ((b + 2), .inl (κ 0, 40, .inl (fun j => nI (ms j)))), ((b + 3), .inl (κ 0, 1040, .inl (fun x => nI (ma x)))), ((b + 6), .inl (κ 0, 120, .inl F))] → va_S A s.heap H locs → nT - pp < fu → ∀ ls : Array Slot, lv_has ls 4 [(0, .ref b), (1, .int (nI t)), (2, .int (nI (cnR ma (rgV sd (mk t) (ms t) t) t pp))), (3, .int (nI pp))] → W p l e (headSpec wM_rightOnes ({ frames := 3, cells := 0, slots := 0, locals := 74 })).room s m ([.ref b, .int (nI t)] : List Value).toArray below meth c H locs 0 0 (MQ below (q_W (fun v H => ∃ F : Nat → Int32, Pst D A s.heap (some (.int (nI (cnR ma (rgV sd (mk t) (ms t) t) t nT)))) [(b, .inr (3, [.long sd, .int (nI nT), .int (nI nS), .ref (b + 1), .ref (b + 2), .ref (b + 3), .ref (b + 4), .ref (b + 5), .ref (b + 6), .ref (b + 7), .ref (b + 8), .int (nI th)])), ((b + 1), .inl (κ 0, 40, .inl (fun j => nI (mk j)))), ((b + 2), .inl (κ 0, 40, .inl (fun j => nI (ms j)))), ((b + 3), .inl (κ 0, 1040, .inl (fun x => nI (ma x)))), ((b + 6), .inl (κ 0, 120, .inl F))] v H)) ([.ref b, .int (nI t)] : List Value).toArray s 0 0 A) (F0 m 4 ls []) := by
    intro fu
    induction fu with
    | zero =>
      intro pp F H locs hp hP hD hS hmu
      exact absurd hmu (Nat.not_lt_zero _)
    | succ fu ih =>
      intro pp F H locs hp hP hD hS hmu ls hl
      have hc := cnR_le ma (rgV sd (mk t) (ms t) t) t pp
      refine lv_iload_n hx hb dM_rightOnes_4 rfl (lv_at hl 3 rfl) ?_
      refine lv_aload_n hx hb dM_rightOnes_5 rfl (lv_at hl 0 rfl) ?_
      refine va_get (D := D) (ci := 3) (v := .int (nI nT)) (C := RM) (T := FM) (N := 12) hx hb hT inM hown hK hP 0 rfl rfl 1 (by decide) (hT _ kM43) (fun _ h9 => h9) rfl dM_rightOnes_6 ?_
      refine x_cge (a := pp) (b := nT) (tgt := 49) hx hb dM_rightOnes_9 (by decide) (by omega) (by omega) (fun g1 => ?_) (fun g1 => ?_)
      · have e1 : pp = nT := by omega
        subst e1
        refine lv_iload_n hx hb dM_rightOnes_49 rfl (lv_at hl 2 rfl) ?_
        exact W.iret (v := nI (cnR ma (rgV sd (mk t) (ms t) t) t pp)) hx hb hr (fun t9 ht9 hW9 => ⟨some (.int (nI (cnR ma (rgV sd (mk t) (ms t) t) t pp))), rfl, by rw [ht9]; exact ⟨F, rfl, hP, hD, hS.1, hS.2.1⟩⟩) hS.2.2 dM_rightOnes_50
      · have hb9 := hma (26 * t + pp) (by omega)
        refine lv_iload_n hx hb dM_rightOnes_12 rfl (lv_at hl 2 rfl) ?_
        refine lv_aload_n hx hb dM_rightOnes_13 rfl (lv_at hl 0 rfl) ?_
        refine va_get (D := D) (ci := 3) (v := .ref (b + 3)) (C := RM) (T := FM) (N := 12) hx hb hT inM hown hK hP 0 rfl rfl 5 (by decide) (hT _ kM16) (fun _ h9 => h9) rfl dM_rightOnes_14 ?_
        refine lv_bipush (v := nI 26) hx hb dM_rightOnes_17 (by decide) ?_
        refine lv_iload_n hx hb dM_rightOnes_19 rfl (lv_at hl 1 rfl) ?_
        refine x_imul (v := nI (26 * t)) hx hb dM_rightOnes_20 (pk_mul _ _) ?_
        refine lv_iload_n hx hb dM_rightOnes_21 rfl (lv_at hl 3 rfl) ?_
        refine x_iadd (v := nI ((26 * t) + pp)) hx hb dM_rightOnes_22 (nI_add _ _) ?_
        refine x_iald hx hb hK hP 3 0 (j := (26 * t) + pp) (v := nI (ma ((26 * t) + pp))) rfl rfl (by omega) (by decide) (rfl) dM_rightOnes_23 ?_
        refine x_zle (a := ma ((26 * t) + pp)) (tgt := 40) hx hb dM_rightOnes_24 (by decide) (by omega) (fun g2 => ?_) (fun g2 => ?_)
        · refine lv_iconst (v := nI 0) hx hb dM_rightOnes_40 (by decide) ?_
          refine x_iadd (v := nI ((cnR ma (rgV sd (mk t) (ms t) t) t pp) + 0)) hx hb dM_rightOnes_41 (nI_add _ _) ?_
          refine x_topn (b := cnR ma (rgV sd (mk t) (ms t) t) t (pp + 1)) (by rw [cnR, if_neg (by omega)]) ?_
          refine lv_istore_n (lv' := [(2, .int (nI (cnR ma (rgV sd (mk t) (ms t) t) t (pp + 1)))), (0, .ref b), (1, .int (nI t)), (3, .int (nI pp))]) hx hb dM_rightOnes_42 rfl hl (by decide) rfl (fun ls hl => ?_)
          refine lv_iinc (v := nI (pp + 1)) (lv' := [(3, .int (nI (pp + 1))), (2, .int (nI (cnR ma (rgV sd (mk t) (ms t) t) t (pp + 1)))), (0, .ref b), (1, .int (nI t))]) hx hb dM_rightOnes_43 hl (k := 3) rfl (nI_add _ _) (by decide) rfl (fun ls hl => ?_)
          refine lv_goto (tgt := 4) hx hb dM_rightOnes_46 (by decide) ?_
          exact ih (pp + 1) _ _ _ (by omega) hP hD hS (by omega) ls (lv_sub hl [2, 3, 1, 0] rfl)
        · refine lv_aload_n hx hb dM_rightOnes_27 rfl (lv_at hl 0 rfl) ?_
          refine lv_iload_n hx hb dM_rightOnes_28 rfl (lv_at hl 1 rfl) ?_
          refine lv_iload_n hx hb dM_rightOnes_29 rfl (lv_at hl 3 rfl) ?_
          by_cases hri : ma (26 * t + pp) = 1 + rgV sd (mk t) (ms t) t pp
          · have hFc := va_free (wc := [(b, .inr (3, [.long sd, .int (nI nT), .int (nI nS), .ref (b + 1), .ref (b + 2), .ref (b + 3), .ref (b + 4), .ref (b + 5), .ref (b + 6), .ref (b + 7), .ref (b + 8), .int (nI th)])), ((b + 1), .inl (κ 0, 40, .inl (fun j => nI (mk j)))), ((b + 2), .inl (κ 0, 40, .inl (fun j => nI (ms j)))), ((b + 3), .inl (κ 0, 1040, .inl (fun x => nI (ma x)))), ((b + 6), .inl (κ 0, 120, .inl F))]) hD hS hA [0, 1, 2, 3, 4] rfl
            have hPc := hP.sub (ws' := [(b, .inr (3, [.long sd, .int (nI nT), .int (nI nS), .ref (b + 1), .ref (b + 2), .ref (b + 3), .ref (b + 4), .ref (b + 5), .ref (b + 6), .ref (b + 7), .ref (b + 8), .int (nI th)])), ((b + 1), .inl (κ 0, 40, .inl (fun j => nI (mk j)))), ((b + 2), .inl (κ 0, 40, .inl (fun j => nI (ms j)))), ((b + 3), .inl (κ 0, 1040, .inl (fun x => nI (ma x)))), ((b + 6), .inl (κ 0, 120, .inl F))]) [0, 1, 2, 3, 4] rfl
            have hDc := (hD.sub (ws' := [(b, .inr (3, [.long sd, .int (nI nT), .int (nI nS), .ref (b + 1), .ref (b + 2), .ref (b + 3), .ref (b + 4), .ref (b + 5), .ref (b + 6), .ref (b + 7), .ref (b + 8), .int (nI th)])), ((b + 1), .inl (κ 0, 40, .inl (fun j => nI (mk j)))), ((b + 2), .inl (κ 0, 40, .inl (fun j => nI (ms j)))), ((b + 3), .inl (κ 0, 1040, .inl (fun x => nI (ma x)))), ((b + 6), .inl (κ 0, 120, .inl F))]) [0, 1, 2, 3, 4] (by decide) rfl).weaken (fun _ _ _ h => hAb _ h)
            have hbc : base ≤ H.size := Nat.le_trans hbs hS.1
            refine x_callW (va_runV (As := [.int (nI t), .int (nI pp)]) (rest := [.int (nI (cnR ma (rgV sd (mk t) (ms t) t) t pp))]) ⟨hx, hb, hml, hown, hT⟩ (c_M_isRight l D κ base H t pp ht (by omega) hok hk3 hma 1 (fun _ => rfl) (fun q => absurd hri q) hPc hDc hbc) (cwV 2 hT (TT_V kM88 kiM_isRight ksM_isRight knM kcM_isRight) rfl rfl rfl (by decide +kernel) ⟨Nat.le_of_ble_eq_true rfl, Nat.le_of_ble_eq_true rfl⟩) (pcV hE hS hAb (va_recv hK hP (ci := 3) (q0 := 0) rfl rfl)) rfl rfl hl.1 rfl (lv_room (Nat.le_of_ble_eq_true rfl)) dM_rightOnes_30 ⟨Nat.le_of_ble_eq_true rfl, Nat.le_of_ble_eq_true rfl⟩) hS (fun q h => hFc q h) (fun v H1 h => by obtain ⟨S9, h9⟩ := h; exact Pst.fr hFc h9) (fun v H locs hpost hS => ?_)
            obtain ⟨F2, rfl, hP1, hD1, hz1, hk1⟩ := hpost
            obtain ⟨hP, hD⟩ := va_join (wr := []) (w1 := [(b, .inr (3, [.long sd, .int (nI nT), .int (nI nS), .ref (b + 1), .ref (b + 2), .ref (b + 3), .ref (b + 4), .ref (b + 5), .ref (b + 6), .ref (b + 7), .ref (b + 8), .int (nI th)])), ((b + 1), .inl (κ 0, 40, .inl (fun j => nI (mk j)))), ((b + 2), .inl (κ 0, 40, .inl (fun j => nI (ms j)))), ((b + 3), .inl (κ 0, 1040, .inl (fun x => nI (ma x)))), ((b + 6), .inl (κ 0, 120, .inl F2))]) hP hD [0, 1, 2, 3, 4] [] rfl rfl (by decide) (by decide) hk1 hFc hP1 hD1
            have hP : va_P D vwCl [(b, .inr (3, [.long sd, .int (nI nT), .int (nI nS), .ref (b + 1), .ref (b + 2), .ref (b + 3), .ref (b + 4), .ref (b + 5), .ref (b + 6), .ref (b + 7), .ref (b + 8), .int (nI th)])), ((b + 1), .inl (κ 0, 40, .inl (fun j => nI (mk j)))), ((b + 2), .inl (κ 0, 40, .inl (fun j => nI (ms j)))), ((b + 3), .inl (κ 0, 1040, .inl (fun x => nI (ma x)))), ((b + 6), .inl (κ 0, 120, .inl F2))] H := hP
            have hD : va_D A [(b, .inr (3, [.long sd, .int (nI nT), .int (nI nS), .ref (b + 1), .ref (b + 2), .ref (b + 3), .ref (b + 4), .ref (b + 5), .ref (b + 6), .ref (b + 7), .ref (b + 8), .int (nI th)])), ((b + 1), .inl (κ 0, 40, .inl (fun j => nI (mk j)))), ((b + 2), .inl (κ 0, 40, .inl (fun j => nI (ms j)))), ((b + 3), .inl (κ 0, 1040, .inl (fun x => nI (ma x)))), ((b + 6), .inl (κ 0, 120, .inl F2))] := hD
            refine W.eq (g2 := F0 m 33 ls [.int (nI 1), .int (nI (cnR ma (rgV sd (mk t) (ms t) t) t pp))]) rfl ?_
            refine x_zeq (a := 1) (tgt := 40) hx hb dM_rightOnes_33 (by decide) (by omega) (fun h1 => absurd h1 (by decide)) (fun h1 => ?_)
            refine lv_iconst (v := nI 1) hx hb dM_rightOnes_36 (by decide) ?_
            refine lv_goto (tgt := 41) hx hb dM_rightOnes_37 (by decide) ?_
            refine x_iadd (v := nI ((cnR ma (rgV sd (mk t) (ms t) t) t pp) + 1)) hx hb dM_rightOnes_41 (nI_add _ _) ?_
            refine x_topn (b := cnR ma (rgV sd (mk t) (ms t) t) t (pp + 1)) (by rw [cnR, if_pos ⟨g2, hri⟩]) ?_
            refine lv_istore_n (lv' := [(2, .int (nI (cnR ma (rgV sd (mk t) (ms t) t) t (pp + 1)))), (0, .ref b), (1, .int (nI t)), (3, .int (nI pp))]) hx hb dM_rightOnes_42 rfl hl (by decide) rfl (fun ls hl => ?_)
            refine lv_iinc (v := nI (pp + 1)) (lv' := [(3, .int (nI (pp + 1))), (2, .int (nI (cnR ma (rgV sd (mk t) (ms t) t) t (pp + 1)))), (0, .ref b), (1, .int (nI t))]) hx hb dM_rightOnes_43 hl (k := 3) rfl (nI_add _ _) (by decide) rfl (fun ls hl => ?_)
            refine lv_goto (tgt := 4) hx hb dM_rightOnes_46 (by decide) ?_
            exact ih (pp + 1) _ _ _ (by omega) hP hD hS (by omega) ls (lv_sub hl [2, 3, 1, 0] rfl)
          · have hFc := va_free (wc := [(b, .inr (3, [.long sd, .int (nI nT), .int (nI nS), .ref (b + 1), .ref (b + 2), .ref (b + 3), .ref (b + 4), .ref (b + 5), .ref (b + 6), .ref (b + 7), .ref (b + 8), .int (nI th)])), ((b + 1), .inl (κ 0, 40, .inl (fun j => nI (mk j)))), ((b + 2), .inl (κ 0, 40, .inl (fun j => nI (ms j)))), ((b + 3), .inl (κ 0, 1040, .inl (fun x => nI (ma x)))), ((b + 6), .inl (κ 0, 120, .inl F))]) hD hS hA [0, 1, 2, 3, 4] rfl
            have hPc := hP.sub (ws' := [(b, .inr (3, [.long sd, .int (nI nT), .int (nI nS), .ref (b + 1), .ref (b + 2), .ref (b + 3), .ref (b + 4), .ref (b + 5), .ref (b + 6), .ref (b + 7), .ref (b + 8), .int (nI th)])), ((b + 1), .inl (κ 0, 40, .inl (fun j => nI (mk j)))), ((b + 2), .inl (κ 0, 40, .inl (fun j => nI (ms j)))), ((b + 3), .inl (κ 0, 1040, .inl (fun x => nI (ma x)))), ((b + 6), .inl (κ 0, 120, .inl F))]) [0, 1, 2, 3, 4] rfl
            have hDc := (hD.sub (ws' := [(b, .inr (3, [.long sd, .int (nI nT), .int (nI nS), .ref (b + 1), .ref (b + 2), .ref (b + 3), .ref (b + 4), .ref (b + 5), .ref (b + 6), .ref (b + 7), .ref (b + 8), .int (nI th)])), ((b + 1), .inl (κ 0, 40, .inl (fun j => nI (mk j)))), ((b + 2), .inl (κ 0, 40, .inl (fun j => nI (ms j)))), ((b + 3), .inl (κ 0, 1040, .inl (fun x => nI (ma x)))), ((b + 6), .inl (κ 0, 120, .inl F))]) [0, 1, 2, 3, 4] (by decide) rfl).weaken (fun _ _ _ h => hAb _ h)
            have hbc : base ≤ H.size := Nat.le_trans hbs hS.1
            refine x_callW (va_runV (As := [.int (nI t), .int (nI pp)]) (rest := [.int (nI (cnR ma (rgV sd (mk t) (ms t) t) t pp))]) ⟨hx, hb, hml, hown, hT⟩ (c_M_isRight l D κ base H t pp ht (by omega) hok hk3 hma 0 (fun q => absurd q hri) (fun _ => rfl) hPc hDc hbc) (cwV 2 hT (TT_V kM88 kiM_isRight ksM_isRight knM kcM_isRight) rfl rfl rfl (by decide +kernel) ⟨Nat.le_of_ble_eq_true rfl, Nat.le_of_ble_eq_true rfl⟩) (pcV hE hS hAb (va_recv hK hP (ci := 3) (q0 := 0) rfl rfl)) rfl rfl hl.1 rfl (lv_room (Nat.le_of_ble_eq_true rfl)) dM_rightOnes_30 ⟨Nat.le_of_ble_eq_true rfl, Nat.le_of_ble_eq_true rfl⟩) hS (fun q h => hFc q h) (fun v H1 h => by obtain ⟨S9, h9⟩ := h; exact Pst.fr hFc h9) (fun v H locs hpost hS => ?_)
            obtain ⟨F2, rfl, hP1, hD1, hz1, hk1⟩ := hpost
            obtain ⟨hP, hD⟩ := va_join (wr := []) (w1 := [(b, .inr (3, [.long sd, .int (nI nT), .int (nI nS), .ref (b + 1), .ref (b + 2), .ref (b + 3), .ref (b + 4), .ref (b + 5), .ref (b + 6), .ref (b + 7), .ref (b + 8), .int (nI th)])), ((b + 1), .inl (κ 0, 40, .inl (fun j => nI (mk j)))), ((b + 2), .inl (κ 0, 40, .inl (fun j => nI (ms j)))), ((b + 3), .inl (κ 0, 1040, .inl (fun x => nI (ma x)))), ((b + 6), .inl (κ 0, 120, .inl F2))]) hP hD [0, 1, 2, 3, 4] [] rfl rfl (by decide) (by decide) hk1 hFc hP1 hD1
            have hP : va_P D vwCl [(b, .inr (3, [.long sd, .int (nI nT), .int (nI nS), .ref (b + 1), .ref (b + 2), .ref (b + 3), .ref (b + 4), .ref (b + 5), .ref (b + 6), .ref (b + 7), .ref (b + 8), .int (nI th)])), ((b + 1), .inl (κ 0, 40, .inl (fun j => nI (mk j)))), ((b + 2), .inl (κ 0, 40, .inl (fun j => nI (ms j)))), ((b + 3), .inl (κ 0, 1040, .inl (fun x => nI (ma x)))), ((b + 6), .inl (κ 0, 120, .inl F2))] H := hP
            have hD : va_D A [(b, .inr (3, [.long sd, .int (nI nT), .int (nI nS), .ref (b + 1), .ref (b + 2), .ref (b + 3), .ref (b + 4), .ref (b + 5), .ref (b + 6), .ref (b + 7), .ref (b + 8), .int (nI th)])), ((b + 1), .inl (κ 0, 40, .inl (fun j => nI (mk j)))), ((b + 2), .inl (κ 0, 40, .inl (fun j => nI (ms j)))), ((b + 3), .inl (κ 0, 1040, .inl (fun x => nI (ma x)))), ((b + 6), .inl (κ 0, 120, .inl F2))] := hD
            refine W.eq (g2 := F0 m 33 ls [.int (nI 0), .int (nI (cnR ma (rgV sd (mk t) (ms t) t) t pp))]) rfl ?_
            refine x_zeq (a := 0) (tgt := 40) hx hb dM_rightOnes_33 (by decide) (by omega) (fun h2 => ?_) (fun h2 => absurd rfl h2)
            refine lv_iconst (v := nI 0) hx hb dM_rightOnes_40 (by decide) ?_
            refine x_iadd (v := nI ((cnR ma (rgV sd (mk t) (ms t) t) t pp) + 0)) hx hb dM_rightOnes_41 (nI_add _ _) ?_
            refine x_topn (b := cnR ma (rgV sd (mk t) (ms t) t) t (pp + 1)) (by rw [cnR, if_neg (fun q => hri q.2)]) ?_
            refine lv_istore_n (lv' := [(2, .int (nI (cnR ma (rgV sd (mk t) (ms t) t) t (pp + 1)))), (0, .ref b), (1, .int (nI t)), (3, .int (nI pp))]) hx hb dM_rightOnes_42 rfl hl (by decide) rfl (fun ls hl => ?_)
            refine lv_iinc (v := nI (pp + 1)) (lv' := [(3, .int (nI (pp + 1))), (2, .int (nI (cnR ma (rgV sd (mk t) (ms t) t) t (pp + 1)))), (0, .ref b), (1, .int (nI t))]) hx hb dM_rightOnes_43 hl (k := 3) rfl (nI_add _ _) (by decide) rfl (fun ls hl => ?_)
            refine lv_goto (tgt := 4) hx hb dM_rightOnes_46 (by decide) ?_
            exact ih (pp + 1) _ _ _ (by omega) hP hD hS (by omega) ls (lv_sub hl [2, 3, 1, 0] rfl)
  refine lv_iconst (v := nI 0) hx hb dM_rightOnes_0 (by decide) ?_
  refine lv_istore_n (lv' := [(2, .int (nI 0)), (0, .ref b), (1, .int (nI t))]) hx hb dM_rightOnes_1 rfl hl (by decide) rfl (fun ls hl => ?_)
  refine lv_iconst (v := nI 0) hx hb dM_rightOnes_2 (by decide) ?_
  refine lv_istore_n (lv' := [(3, .int (nI 0)), (2, .int (nI 0)), (0, .ref b), (1, .int (nI t))]) hx hb dM_rightOnes_3 rfl hl (by decide) rfl (fun ls hl => ?_)
  exact loop (nT + 1) 0 Fz _ _ (by omega) hP hD hS (by omega) ls (lv_sub hl [2, 3, 1, 0] rfl)
set_option maxHeartbeats 400000 in
set_option maxRecDepth 100000 in
theorem c_M_atLeast (l : Launch) (D : va_G) (κ : Nat → ClassId) (base : Nat) (H0 : Heap) {b : Nat} {nT : Nat} {nS : Nat} {th : Nat} {sd : Int64} {Sz : Nat → Int64} (n r k0 : Nat) (hn : n ≤ 26) (hr1 : r ≤ n + 1) (hk1 : 1 ≤ k0) (hk2 : k0 ≤ 5) (hP : va_P D vwCl [(b, .inr (3, [.long sd, .int (nI nT), .int (nI nS), .ref (b + 1), .ref (b + 2), .ref (b + 3), .ref (b + 4), .ref (b + 5), .ref (b + 6), .ref (b + 7), .ref (b + 8), .int (nI th)])), ((b + 7), .inl (κ 2, 140, .inr (.inl Sz)))] H0) (hD0 : va_D (fun q => base ≤ q) [(b, .inr (3, [.long sd, .int (nI nT), .int (nI nS), .ref (b + 1), .ref (b + 2), .ref (b + 3), .ref (b + 4), .ref (b + 5), .ref (b + 6), .ref (b + 7), .ref (b + 8), .int (nI th)])), ((b + 7), .inl (κ 2, 140, .inr (.inl Sz)))]) (hbs : base ≤ H0.size)  : Met l yM_atLeast wM_atLeast ({ frames := 0, cells := 0, slots := 0, locals := 0 }) (Pq D κ base [.ref b, .int (nI n), .int (nI r), .int (nI k0)] H0) (q_W (fun v H => ∃ S : Nat → Int64, Pst D (va_A [(b, .inr (3, [.long sd, .int (nI nT), .int (nI nS), .ref (b + 1), .ref (b + 2), .ref (b + 3), .ref (b + 4), .ref (b + 5), .ref (b + 6), .ref (b + 7), .ref (b + 8), .int (nI th)])), ((b + 7), .inl (κ 2, 140, .inr (.inl Sz)))] H0.size) H0 (some (.long (lN (atl n r k0)))) [(b, .inr (3, [.long sd, .int (nI nT), .int (nI nS), .ref (b + 1), .ref (b + 2), .ref (b + 3), .ref (b + 4), .ref (b + 5), .ref (b + 6), .ref (b + 7), .ref (b + 8), .int (nI th)])), ((b + 7), .inl (κ 2, 140, .inr (.inl S)))] v H)) 0 0 (va_A [(b, .inr (3, [.long sd, .int (nI nT), .int (nI nS), .ref (b + 1), .ref (b + 2), .ref (b + 3), .ref (b + 4), .ref (b + 5), .ref (b + 6), .ref (b + 7), .ref (b + 8), .int (nI th)])), ((b + 7), .inl (κ 2, 140, .inr (.inl Sz)))] H0.size) := by
  refine Met.ofW (cc := bM_atLeast) (maxL := 7) (ret := (some FieldType.long)) (by decide) rfl ?_
  intro p e s m args below meth c s₁ B hml hv
  obtain ⟨rfl, hH, hE⟩ := hv
  subst hH
  have hx := B.exec
  have hb := B.bytes
  have hr := B.returns
  have hT : ∀ w ∈ TT, w.before _ s = true := fun w h => atoms_spec (ws := wM_atLeast) B.pre w (List.mem_cons_of_mem _ h)
  have hown : s.vm.findClass "TasterPanelsModel" = some m.cls := findClass_of_methodNamed B.named
  have hlocks := B.notSynchronized
  have hK := hE.1
  have hD := hD0.self (sz := s.heap.size)
  have hAb : ∀ x9, va_A [(b, .inr (3, [.long sd, .int (nI nT), .int (nI nS), .ref (b + 1), .ref (b + 2), .ref (b + 3), .ref (b + 4), .ref (b + 5), .ref (b + 6), .ref (b + 7), .ref (b + 8), .int (nI th)])), ((b + 7), .inl (κ 2, 140, .inr (.inl Sz)))] s.heap.size x9 → base ≤ x9 := fun x9 h => by rcases h with ⟨k, e, h⟩ | h; exact hD0.2 k _ h; exact Nat.le_trans hbs h
  generalize hAe : va_A [(b, .inr (3, [.long sd, .int (nI nT), .int (nI nS), .ref (b + 1), .ref (b + 2), .ref (b + 3), .ref (b + 4), .ref (b + 5), .ref (b + 6), .ref (b + 7), .ref (b + 8), .int (nI th)])), ((b + 7), .inl (κ 2, 140, .inr (.inl Sz)))] s.heap.size = A at hD hAb ⊢
  have hA : ∀ x9, s.heap.size ≤ x9 → A x9 := fun x9 h => by rw [← hAe]; exact Or.inr h
  have hS : va_S A s.heap s.heap [] := va_S.rf
  have hl := lv_entry ([.ref b, .int (nI n), .int (nI r), .int (nI k0)]) (n := 7) (Nat.le_of_ble_eq_true rfl)
  rw [lg_entry_eq]
  generalize (lg_sl ([.ref b, .int (nI n), .int (nI r), .int (nI k0)]) ++ List.replicate (7 - (lg_sl ([.ref b, .int (nI n), .int (nI r), .int (nI k0)])).length) Slot.unset).toArray = ls at hl ⊢
  have hl : lv_has ls 7 [(0, .ref b), (1, .int (nI n)), (2, .int (nI r)), (3, .int (nI k0))] := hl
  have loopD : ∀ (fu : Nat) (j : Nat) (S : Nat → Int64) (H : Heap) (locs : List Loc), (j ≤ n + 1 - r) → (∀ x, x ≤ n → S x = lN (pG k0 n x)) → va_P D vwCl [(b, .inr (3, [.long sd, .int (nI nT), .int (nI nS), .ref (b + 1), .ref (b + 2), .ref (b + 3), .ref (b + 4), .ref (b + 5), .ref (b + 6), .ref (b + 7), .ref (b + 8), .int (nI th)])), ((b + 7), .inl (κ 2, 140, .inr (.inl S)))] H → va_D A [(b, .inr (3, [.long sd, .int (nI nT), .int (nI nS), .ref (b + 1), .ref (b + 2), .ref (b + 3), .ref (b + 4), .ref (b + 5), .ref (b + 6), .ref (b + 7), .ref (b + 8), .int (nI th)])), ((b + 7), .inl (κ 2, 140, .inr (.inl S)))] → va_S A s.heap H locs → n + 2 - j < fu → ∀ ls : Array Slot, lv_has ls 7 [(0, .ref b), (1, .int (nI n)), (2, .int (nI r)), (4, .long (lN (atS (pG k0 n) r j))), (6, .int (nI (r + j)))] → W p l e (headSpec wM_atLeast ({ frames := 0, cells := 0, slots := 0, locals := 0 })).room s m ([.ref b, .int (nI n), .int (nI r), .int (nI k0)] : List Value).toArray below meth c H locs 0 0 (MQ below (q_W (fun v H => ∃ S : Nat → Int64, Pst D A s.heap (some (.long (lN (atl n r k0)))) [(b, .inr (3, [.long sd, .int (nI nT), .int (nI nS), .ref (b + 1), .ref (b + 2), .ref (b + 3), .ref (b + 4), .ref (b + 5), .ref (b + 6), .ref (b + 7), .ref (b + 8), .int (nI th)])), ((b + 7), .inl (κ 2, 140, .inr (.inl S)))] v H)) ([.ref b, .int (nI n), .int (nI r), .int (nI k0)] : List Value).toArray s 0 0 A) (F0 m 105 ls []) := by
    intro fu
    induction fu with
    | zero =>
      intro j S H locs hj hW hP hD hS hmu
      exact absurd hmu (Nat.not_lt_zero _)
    | succ fu ih =>
      intro j S H locs hj hW hP hD hS hmu ls hl
      refine lv_iload hx hb dM_atLeast_105 (lv_at hl 4 rfl) ?_
      refine lv_iload_n hx hb dM_atLeast_107 rfl (lv_at hl 1 rfl) ?_
      refine x_cgt (a := r + j) (b := n) (tgt := 129) hx hb dM_atLeast_108 (by decide) (by omega) (by omega) (fun h1 => ?_) (fun h1 => ?_)
      · refine lv_lload hx hb dM_atLeast_129 (lv_at hl 3 rfl) ?_
        refine x_topl (y := lN (atl n r k0)) (by rw [atl, show n + 1 - r = j by omega]) ?_
        exact W.lret (v := lN (atl n r k0)) hx hb hr (fun t9 ht9 hW9 => ⟨some (.long (lN (atl n r k0))), rfl, by rw [ht9]; exact ⟨S, rfl, hP, hD, hS.1, hS.2.1⟩⟩) hS.2.2 dM_atLeast_131
      · refine lv_lload hx hb dM_atLeast_111 (lv_at hl 3 rfl) ?_
        refine lv_aload_n hx hb dM_atLeast_113 rfl (lv_at hl 0 rfl) ?_
        refine va_get (D := D) (ci := 3) (v := .ref (b + 7)) (C := RM) (T := FM) (N := 12) hx hb hT inM hown hK hP 0 rfl rfl 9 (by decide) (hT _ kM28) (fun _ h9 => h9) rfl dM_atLeast_114 ?_
        refine lv_iload hx hb dM_atLeast_117 (lv_at hl 4 rfl) ?_
        refine x_lald hx hb hK hP 1 2 (j := r + j) (v := S (r + j)) rfl rfl (by omega) (by decide) (rfl) dM_atLeast_119 ?_
        refine x_ladd (v := (lN (atS (pG k0 n) r j)) + (S (r + j))) hx hb dM_atLeast_120 (rfl) ?_
        refine x_topl (y := lN (atS (pG k0 n) r (j + 1))) (by rw [hW _ (by omega), lN_add]; rfl) ?_
        refine lv_lstore (lv' := [(4, .long (lN (atS (pG k0 n) r (j + 1)))), (0, .ref b), (1, .int (nI n)), (2, .int (nI r)), (6, .int (nI (r + j)))]) hx hb dM_atLeast_121 hl (by decide) rfl (fun ls hl => ?_)
        refine lv_iinc (v := nI (r + j + 1)) (lv' := [(6, .int (nI (r + j + 1))), (4, .long (lN (atS (pG k0 n) r (j + 1)))), (0, .ref b), (1, .int (nI n)), (2, .int (nI r))]) hx hb dM_atLeast_123 hl (k := 4) rfl (nI_add _ _) (by decide) rfl (fun ls hl => ?_)
        refine lv_goto (tgt := 105) hx hb dM_atLeast_126 (by decide) ?_
        exact ih (j + 1) S _ _ (by omega) hW hP hD hS (by omega) ls (lv_sub hl [2, 3, 4, 1, 0] rfl)
  have loopB : ∀ (fu : Nat) (t : Nat) (S : Nat → Int64) (H : Heap) (locs : List Loc), (t ≤ n) → (∀ x, x ≤ n → S x = lN (pG k0 t x)) → va_P D vwCl [(b, .inr (3, [.long sd, .int (nI nT), .int (nI nS), .ref (b + 1), .ref (b + 2), .ref (b + 3), .ref (b + 4), .ref (b + 5), .ref (b + 6), .ref (b + 7), .ref (b + 8), .int (nI th)])), ((b + 7), .inl (κ 2, 140, .inr (.inl S)))] H → va_D A [(b, .inr (3, [.long sd, .int (nI nT), .int (nI nS), .ref (b + 1), .ref (b + 2), .ref (b + 3), .ref (b + 4), .ref (b + 5), .ref (b + 6), .ref (b + 7), .ref (b + 8), .int (nI th)])), ((b + 7), .inl (κ 2, 140, .inr (.inl S)))] → va_S A s.heap H locs → n - t < fu → ∀ ls : Array Slot, lv_has ls 7 [(0, .ref b), (1, .int (nI n)), (2, .int (nI r)), (3, .int (nI k0)), (4, .int (nI t))] → W p l e (headSpec wM_atLeast ({ frames := 0, cells := 0, slots := 0, locals := 0 })).room s m ([.ref b, .int (nI n), .int (nI r), .int (nI k0)] : List Value).toArray below meth c H locs 0 0 (MQ below (q_W (fun v H => ∃ S : Nat → Int64, Pst D A s.heap (some (.long (lN (atl n r k0)))) [(b, .inr (3, [.long sd, .int (nI nT), .int (nI nS), .ref (b + 1), .ref (b + 2), .ref (b + 3), .ref (b + 4), .ref (b + 5), .ref (b + 6), .ref (b + 7), .ref (b + 8), .int (nI th)])), ((b + 7), .inl (κ 2, 140, .inr (.inl S)))] v H)) ([.ref b, .int (nI n), .int (nI r), .int (nI k0)] : List Value).toArray s 0 0 A) (F0 m 35 ls []) := by
    intro fu
    induction fu with
    | zero =>
      intro t S H locs ht hW hP hD hS hmu
      exact absurd hmu (Nat.not_lt_zero _)
    | succ fu ihB =>
      intro t S H locs ht hW hP hD hS hmu ls hl
      refine lv_iload hx hb dM_atLeast_35 (lv_at hl 4 rfl) ?_
      refine lv_iload_n hx hb dM_atLeast_37 rfl (lv_at hl 1 rfl) ?_
      refine x_cge (a := t) (b := n) (tgt := 99) hx hb dM_atLeast_38 (by decide) (by omega) (by omega) (fun g0 => ?_) (fun g0 => ?_)
      · have e1 : t = n := by omega
        have hW2 : ∀ x, x ≤ n → S x = lN (pG k0 n x) := fun x hx => by rw [hW x hx, e1]
        refine lv_lconst (v := lN 0) hx hb dM_atLeast_99 (by decide) ?_
        refine lv_lstore (lv' := [(4, .long (lN 0)), (0, .ref b), (1, .int (nI n)), (2, .int (nI r)), (3, .int (nI k0))]) hx hb dM_atLeast_100 hl (by decide) rfl (fun ls hl => ?_)
        refine lv_iload_n hx hb dM_atLeast_102 rfl (lv_at hl 3 rfl) ?_
        refine x_topn (b := r + 0) (by omega) ?_
        refine lv_istore (lv' := [(6, .int (nI (r + 0))), (4, .long (lN 0)), (0, .ref b), (1, .int (nI n)), (2, .int (nI r)), (3, .int (nI k0))]) hx hb dM_atLeast_103 hl (by decide) rfl (fun ls hl => ?_)
        exact loopD (n + 3) 0 S _ _ (by omega) hW2 hP hD hS (by omega) ls (lv_sub hl [2, 3, 4, 1, 0] rfl)
      · have loopC : ∀ (fu : Nat) (y : Nat) (S : Nat → Int64) (H : Heap) (locs : List Loc), (y ≤ n + 1) → (∀ x, x ≤ n → S x = lN (if y ≤ x then pG k0 (t + 1) x else pG k0 t x)) → va_P D vwCl [(b, .inr (3, [.long sd, .int (nI nT), .int (nI nS), .ref (b + 1), .ref (b + 2), .ref (b + 3), .ref (b + 4), .ref (b + 5), .ref (b + 6), .ref (b + 7), .ref (b + 8), .int (nI th)])), ((b + 7), .inl (κ 2, 140, .inr (.inl S)))] H → va_D A [(b, .inr (3, [.long sd, .int (nI nT), .int (nI nS), .ref (b + 1), .ref (b + 2), .ref (b + 3), .ref (b + 4), .ref (b + 5), .ref (b + 6), .ref (b + 7), .ref (b + 8), .int (nI th)])), ((b + 7), .inl (κ 2, 140, .inr (.inl S)))] → va_S A s.heap H locs → y < fu → ∀ ls : Array Slot, lv_has ls 7 [(0, .ref b), (1, .int (nI n)), (2, .int (nI r)), (3, .int (nI k0)), (4, .int (nI t)), (5, .int (nI y - 1))] → W p l e (headSpec wM_atLeast ({ frames := 0, cells := 0, slots := 0, locals := 0 })).room s m ([.ref b, .int (nI n), .int (nI r), .int (nI k0)] : List Value).toArray below meth c H locs 0 0 (MQ below (q_W (fun v H => ∃ S : Nat → Int64, Pst D A s.heap (some (.long (lN (atl n r k0)))) [(b, .inr (3, [.long sd, .int (nI nT), .int (nI nS), .ref (b + 1), .ref (b + 2), .ref (b + 3), .ref (b + 4), .ref (b + 5), .ref (b + 6), .ref (b + 7), .ref (b + 8), .int (nI th)])), ((b + 7), .inl (κ 2, 140, .inr (.inl S)))] v H)) ([.ref b, .int (nI n), .int (nI r), .int (nI k0)] : List Value).toArray s 0 0 A) (F0 m 44 ls []) := by
          intro fu
          induction fu with
          | zero =>
            intro y S H locs hy hW hP hD hS hmu
            exact absurd hmu (Nat.not_lt_zero _)
          | succ fu ihC =>
            intro y S H locs hy hW hP hD hS hmu ls hl
            rcases y with _ | y
            · refine lv_iload hx hb dM_atLeast_44 (lv_at hl 5 rfl) ?_
              refine lv_if_lt (tgt := 93) hx hb dM_atLeast_46 (by decide) (fun h2 => ?_) (fun h2 => absurd (by decide) h2)
              refine lv_iinc (v := nI (t + 1)) (lv' := [(4, .int (nI (t + 1))), (0, .ref b), (1, .int (nI n)), (2, .int (nI r)), (3, .int (nI k0)), (5, .int (nI 0 - 1))]) hx hb dM_atLeast_93 hl (k := 4) rfl (nI_add _ _) (by decide) rfl (fun ls hl => ?_)
              refine lv_goto (tgt := 35) hx hb dM_atLeast_96 (by decide) ?_
              exact ihB (t + 1) S _ _ (by omega) (fun x hx => by rw [hW x hx, if_pos (Nat.zero_le _)]) hP hD hS (by omega) ls (lv_sub hl [1, 2, 3, 4, 0] rfl)
            · rw [nI_pred] at hl
              refine lv_iload hx hb dM_atLeast_44 (lv_at hl 5 rfl) ?_
              refine x_zlt (a := y) (tgt := 93) hx hb dM_atLeast_46 (by decide) (by omega) ?_
              refine lv_aload_n hx hb dM_atLeast_49 rfl (lv_at hl 0 rfl) ?_
              refine va_get (D := D) (ci := 3) (v := .ref (b + 7)) (C := RM) (T := FM) (N := 12) hx hb hT inM hown hK hP 0 rfl rfl 9 (by decide) (hT _ kM28) (fun _ h9 => h9) rfl dM_atLeast_50 ?_
              refine lv_iload hx hb dM_atLeast_53 (lv_at hl 5 rfl) ?_
              refine lv_aload_n hx hb dM_atLeast_55 rfl (lv_at hl 0 rfl) ?_
              refine va_get (D := D) (ci := 3) (v := .ref (b + 7)) (C := RM) (T := FM) (N := 12) hx hb hT inM hown hK hP 0 rfl rfl 9 (by decide) (hT _ kM28) (fun _ h9 => h9) rfl dM_atLeast_56 ?_
              refine lv_iload hx hb dM_atLeast_59 (lv_at hl 5 rfl) ?_
              refine x_lald hx hb hK hP 1 2 (j := y) (v := S y) rfl rfl (by omega) (by decide) (rfl) dM_atLeast_61 ?_
              refine lv_iload_n hx hb dM_atLeast_62 rfl (lv_at hl 3 rfl) ?_
              refine lv_iconst (v := nI 1) hx hb dM_atLeast_63 (by decide) ?_
              refine x_isub (v := nI (k0 - 1)) hx hb dM_atLeast_64 (pk_sub (by omega)) ?_
              refine lv_i2l (v := lN (k0 - 1)) hx hb dM_atLeast_65 (nI_l (by omega)) ?_
              refine x_lmul (v := (S y) * (lN (k0 - 1))) hx hb dM_atLeast_66 (rfl) ?_
              refine lv_iload hx hb dM_atLeast_67 (lv_at hl 5 rfl) ?_
              refine x_zle (a := y) (tgt := 84) hx hb dM_atLeast_69 (by decide) (by omega) (fun g3 => ?_) (fun g3 => ?_)
              · refine lv_lconst (v := lN 0) hx hb dM_atLeast_84 (by decide) ?_
                refine x_ladd (v := ((S y) * (lN (k0 - 1))) + (lN 0)) hx hb dM_atLeast_85 (rfl) ?_
                refine x_topl (y := lN (pG k0 (t + 1) y)) (by rw [hW y (by omega), if_neg (by omega), lN_mul, lN_add]; show _ = lN (pG k0 t y * (k0 - 1) + (if 0 < y then _ else 0)); rw [if_neg (by omega)]) ?_
                refine x_last hx hb hK hP hD hS 1 2 (j := y) rfl rfl (by omega) (by decide) dM_atLeast_86 (fun H locs hP hD hS => ?_)
                have hP : va_P D vwCl [(b, .inr (3, [.long sd, .int (nI nT), .int (nI nS), .ref (b + 1), .ref (b + 2), .ref (b + 3), .ref (b + 4), .ref (b + 5), .ref (b + 6), .ref (b + 7), .ref (b + 8), .int (nI th)])), ((b + 7), .inl (κ 2, 140, .inr (.inl (vp_updL S y (lN (pG k0 (t + 1) y))))))] H := hP
                have hD : va_D A [(b, .inr (3, [.long sd, .int (nI nT), .int (nI nS), .ref (b + 1), .ref (b + 2), .ref (b + 3), .ref (b + 4), .ref (b + 5), .ref (b + 6), .ref (b + 7), .ref (b + 8), .int (nI th)])), ((b + 7), .inl (κ 2, 140, .inr (.inl (vp_updL S y (lN (pG k0 (t + 1) y))))))] := hD
                refine lv_iinc (v := nI y - 1) (lv' := [(5, .int (nI y - 1)), (0, .ref b), (1, .int (nI n)), (2, .int (nI r)), (3, .int (nI k0)), (4, .int (nI t))]) hx hb dM_atLeast_87 hl (k := 5) rfl (addm1 _) (by decide) rfl (fun ls hl => ?_)
                refine lv_goto (tgt := 44) hx hb dM_atLeast_90 (by decide) ?_
                exact ihC y _ _ _ (by omega) (pg_put (g := pG k0 t) (g2 := pG k0 (t + 1)) hW) hP hD hS (by omega) ls (lv_sub hl [1, 2, 3, 4, 5, 0] rfl)
              · refine lv_aload_n hx hb dM_atLeast_72 rfl (lv_at hl 0 rfl) ?_
                refine va_get (D := D) (ci := 3) (v := .ref (b + 7)) (C := RM) (T := FM) (N := 12) hx hb hT inM hown hK hP 0 rfl rfl 9 (by decide) (hT _ kM28) (fun _ h9 => h9) rfl dM_atLeast_73 ?_
                refine lv_iload hx hb dM_atLeast_76 (lv_at hl 5 rfl) ?_
                refine lv_iconst (v := nI 1) hx hb dM_atLeast_78 (by decide) ?_
                refine x_isub (v := nI (y - 1)) hx hb dM_atLeast_79 (pk_sub (by omega)) ?_
                refine x_lald hx hb hK hP 1 2 (j := y - 1) (v := S (y - 1)) rfl rfl (by omega) (by decide) (rfl) dM_atLeast_80 ?_
                refine lv_goto (tgt := 85) hx hb dM_atLeast_81 (by decide) ?_
                refine x_ladd (v := ((S y) * (lN (k0 - 1))) + (S (y - 1))) hx hb dM_atLeast_85 (rfl) ?_
                refine x_topl (y := lN (pG k0 (t + 1) y)) (by rw [hW y (by omega), hW (y - 1) (by omega), if_neg (by omega), if_neg (by omega), lN_mul, lN_add]; show _ = lN (pG k0 t y * (k0 - 1) + (if 0 < y then pG k0 t (y - 1) else 0)); rw [if_pos (by omega)]) ?_
                refine x_last hx hb hK hP hD hS 1 2 (j := y) rfl rfl (by omega) (by decide) dM_atLeast_86 (fun H locs hP hD hS => ?_)
                have hP : va_P D vwCl [(b, .inr (3, [.long sd, .int (nI nT), .int (nI nS), .ref (b + 1), .ref (b + 2), .ref (b + 3), .ref (b + 4), .ref (b + 5), .ref (b + 6), .ref (b + 7), .ref (b + 8), .int (nI th)])), ((b + 7), .inl (κ 2, 140, .inr (.inl (vp_updL S y (lN (pG k0 (t + 1) y))))))] H := hP
                have hD : va_D A [(b, .inr (3, [.long sd, .int (nI nT), .int (nI nS), .ref (b + 1), .ref (b + 2), .ref (b + 3), .ref (b + 4), .ref (b + 5), .ref (b + 6), .ref (b + 7), .ref (b + 8), .int (nI th)])), ((b + 7), .inl (κ 2, 140, .inr (.inl (vp_updL S y (lN (pG k0 (t + 1) y))))))] := hD
                refine lv_iinc (v := nI y - 1) (lv' := [(5, .int (nI y - 1)), (0, .ref b), (1, .int (nI n)), (2, .int (nI r)), (3, .int (nI k0)), (4, .int (nI t))]) hx hb dM_atLeast_87 hl (k := 5) rfl (addm1 _) (by decide) rfl (fun ls hl => ?_)
                refine lv_goto (tgt := 44) hx hb dM_atLeast_90 (by decide) ?_
                exact ihC y _ _ _ (by omega) (pg_put (g := pG k0 t) (g2 := pG k0 (t + 1)) hW) hP hD hS (by omega) ls (lv_sub hl [1, 2, 3, 4, 5, 0] rfl)
        refine lv_iload_n hx hb dM_atLeast_41 rfl (lv_at hl 1 rfl) ?_
        refine x_topi (y := nI (n + 1) - 1) ((nI_pred _).symm) ?_
        refine lv_istore (lv' := [(5, .int (nI (n + 1) - 1)), (0, .ref b), (1, .int (nI n)), (2, .int (nI r)), (3, .int (nI k0)), (4, .int (nI t))]) hx hb dM_atLeast_42 hl (by decide) rfl (fun ls hl => ?_)
        exact loopC (n + 2) (n + 1) S _ _ (by omega) (fun x hx => by rw [hW x hx, if_neg (by omega)]) hP hD hS (by omega) ls (lv_sub hl [1, 2, 3, 4, 5, 0] rfl)
  have loopA : ∀ (fu : Nat) (k : Nat) (S : Nat → Int64) (H : Heap) (locs : List Loc), (k ≤ n + 1) → (∀ x, x < k → S x = lN (pG k0 0 x)) → va_P D vwCl [(b, .inr (3, [.long sd, .int (nI nT), .int (nI nS), .ref (b + 1), .ref (b + 2), .ref (b + 3), .ref (b + 4), .ref (b + 5), .ref (b + 6), .ref (b + 7), .ref (b + 8), .int (nI th)])), ((b + 7), .inl (κ 2, 140, .inr (.inl S)))] H → va_D A [(b, .inr (3, [.long sd, .int (nI nT), .int (nI nS), .ref (b + 1), .ref (b + 2), .ref (b + 3), .ref (b + 4), .ref (b + 5), .ref (b + 6), .ref (b + 7), .ref (b + 8), .int (nI th)])), ((b + 7), .inl (κ 2, 140, .inr (.inl S)))] → va_S A s.heap H locs → n + 1 - k < fu → ∀ ls : Array Slot, lv_has ls 7 [(0, .ref b), (1, .int (nI n)), (2, .int (nI r)), (3, .int (nI k0)), (4, .int (nI k))] → W p l e (headSpec wM_atLeast ({ frames := 0, cells := 0, slots := 0, locals := 0 })).room s m ([.ref b, .int (nI n), .int (nI r), .int (nI k0)] : List Value).toArray below meth c H locs 0 0 (MQ below (q_W (fun v H => ∃ S : Nat → Int64, Pst D A s.heap (some (.long (lN (atl n r k0)))) [(b, .inr (3, [.long sd, .int (nI nT), .int (nI nS), .ref (b + 1), .ref (b + 2), .ref (b + 3), .ref (b + 4), .ref (b + 5), .ref (b + 6), .ref (b + 7), .ref (b + 8), .int (nI th)])), ((b + 7), .inl (κ 2, 140, .inr (.inl S)))] v H)) ([.ref b, .int (nI n), .int (nI r), .int (nI k0)] : List Value).toArray s 0 0 A) (F0 m 3 ls []) := by
    intro fu
    induction fu with
    | zero =>
      intro k S H locs hk hW hP hD hS hmu
      exact absurd hmu (Nat.not_lt_zero _)
    | succ fu ih =>
      intro k S H locs hk hW hP hD hS hmu ls hl
      refine lv_iload hx hb dM_atLeast_3 (lv_at hl 4 rfl) ?_
      refine lv_iload_n hx hb dM_atLeast_5 rfl (lv_at hl 1 rfl) ?_
      refine x_cgt (a := k) (b := n) (tgt := 32) hx hb dM_atLeast_6 (by decide) (by omega) (by omega) (fun g1 => ?_) (fun g1 => ?_)
      · have hW2 : ∀ x, x ≤ n → S x = lN (pG k0 0 x) := fun x hx => hW x (by omega)
        refine lv_iconst (v := nI 0) hx hb dM_atLeast_32 (by decide) ?_
        refine lv_istore (lv' := [(4, .int (nI 0)), (0, .ref b), (1, .int (nI n)), (2, .int (nI r)), (3, .int (nI k0))]) hx hb dM_atLeast_33 hl (by decide) rfl (fun ls hl => ?_)
        exact loopB (n + 1) 0 S _ _ (by omega) hW2 hP hD hS (by omega) ls (lv_sub hl [1, 2, 3, 4, 0] rfl)
      · refine lv_aload_n hx hb dM_atLeast_9 rfl (lv_at hl 0 rfl) ?_
        refine va_get (D := D) (ci := 3) (v := .ref (b + 7)) (C := RM) (T := FM) (N := 12) hx hb hT inM hown hK hP 0 rfl rfl 9 (by decide) (hT _ kM28) (fun _ h9 => h9) rfl dM_atLeast_10 ?_
        refine lv_iload hx hb dM_atLeast_13 (lv_at hl 4 rfl) ?_
        refine lv_iload hx hb dM_atLeast_15 (lv_at hl 4 rfl) ?_
        refine x_zne (a := k) (tgt := 24) hx hb dM_atLeast_17 (by decide) (by omega) (fun g2 => ?_) (fun g2 => ?_)
        · refine lv_lconst (v := lN 0) hx hb dM_atLeast_24 (by decide) ?_
          refine x_last hx hb hK hP hD hS 1 2 (j := k) rfl rfl (by omega) (by decide) dM_atLeast_25 (fun H locs hP hD hS => ?_)
          have hP : va_P D vwCl [(b, .inr (3, [.long sd, .int (nI nT), .int (nI nS), .ref (b + 1), .ref (b + 2), .ref (b + 3), .ref (b + 4), .ref (b + 5), .ref (b + 6), .ref (b + 7), .ref (b + 8), .int (nI th)])), ((b + 7), .inl (κ 2, 140, .inr (.inl (vp_updL S k (lN 0)))))] H := hP
          have hD : va_D A [(b, .inr (3, [.long sd, .int (nI nT), .int (nI nS), .ref (b + 1), .ref (b + 2), .ref (b + 3), .ref (b + 4), .ref (b + 5), .ref (b + 6), .ref (b + 7), .ref (b + 8), .int (nI th)])), ((b + 7), .inl (κ 2, 140, .inr (.inl (vp_updL S k (lN 0)))))] := hD
          refine lv_iinc (v := nI (k + 1)) (lv' := [(4, .int (nI (k + 1))), (0, .ref b), (1, .int (nI n)), (2, .int (nI r)), (3, .int (nI k0))]) hx hb dM_atLeast_26 hl (k := 4) rfl (nI_add _ _) (by decide) rfl (fun ls hl => ?_)
          refine lv_goto (tgt := 3) hx hb dM_atLeast_29 (by decide) ?_
          exact ih (k + 1) _ _ _ (by omega) (pg_0 (c := k0) hW (by simp [pG, g2])) hP hD hS (by omega) ls (lv_sub hl [1, 2, 3, 4, 0] rfl)
        · refine lv_lconst (v := lN 1) hx hb dM_atLeast_20 (by decide) ?_
          refine lv_goto (tgt := 25) hx hb dM_atLeast_21 (by decide) ?_
          refine x_last hx hb hK hP hD hS 1 2 (j := k) rfl rfl (by omega) (by decide) dM_atLeast_25 (fun H locs hP hD hS => ?_)
          have hP : va_P D vwCl [(b, .inr (3, [.long sd, .int (nI nT), .int (nI nS), .ref (b + 1), .ref (b + 2), .ref (b + 3), .ref (b + 4), .ref (b + 5), .ref (b + 6), .ref (b + 7), .ref (b + 8), .int (nI th)])), ((b + 7), .inl (κ 2, 140, .inr (.inl (vp_updL S k (lN 1)))))] H := hP
          have hD : va_D A [(b, .inr (3, [.long sd, .int (nI nT), .int (nI nS), .ref (b + 1), .ref (b + 2), .ref (b + 3), .ref (b + 4), .ref (b + 5), .ref (b + 6), .ref (b + 7), .ref (b + 8), .int (nI th)])), ((b + 7), .inl (κ 2, 140, .inr (.inl (vp_updL S k (lN 1)))))] := hD
          refine lv_iinc (v := nI (k + 1)) (lv' := [(4, .int (nI (k + 1))), (0, .ref b), (1, .int (nI n)), (2, .int (nI r)), (3, .int (nI k0))]) hx hb dM_atLeast_26 hl (k := 4) rfl (nI_add _ _) (by decide) rfl (fun ls hl => ?_)
          refine lv_goto (tgt := 3) hx hb dM_atLeast_29 (by decide) ?_
          exact ih (k + 1) _ _ _ (by omega) (pg_0 (c := k0) hW (by simp [pG, g2])) hP hD hS (by omega) ls (lv_sub hl [1, 2, 3, 4, 0] rfl)
  refine lv_iconst (v := nI 0) hx hb dM_atLeast_0 (by decide) ?_
  refine lv_istore (lv' := [(4, .int (nI 0)), (0, .ref b), (1, .int (nI n)), (2, .int (nI r)), (3, .int (nI k0))]) hx hb dM_atLeast_1 hl (by decide) rfl (fun ls hl => ?_)
  exact loopA (n + 2) 0 Sz _ _ (by omega) (fun x hx => absurd hx (Nat.not_lt_zero _)) hP hD hS (by omega) ls (lv_sub hl [1, 2, 3, 4, 0] rfl)
