/-! THE CLAIM OUT OF ONE WALK OF THE LAW'S BODY. Your part is whole_start (and what it stands on); all else here is the same for every law, but numbers. -/
def R_law : String := "TasterPanelsLaw"
def lw_P (b : Addr) (xs : List Int32) (args : Array Value) (s : State) : Prop := args = #[.ref b] ∧ s.IntsAt b xs ∧ xs.length ≤ 3073 ∧ (Jvm.Cond.and given_1 narrow_1).before args s = true
def lw_Q (_ : Array Value) (s : State) (o : Outcome) (t : State) : Prop := o = .returned (some (.int 1)) ∧ Framed s o t [] 601024 7293000
def lw_Z (below : List Frame) (a : Array Value) (s : State) : State → Prop := fun t => ∃ o, t.status = .running ∧ Ended t below o ∧ lw_Q a s o t
/-- the law's own end, with 1 on the stack, nothing written that was there before, its room as the claim has it -/
theorem lw_ret {p : Program} {l : Launch} {e : Env} {s : State} {m : MethodId} {below : List Frame} {meth : Method} {c : Code} {b : Nat} (hx : p.tables.exec = Jvm.exec) (hb : c.code = code) (hr : meth.sig.returnType = ret) (hlocks : meth.locks = false) {pc : Nat} {H : Heap} {ls : Array Slot} (hdg : decode code pc = .ok (.ireturn, 1)) : W p l e room_1 s m #[Value.ref b] below meth c H [] 601024 7293000 (lw_Z below #[Value.ref b] s) (F0 m pc ls [.int 1]) := by
  intro T hT X
  obtain ⟨fs, hret, hrun, hended, hW, hframe⟩ := X.leave (v := some (.int 1)) (hlocks := hlocks) (fun h => by rw [hr] at h; cases h)
  have hmeth' : T.vm.method? m = some meth := X.method'
  refine ⟨T.setFrames fs, ?_, .returned (some (.int 1)), hrun, hended, rfl, ⟨_, rfl⟩, hW, hframe⟩
  jvm_step X.here [X.here.top, hx, hb, hdg, hmeth', hr, ret, narrow_b1]
  (try refine ⟨rfl, ?_⟩); (try refine ⟨rfl, ?_⟩)
  first | (intro acts; rw [hret _ acts rfl rfl rfl]) | rw [hret _ _ rfl rfl rfl]
  exact Steps.refl _
/-- what holds at the law's entry: the machine, the code, the tables' words (any of lw_tbl by 'hts w (by decide +kernel)'), the script of L ints xs at the cell b, what the Statement gives of the start (any of its parts by flat_of_before) -/
def lw_At (p : Program) (s : State) (m : MethodId) (meth : Method) (c : Code) (b L : Nat) (xs : Nat → Int32) : Prop :=
  p.tables.exec = Jvm.exec ∧ c.code = code ∧ meth.sig.returnType = ret ∧ c.maxLocals = 9 ∧ s.vm.findClass R_law = some m.cls ∧ (∀ w ∈ lw_tbl, w.before #[Value.ref b] s = true) ∧ va_X b L xs s s.heap ∧ b < s.heap.size ∧ meth.locks = false ∧ (Jvm.Cond.and given_1 narrow_1).before #[Value.ref b] s = true
/-! the law's loop, and its start -/
theorem lc_cmp {L t : Nat} (hL : L ≤ 3073) (ht : t ≤ 1000) : nI L - nI 6 < nI (6 * t + 1) ↔ L < 6 * t + 7 := by
  rw [Int32.lt_iff_toInt_lt, pk_sub_toInt (by omega) (by omega), nI_toInt (by omega)]
  omega
section LOOP
variable {p : Program} {l : Launch} {e : Env} {s : State} {m : MethodId} {below : List Frame} {meth : Method} {c : Code} {D : va_G} {κ : Nat → ClassId} {a bq L : Nat} {xs : Nat → Int32}
set_option maxHeartbeats 1000000 in
theorem law_loop (hC : LC p l s m meth c D κ a bq L xs) (hr : meth.sig.returnType = ret) (hlocks : meth.locks = false) : ∀ (fu t : Nat), 6 * t ≤ L + 5 → 1000 - t < fu → ∀ (H : Heap) (locs : List Loc) (ls : Array Slot), LI D κ a H → va_S (fun q => a ≤ q) s.heap H locs → lv_has ls 9 (lvL a bq t) → WL p l e s m below meth c bq H locs (15 + 4 * t) (7473 + 189 * t) (lw_Z below #[Value.ref bq] s) (F0 m 35 ls []) := by
  intro fu
  induction fu with
  | zero =>
    intro t h1 h2
    exact absurd h2 (Nat.not_lt_zero _)
  | succ fu ih =>
    intro t h1 h2 H locs ls hI hS hl
    obtain ⟨⟨hx, hb, hml, hown, hT⟩, ⟨hX, hbl, hE, hsa, hL⟩, hlt⟩ := id hC
    have hbA : ¬ (fun q : Nat => a ≤ q) bq := fun h => by have h : a ≤ bq := h; omega
    refine lv_iload hx hb dL_law_35 (lv_at hl 4 rfl) ?_
    refine lv_aload_n hx hb dL_law_37 rfl (lv_at hl 0 rfl) ?_
    refine va_slen hx hb hX hbl hbA hS dL_law_38 ?_
    refine lv_bipush (v := nI 6) hx hb dL_law_39 (by decide) ?_
    refine lv_isub hx hb dL_law_41 ?_
    refine lv_icmp_gt (tgt := 748) hx hb dL_law_42 (by decide) (fun g1 => ?_) (fun g1 => ?_)
    · refine lv_iconst (v := 1) hx hb dL_law_748 (by decide) ?_
      refine va_forget (fun q hq => by have h9 : a ≤ q.base := hS.2.2 q hq; omega) ?_
      refine W.widen (k := 601024) (n := 7293000) (by omega) (by omega) ?_
      exact lw_ret hx hb hr hlocks dL_law_749
    · have ht : 6 * t + 7 ≤ L := Nat.le_of_not_lt (fun q => g1 ((lc_cmp hL (by omega)).mpr q))
      have KK : GO p l e s m below meth c D κ a bq t (lw_Z below #[Value.ref bq] s) := by
        intro H locs ls hI hS hl
        refine lv_iinc (v := nI (6 * (t + 1) + 1)) (lv' := [(4, .int (nI (6 * (t + 1) + 1))), (0, .ref bq), (1, .ref a), (2, .ref (a + 5)), (3, .ref (a + 14))]) hx hb dL_law_742 hl (k := 4) rfl (by show nI (6 * t + 1) + nI 6 = _; rw [nI_add, show 6 * t + 1 + 6 = 6 * (t + 1) + 1 by omega]) (by decide) rfl (fun ls hl => ?_)
        refine lv_goto (tgt := 35) hx hb dL_law_745 (by decide) ?_
        exact ih (t + 1) (by omega) (by omega) H locs ls hI hS (lv_sub hl [1, 2, 3, 4, 0] rfl)
      refine lv_aload_n hx hb dL_law_45 rfl (lv_at hl 0 rfl) ?_
      refine lv_iload hx hb dL_law_46 (lv_at hl 4 rfl) ?_
      refine x_sld (j := 6 * t + 1) hx hb hX hbl hbA hS (by omega) (by omega) dL_law_48 ?_
      refine lv_bipush (v := nI 15) hx hb dL_law_49 (by decide) ?_
      refine lv_iand hx hb dL_law_51 ?_
      obtain ⟨j, hj, ej⟩ := pk_andE (xs (6 * t + 1)) (m := nI 15) 4 (by decide)
      rw [ej]
      rcases (show j = 0 ∨ j = 1 ∨ j = 2 ∨ j = 3 ∨ j = 4 ∨ j = 5 ∨ j = 6 ∨ j = 7 ∨ j = 8 ∨ j = 9 ∨ j = 10 ∨ j = 11 ∨ j = 12 ∨ j = 13 ∨ j = 14 ∨ j = 15 by omega) with rfl | rfl | rfl | rfl | rfl | rfl | rfl | rfl | rfl | rfl | rfl | rfl | rfl | rfl | rfl | rfl
      · exact lv_tableIn (tgt := 120) hx hb dL_law_52 (by decide) (by decide) (show _ = some 68 by decide) (by decide) (law_0 hC ht hI hS hl KK)
      · exact lv_tableIn (tgt := 133) hx hb dL_law_52 (by decide) (by decide) (show _ = some 81 by decide) (by decide) (law_1 hC ht hI hS hl KK)
      · exact lv_tableIn (tgt := 170) hx hb dL_law_52 (by decide) (by decide) (show _ = some 118 by decide) (by decide) (law_2 hC ht hI hS hl KK)
      · exact lv_tableIn (tgt := 219) hx hb dL_law_52 (by decide) (by decide) (show _ = some 167 by decide) (by decide) (law_3 hC ht hI hS hl KK)
      · exact lv_tableIn (tgt := 268) hx hb dL_law_52 (by decide) (by decide) (show _ = some 216 by decide) (by decide) (law_4 hC ht hI hS hl KK)
      · exact lv_tableIn (tgt := 306) hx hb dL_law_52 (by decide) (by decide) (show _ = some 254 by decide) (by decide) (law_5 hC ht hI hS hl KK)
      · exact lv_tableIn (tgt := 331) hx hb dL_law_52 (by decide) (by decide) (show _ = some 279 by decide) (by decide) (law_6 hC ht hI hS hl KK)
      · exact lv_tableIn (tgt := 392) hx hb dL_law_52 (by decide) (by decide) (show _ = some 340 by decide) (by decide) (law_7 hC ht hI hS hl KK)
      · exact lv_tableIn (tgt := 430) hx hb dL_law_52 (by decide) (by decide) (show _ = some 378 by decide) (by decide) (law_8 hC ht hI hS hl KK)
      · exact lv_tableIn (tgt := 483) hx hb dL_law_52 (by decide) (by decide) (show _ = some 431 by decide) (by decide) (law_9 hC ht hI hS hl KK)
      · exact lv_tableIn (tgt := 548) hx hb dL_law_52 (by decide) (by decide) (show _ = some 496 by decide) (by decide) (law_10 hC ht hI hS hl KK)
      · exact lv_tableIn (tgt := 573) hx hb dL_law_52 (by decide) (by decide) (show _ = some 521 by decide) (by decide) (law_11 hC ht hI hS hl KK)
      · exact lv_tableIn (tgt := 686) hx hb dL_law_52 (by decide) (by decide) (show _ = some 634 by decide) (by decide) (law_12 hC ht hI hS hl KK)
      · refine lv_tableOut (tgt := 742) hx hb dL_law_52 (Or.inr (by decide)) (by decide) ?_
        refine W.widen (k := 15 + 4 * (t + 1)) (n := 7473 + 189 * (t + 1)) (by omega) (by omega) ?_
        exact KK _ _ _ hI hS hl
      · refine lv_tableOut (tgt := 742) hx hb dL_law_52 (Or.inr (by decide)) (by decide) ?_
        refine W.widen (k := 15 + 4 * (t + 1)) (n := 7473 + 189 * (t + 1)) (by omega) (by omega) ?_
        exact KK _ _ _ hI hS hl
      · refine lv_tableOut (tgt := 742) hx hb dL_law_52 (Or.inr (by decide)) (by decide) ?_
        refine W.widen (k := 15 + 4 * (t + 1)) (n := 7473 + 189 * (t + 1)) (by omega) (by omega) ?_
        exact KK _ _ _ hI hS hl
end LOOP
theorem RC_0 {D : va_G} {κ : Nat → ClassId} {a : Nat} {sd : Int64} {H : Heap} (hP : va_P D vwCl [(a, .inr (2, [.long sd, .ref (a + 1), .ref (a + 2), .int (nI 0), .int (nI 0), .ref (a + 3), .ref (a + 4)])), ((a + 1), .inl (κ 3, 26, .inr (.inr (.inr (.inr (fun _ => none)))))), ((a + 2), .inl (κ 4, 40, .inr (.inr (.inr (.inr (fun _ => none)))))), ((a + 3), .inl (κ 0, 120, .inl (fun _ => nI 0))), ((a + 4), .inl (κ 2, 131, .inr (.inl (fun _ => lN 0))))] H) (hz : a + 5 ≤ H.size) : RC D κ a a sd 0 0 (fun _ => 0) (fun _ => 0) (fun _ _ => 0) (fun _ _ => 0) (fun _ => 0) (fun _ => 0) (fun _ => 0) (fun _ => 0) (fun _ => 0) (fun _ => 0) (fun _ _ => 0) (fun _ _ => 0) (fun _ _ => 0) H :=
  ⟨⟨_, _, _, _, hP, fun i _ => (if_neg (Nat.not_lt_zero _)).symm, fun i _ => (if_neg (Nat.not_lt_zero _)).symm⟩, fun i h => absurd h (Nat.not_lt_zero _), fun i h => absurd h (Nat.not_lt_zero _), ⟨by omega, by omega, Nat.le_refl _, hz⟩, fun i h => absurd h (Nat.not_lt_zero _), fun i h => absurd h (Nat.not_lt_zero _), fun i h => absurd h (Nat.not_lt_zero _), fun i h => absurd h (Nat.not_lt_zero _), fun i i' _ h => absurd h (Nat.not_lt_zero _), fun i i' _ h => absurd h (Nat.not_lt_zero _), fun i j h => absurd h (Nat.not_lt_zero _)⟩
theorem RM_0 {D : va_G} {κ : Nat → ClassId} {a : Nat} {sd : Int64} {H : Heap} (hP : va_P D vwCl [((a + 5), .inr (3, [.long sd, .int (nI 0), .int (nI 0), .ref (a + 5 + 1), .ref (a + 5 + 2), .ref (a + 5 + 3), .ref (a + 5 + 4), .ref (a + 5 + 5), .ref (a + 5 + 6), .ref (a + 5 + 7), .ref (a + 5 + 8), .int (nI 0)])), ((a + 5 + 1), .inl (κ 0, 40, .inl (fun _ => nI 0))), ((a + 5 + 2), .inl (κ 0, 40, .inl (fun _ => nI 0))), ((a + 5 + 3), .inl (κ 0, 1040, .inl (fun _ => nI 0))), ((a + 5 + 4), .inl (κ 0, 5200, .inl (fun _ => nI 0))), ((a + 5 + 5), .inl (κ 0, 416, .inl (fun _ => nI 0))), ((a + 5 + 6), .inl (κ 0, 120, .inl (fun _ => nI 0))), ((a + 5 + 7), .inl (κ 2, 140, .inr (.inl (fun _ => lN 0)))), ((a + 5 + 8), .inl (κ 2, 140, .inr (.inl (fun _ => lN 0))))] H) (hz : a + 14 ≤ H.size) : RMo D κ a (a + 5) sd 0 0 (fun _ => 0) (fun _ => 0) (fun _ => 0) (fun _ => 0) (fun _ => 0) 0 H :=
  ⟨⟨_, _, _, hP⟩, ⟨by omega, by omega, by omega, by omega, by omega⟩, fun j h => absurd h (Nat.not_lt_zero _), fun _ _ => Nat.zero_le _, fun _ _ => Nat.zero_le _, fun _ _ => Nat.zero_le _⟩
set_option maxHeartbeats 2000000 in
theorem whole_start {p : Program} {e : Env} {s : State} {m : MethodId} {below : List Frame} {meth : Method} {c : Code} (l : Launch) (hlt : l.stackTraces = false) {bq L : Nat} {xs : Nat → Int32} (hL : L ≤ 3073) (C0 : lw_At p s m meth c bq L xs) : W p l e room_1 s m #[Value.ref bq] below meth c s.heap [] 0 0 (lw_Z below #[Value.ref bq] s) (entryFrame m ([Value.ref bq] : List Value).toArray 9) := by
  obtain ⟨hx, hb, hr, hml, hown, hts, hX, hbl, hlocks, hn⟩ := C0
  have hT : ∀ w ∈ TT, w.before #[Value.ref bq] s = true := fun w h => hts w (TT_in h)
  obtain ⟨D, κ, hE⟩ := ev_go hts hn
  obtain ⟨a, ha⟩ : ∃ a, s.heap.size = a := ⟨_, rfl⟩
  rw [ha] at hE
  have hK := hE.1.1
  obtain ⟨X0, hX0⟩ : ∃ X0, X0 = if 0 < L then xs 0 else nI 0 := ⟨_, rfl⟩
  obtain ⟨sd, hsd⟩ : ∃ sd, X0.toInt64 = sd := ⟨_, rfl⟩
  have hAb : ∀ q : Nat, (fun q : Nat => a ≤ q) q → a ≤ q := fun _ h => h
  have hA : ∀ q : Nat, s.heap.size ≤ q → (fun q : Nat => a ≤ q) q := fun q h => by show a ≤ q; omega
  have hS : va_S (fun q => a ≤ q) s.heap s.heap [] := va_S.rf
  have hP : va_P D vwCl [] s.heap := fun k q h => by cases h
  have hD : va_D (fun q => a ≤ q) [] := ⟨fun i j p q h => (by cases h), fun k q h => by cases h⟩
  have hl := lv_entry ([.ref bq]) (n := 9) (Nat.le_of_ble_eq_true rfl)
  rw [lg_entry_eq]
  generalize (lg_sl ([.ref bq]) ++ List.replicate (9 - (lg_sl ([.ref bq])).length) Slot.unset).toArray = ls at hl ⊢
  have hl : lv_has ls 9 [(0, .ref bq)] := hl
  refine x_new (ci := 2) (fs := [.long (lN 0), .null, .null, .int (nI 0), .int (nI 0), .null, .null]) (C := RP) (T := FP) (N := 7) hx hb hT inP tyP tyP_ok hown (hT _ kL8) (hT _ kxP) (hT _ knP) hK hP hD hS hA rfl (fun j hj => by rcases (show j = 0 ∨ j = 1 ∨ j = 2 ∨ j = 3 ∨ j = 4 ∨ j = 5 ∨ j = 6 by omega) with rfl | rfl | rfl | rfl | rfl | rfl | rfl <;> rfl) (Nat.le_of_ble_eq_true rfl) (Nat.le_of_ble_eq_true rfl) ha dL_law_0 (fun H hP hD hS hz => ?_)
  have hP : va_P D vwCl [(a, .inr (2, [.long (lN 0), .null, .null, .int (nI 0), .int (nI 0), .null, .null]))] H := hP
  have hD : va_D (fun q => a ≤ q) [(a, .inr (2, [.long (lN 0), .null, .null, .int (nI 0), .int (nI 0), .null, .null]))] := hD
  refine lv_dup hx hb dL_law_3 rfl ?_
  refine lv_aload_n hx hb dL_law_4 rfl (lv_at hl 0 rfl) ?_
  refine lv_iconst (v := nI 0) hx hb dL_law_5 (by decide) ?_
  rw [show (Value.ref bq) = .ref bq from rfl]
  refine x_callP (v := .int X0) (va_runS (As := [.ref bq, .int (nI 0)]) (rest := [.ref a, .ref a]) ⟨hx, hb, hml, hown, hT⟩ (hX0 ▸ c_L_cell l D κ a H bq L xs (by omega) (Nat.lt_of_lt_of_le hbl hS.1) (by omega)) (va_cwS 2 hT (TT_S kL15 ktL_cell knL kcL_cell) rfl rfl rfl (by decide +kernel) ⟨Nat.le_of_ble_eq_true rfl, Nat.le_of_ble_eq_true rfl⟩) (pcXs hE hX (by omega) hbl hS hAb) rfl rfl hl.1 rfl (lv_room (Nat.le_of_ble_eq_true rfl)) dL_law_6 ⟨Nat.le_of_ble_eq_true rfl, Nat.le_of_ble_eq_true rfl⟩) ?_
  refine lv_i2l (v := sd) hx hb dL_law_9 hsd ?_
  refine x_callW (va_runI (b := a) (As := [.long sd]) (rest := [.ref a]) ⟨hx, hb, hml, hown, hT⟩ (c_P_init l D κ a H sd hz hP hD (by omega)) (cwI 1 hT (TT_code kcP_init) rfl rfl rfl (hT _ knP) (hT _ kL21) (hT _ kiP_init) rfl (by decide +kernel) ⟨Nat.le_of_ble_eq_true rfl, Nat.le_of_ble_eq_true rfl⟩) (pcS hE.1 hS hAb) rfl rfl hl.1 rfl (lv_room (Nat.le_of_ble_eq_true rfl)) dL_law_10 ⟨Nat.le_of_ble_eq_true rfl, Nat.le_of_ble_eq_true rfl⟩) hS (va_free (wc := [(a, .inr (2, [.long (lN 0), .null, .null, .int (nI 0), .int (nI 0), .null, .null]))]) hD hS hA [0] rfl) (fun v H1 h => Pst.fr (va_free (wc := [(a, .inr (2, [.long (lN 0), .null, .null, .int (nI 0), .int (nI 0), .null, .null]))]) hD hS hA [0] rfl) h.1) (fun v H locs hpost hS => ?_)
  obtain ⟨⟨rfl, hP, hD, hz1, hk1⟩, hz⟩ := hpost
  have hD := hD.weaken (B := fun q => a ≤ q) (fun _ _ _ h => by
    rcases h with ⟨k, e, h⟩ | h
    · have hk : k < 1 := (List.getElem?_eq_some_iff.mp h).1
      rw [show k = 0 by omega] at h
      cases h
      exact Nat.le_refl _
    · show a ≤ _; omega)
  refine W.eq (g2 := F0 m 13 ls [.ref a]) rfl ?_
  refine lv_astore_n (lv' := [(1, .ref a), (0, .ref bq)]) hx hb dL_law_13 rfl hl (by decide) rfl (fun ls hl => ?_)
  refine x_new (ci := 3) (fs := [.long (lN 0), .int (nI 0), .int (nI 0), .null, .null, .null, .null, .null, .null, .null, .null, .int (nI 0)]) (C := RM) (T := FM) (N := 12) hx hb hT inM tyM tyM_ok hown (hT _ kL24) (hT _ kxM) (hT _ knM) hK hP hD hS hA rfl (fun j hj => by rcases (show j = 0 ∨ j = 1 ∨ j = 2 ∨ j = 3 ∨ j = 4 ∨ j = 5 ∨ j = 6 ∨ j = 7 ∨ j = 8 ∨ j = 9 ∨ j = 10 ∨ j = 11 by omega) with rfl | rfl | rfl | rfl | rfl | rfl | rfl | rfl | rfl | rfl | rfl | rfl <;> rfl) (Nat.le_of_ble_eq_true rfl) (Nat.le_of_ble_eq_true rfl) hz dL_law_14 (fun H hP hD hS hz => ?_)
  have hP : va_P D vwCl [(a, .inr (2, [.long sd, .ref (a + 1), .ref (a + 2), .int (nI 0), .int (nI 0), .ref (a + 3), .ref (a + 4)])), ((a + 1), .inl (κ 3, 26, .inr (.inr (.inr (.inr (fun _ => none)))))), ((a + 2), .inl (κ 4, 40, .inr (.inr (.inr (.inr (fun _ => none)))))), ((a + 3), .inl (κ 0, 120, .inl (fun _ => nI 0))), ((a + 4), .inl (κ 2, 131, .inr (.inl (fun _ => lN 0)))), ((a + 5), .inr (3, [.long (lN 0), .int (nI 0), .int (nI 0), .null, .null, .null, .null, .null, .null, .null, .null, .int (nI 0)]))] H := hP
  have hD : va_D (fun q => a ≤ q) [(a, .inr (2, [.long sd, .ref (a + 1), .ref (a + 2), .int (nI 0), .int (nI 0), .ref (a + 3), .ref (a + 4)])), ((a + 1), .inl (κ 3, 26, .inr (.inr (.inr (.inr (fun _ => none)))))), ((a + 2), .inl (κ 4, 40, .inr (.inr (.inr (.inr (fun _ => none)))))), ((a + 3), .inl (κ 0, 120, .inl (fun _ => nI 0))), ((a + 4), .inl (κ 2, 131, .inr (.inl (fun _ => lN 0)))), ((a + 5), .inr (3, [.long (lN 0), .int (nI 0), .int (nI 0), .null, .null, .null, .null, .null, .null, .null, .null, .int (nI 0)]))] := hD
  refine lv_dup hx hb dL_law_17 rfl ?_
  refine lv_aload_n hx hb dL_law_18 rfl (lv_at hl 1 rfl) ?_
  refine lv_iconst (v := nI 0) hx hb dL_law_19 (by decide) ?_
  refine x_callP (v := .int X0) (va_runS (As := [.ref bq, .int (nI 0)]) (rest := [.ref (a + 5), .ref (a + 5)]) ⟨hx, hb, hml, hown, hT⟩ (hX0 ▸ c_L_cell l D κ a H bq L xs (by omega) (Nat.lt_of_lt_of_le hbl hS.1) (by omega)) (va_cwS 2 hT (TT_S kL15 ktL_cell knL kcL_cell) rfl rfl rfl (by decide +kernel) ⟨Nat.le_of_ble_eq_true rfl, Nat.le_of_ble_eq_true rfl⟩) (pcXs hE hX (by omega) hbl hS hAb) rfl rfl hl.1 rfl (lv_room (Nat.le_of_ble_eq_true rfl)) dL_law_20 ⟨Nat.le_of_ble_eq_true rfl, Nat.le_of_ble_eq_true rfl⟩) ?_
  refine lv_i2l (v := sd) hx hb dL_law_23 hsd ?_
  have hFc := va_free (wc := [((a + 5), .inr (3, [.long (lN 0), .int (nI 0), .int (nI 0), .null, .null, .null, .null, .null, .null, .null, .null, .int (nI 0)]))]) hD hS hA [5] rfl
  have hPc := hP.sub (ws' := [((a + 5), .inr (3, [.long (lN 0), .int (nI 0), .int (nI 0), .null, .null, .null, .null, .null, .null, .null, .null, .int (nI 0)]))]) [5] rfl
  have hDc := hD.sub (ws' := [((a + 5), .inr (3, [.long (lN 0), .int (nI 0), .int (nI 0), .null, .null, .null, .null, .null, .null, .null, .null, .int (nI 0)]))]) [5] (by decide) rfl
  refine x_callW (va_runI (b := a + 5) (As := [.long sd]) (rest := [.ref (a + 5)]) ⟨hx, hb, hml, hown, hT⟩ (c_M_init l D κ a H sd hz hPc hDc (by omega)) (cwI 1 hT (TT_code kcM_init) rfl rfl rfl (hT _ knM) (hT _ kL26) (hT _ kiM_init) rfl (by decide +kernel) ⟨Nat.le_of_ble_eq_true rfl, Nat.le_of_ble_eq_true rfl⟩) (pcS hE.1 hS hAb) rfl rfl hl.1 rfl (lv_room (Nat.le_of_ble_eq_true rfl)) dL_law_24 ⟨Nat.le_of_ble_eq_true rfl, Nat.le_of_ble_eq_true rfl⟩) hS (fun q h => hFc q h) (fun v H1 h => Pst.fr hFc h.1) (fun v H locs hpost hS => ?_)
  obtain ⟨⟨rfl, hP1, hD1, hz1, hk1⟩, hz⟩ := hpost
  obtain ⟨hP, hD⟩ := va_join (wr := [(a, .inr (2, [.long sd, .ref (a + 1), .ref (a + 2), .int (nI 0), .int (nI 0), .ref (a + 3), .ref (a + 4)])), ((a + 1), .inl (κ 3, 26, .inr (.inr (.inr (.inr (fun _ => none)))))), ((a + 2), .inl (κ 4, 40, .inr (.inr (.inr (.inr (fun _ => none)))))), ((a + 3), .inl (κ 0, 120, .inl (fun _ => nI 0))), ((a + 4), .inl (κ 2, 131, .inr (.inl (fun _ => lN 0))))]) (w1 := [((a + 5), .inr (3, [.long sd, .int (nI 0), .int (nI 0), .ref (a + 5 + 1), .ref (a + 5 + 2), .ref (a + 5 + 3), .ref (a + 5 + 4), .ref (a + 5 + 5), .ref (a + 5 + 6), .ref (a + 5 + 7), .ref (a + 5 + 8), .int (nI 0)])), ((a + 5 + 1), .inl (κ 0, 40, .inl (fun _ => nI 0))), ((a + 5 + 2), .inl (κ 0, 40, .inl (fun _ => nI 0))), ((a + 5 + 3), .inl (κ 0, 1040, .inl (fun _ => nI 0))), ((a + 5 + 4), .inl (κ 0, 5200, .inl (fun _ => nI 0))), ((a + 5 + 5), .inl (κ 0, 416, .inl (fun _ => nI 0))), ((a + 5 + 6), .inl (κ 0, 120, .inl (fun _ => nI 0))), ((a + 5 + 7), .inl (κ 2, 140, .inr (.inl (fun _ => lN 0)))), ((a + 5 + 8), .inl (κ 2, 140, .inr (.inl (fun _ => lN 0))))]) hP hD [5] [0, 1, 2, 3, 4] rfl rfl (by decide) (by decide) hk1 hFc hP1 hD1
  have hz : H.size = a + 14 := by omega
  refine W.eq (g2 := F0 m 27 ls [.ref (a + 5)]) rfl ?_
  refine lv_astore_n (lv' := [(2, .ref (a + 5)), (1, .ref a), (0, .ref bq)]) hx hb dL_law_27 rfl hl (by decide) rfl (fun ls hl => ?_)
  refine lv_iconst (v := nI 1) hx hb dL_law_28 (by decide) ?_
  refine x_newa (atype := .long) (a0 := (1, .inr (.inl (fun _ => lN 0)))) hx hb (hT _ ka_long) rfl (fun C h => by cases h) hK hP hD hS hA 2 rfl (fun _ => rfl) (by decide) (by decide) (Nat.le_of_ble_eq_true rfl) (Nat.le_of_ble_eq_true rfl) hz dL_law_29 (fun H hP hD hS hz => ?_)
  refine lv_astore_n (lv' := [(3, .ref (a + 14)), (2, .ref (a + 5)), (1, .ref a), (0, .ref bq)]) hx hb dL_law_31 rfl hl (by decide) rfl (fun ls hl => ?_)
  refine lv_iconst (v := nI (6 * 0 + 1)) hx hb dL_law_32 (by decide) ?_
  refine lv_istore (lv' := [(4, .int (nI (6 * 0 + 1))), (3, .ref (a + 14)), (2, .ref (a + 5)), (1, .ref a), (0, .ref bq)]) hx hb dL_law_33 hl (by decide) rfl (fun ls hl => ?_)
  have hR := RC_0 (hP.sub (ws' := [(a, .inr (2, [.long sd, .ref (a + 1), .ref (a + 2), .int (nI 0), .int (nI 0), .ref (a + 3), .ref (a + 4)])), ((a + 1), .inl (κ 3, 26, .inr (.inr (.inr (.inr (fun _ => none)))))), ((a + 2), .inl (κ 4, 40, .inr (.inr (.inr (.inr (fun _ => none)))))), ((a + 3), .inl (κ 0, 120, .inl (fun _ => nI 0))), ((a + 4), .inl (κ 2, 131, .inr (.inl (fun _ => lN 0))))]) [0, 1, 2, 3, 4] rfl) (by omega)
  have hM := RM_0 (hP.sub (ws' := [((a + 5), .inr (3, [.long sd, .int (nI 0), .int (nI 0), .ref (a + 5 + 1), .ref (a + 5 + 2), .ref (a + 5 + 3), .ref (a + 5 + 4), .ref (a + 5 + 5), .ref (a + 5 + 6), .ref (a + 5 + 7), .ref (a + 5 + 8), .int (nI 0)])), ((a + 5 + 1), .inl (κ 0, 40, .inl (fun _ => nI 0))), ((a + 5 + 2), .inl (κ 0, 40, .inl (fun _ => nI 0))), ((a + 5 + 3), .inl (κ 0, 1040, .inl (fun _ => nI 0))), ((a + 5 + 4), .inl (κ 0, 5200, .inl (fun _ => nI 0))), ((a + 5 + 5), .inl (κ 0, 416, .inl (fun _ => nI 0))), ((a + 5 + 6), .inl (κ 0, 120, .inl (fun _ => nI 0))), ((a + 5 + 7), .inl (κ 2, 140, .inr (.inl (fun _ => lN 0)))), ((a + 5 + 8), .inl (κ 2, 140, .inr (.inl (fun _ => lN 0))))]) [5, 6, 7, 8, 9, 10, 11, 12, 13] rfl) (by omega)
  have hO := hP.sub (ws' := [((a + 14), .inl (κ 2, 1, .inr (.inl (fun _ => lN 0))))]) [14] rfl
  refine W.widen (k := 15 + 4 * 0) (n := 7473 + 189 * 0) (Nat.le_of_ble_eq_true rfl) (Nat.le_of_ble_eq_true rfl) ?_
  exact law_loop (a := a) (D := D) (κ := κ) (L := L) (xs := xs) ⟨⟨hx, hb, hml, hown, hT⟩, ⟨hX, hbl, hE, ha, hL⟩, hlt⟩ hr hlocks 1001 0 (by omega) (by omega) H locs ls (LI_mk hR hM tie_0 ⟨rfl, fun i h => absurd h (Nat.not_lt_zero _), fun i h => absurd h (Nat.not_lt_zero _)⟩ (by omega) hO) hS (lv_sub hl [4, 3, 2, 1, 0] rfl)
